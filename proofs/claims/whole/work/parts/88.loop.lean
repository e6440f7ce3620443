/-! the law: its loop, its start -/
theorem zl_d0 : decode (zm_by zd_law) 0 = .ok (.new 7, 3) := by decide +kernel
theorem zl_d3 : decode (zm_by zd_law) 3 = .ok (.dup, 1) := by decide +kernel
theorem zl_d4 : decode (zm_by zd_law) 4 = .ok (.invokespecial 9, 3) := by decide +kernel
theorem zl_d7 : decode (zm_by zd_law) 7 = .ok (.astore_n 1, 1) := by decide +kernel
theorem zl_d8 : decode (zm_by zd_law) 8 = .ok (.new 10, 3) := by decide +kernel
theorem zl_d11 : decode (zm_by zd_law) 11 = .ok (.dup, 1) := by decide +kernel
theorem zl_d12 : decode (zm_by zd_law) 12 = .ok (.invokespecial 12, 3) := by decide +kernel
theorem zl_d15 : decode (zm_by zd_law) 15 = .ok (.astore_n 2, 1) := by decide +kernel
theorem zl_d16 : decode (zm_by zd_law) 16 = .ok (.iconst 0, 1) := by decide +kernel
theorem zl_d17 : decode (zm_by zd_law) 17 = .ok (.istore_n 3, 1) := by decide +kernel
theorem zl_d18 : decode (zm_by zd_law) 18 = .ok (.iload_n 3, 1) := by decide +kernel
theorem zl_d19 : decode (zm_by zd_law) 19 = .ok (.aload_n 0, 1) := by decide +kernel
theorem zl_d20 : decode (zm_by zd_law) 20 = .ok (.arraylength, 1) := by decide +kernel
theorem zl_d21 : decode (zm_by zd_law) 21 = .ok (.bipush 6, 2) := by decide +kernel
theorem zl_d23 : decode (zm_by zd_law) 23 = .ok (.isub, 1) := by decide +kernel
theorem zl_d24 : decode (zm_by zd_law) 24 = .ok (.if_icmp .gt 1387, 3) := by decide +kernel
theorem zl_d27 : decode (zm_by zd_law) 27 = .ok (.aload_n 0, 1) := by decide +kernel
theorem zl_d28 : decode (zm_by zd_law) 28 = .ok (.iload_n 3, 1) := by decide +kernel
theorem zl_d29 : decode (zm_by zd_law) 29 = .ok (.iaload, 1) := by decide +kernel
theorem zl_d30 : decode (zm_by zd_law) 30 = .ok (.bipush 63, 2) := by decide +kernel
theorem zl_d32 : decode (zm_by zd_law) 32 = .ok (.iand, 1) := by decide +kernel
theorem zl_d33 : decode (zm_by zd_law) 33 = .ok (.tableswitch 1372 0 41 zl_offs, 183) := by decide +kernel
theorem zl_d1405 : decode (zm_by zd_law) 1405 = .ok (.iinc 3 6, 3) := by decide +kernel
theorem zl_d1408 : decode (zm_by zd_law) 1408 = .ok (.goto (-1390), 3) := by decide +kernel
theorem zl_d1411 : decode (zm_by zd_law) 1411 = .ok (.iconst 1, 1) := by decide +kernel
theorem zl_d1412 : decode (zm_by zd_law) 1412 = .ok (.ireturn, 1) := by decide +kernel
def R_law : String := "SubgroupWriterLaw"
def lw_P (b : Addr) (xs : List Int32) (args : Array Value) (s : State) : Prop := args = #[.ref b] ∧ s.IntsAt b xs ∧ xs.length ≤ 3072 ∧ (Jvm.Cond.and given_1 narrow_1).before args s = true
def lw_Q (_ : Array Value) (s : State) (o : Outcome) (t : State) : Prop := o = .returned (some (.int 1)) ∧ Framed s o t [] 600000 7302250
def lw_Z (below : List Frame) (a : Array Value) (s : State) : State → Prop := fun t => ∃ o, t.status = .running ∧ Ended t below o ∧ lw_Q a s o t
/-- the law's own end, with 1 on the stack, nothing written that was there before, its room as the claim has it -/
theorem lw_ret {p : Program} {l : Launch} {e : Env} {s : State} {m : MethodId} {below : List Frame} {meth : Method} {c : Code} {b : Nat} (hx : p.tables.exec = Jvm.exec) (hb : c.code = code) (hr : meth.sig.returnType = ret) (hlocks : meth.locks = false) {pc : Nat} {H : Heap} {ls : Array Slot} (hdg : decode code pc = .ok (.ireturn, 1)) : W p l e room_1 s m #[Value.ref b] below meth c H [] 600000 7302250 (lw_Z below #[Value.ref b] s) (F0 m pc ls [.int 1]) := by
  intro T hT X
  obtain ⟨fs, hret, hrun, hended, hW, hframe⟩ := X.leave (v := some (.int 1)) (hlocks := hlocks) (fun h => by rw [hr] at h; cases h)
  have hmeth' : T.vm.method? m = some meth := X.method'
  refine ⟨T.setFrames fs, ?_, .returned (some (.int 1)), hrun, hended, rfl, ⟨_, rfl⟩, hW, hframe⟩
  jvm_step X.here [X.here.top, hx, hb, hdg, hmeth', hr, ret, narrow_b1]
  (try refine ⟨rfl, ?_⟩); (try refine ⟨rfl, ?_⟩)
  first | (intro acts; rw [hret _ acts rfl rfl rfl]) | rw [hret _ _ rfl rfl rfl]
  exact Steps.refl _
def lw_At (p : Program) (s : State) (m : MethodId) (meth : Method) (c : Code) (b L : Nat) (xs : Nat → Int32) : Prop :=
  zm_B p s m #[Value.ref b] meth c zd_law ∧ (∀ w ∈ lw_tbl, w.before #[Value.ref b] s = true) ∧ va_X b L xs s s.heap ∧ b < s.heap.size
section ZLL
variable {p : Program} {l : Launch} {e : Env} {s : State} {m : MethodId} {below : List Frame} {meth : Method} {c : Code} {cells slots : Nat}
variable {D : va_G} {ids : Nat → ClassId} {b L : Nat} {xs : Nat → Int32}
theorem zl_end {base : Nat} (B : zm_B p s m #[Value.ref b] meth c zd_law) (hcap : cells ≤ 600000 ∧ slots ≤ 7302250) (hbs : s.heap.size = base) {H : Heap} {locs : List Loc} {ls : Array Slot} (hS : va_S (zm_A base) s.heap H locs) : W p l e room_1 s m #[Value.ref b] below meth c H locs cells slots (lw_Z below #[Value.ref b] s) (F0 m 1411 ls []) := by
  refine lv_iconst (v := 1) B.1 B.2.1 zl_d1411 (by decide) ?_
  refine va_forget (fun q hq => by rw [hbs]; exact hS.2.2 q hq) ?_
  refine W.widen hcap.1 hcap.2 ?_
  exact lw_ret B.1 B.2.1 B.2.2.1 B.2.2.2.2.2.2.1 zl_d1412
theorem zl_loop {base : Nat} (hL : L ≤ 3072) (C0 : lw_At p s m meth c b L xs) (hK : zm_KU D ids s) (hbs : s.heap.size = base) (hcap : cells ≤ 600000 ∧ slots ≤ 7302250) :
    ∀ (n i : Nat) (σ : zm_Sig) (H : Heap) (locs : List Loc) (ls : Array Slot), i ≤ L → L - i ≤ n → zInv σ → zm_H base D ids zL σ H → va_S (zm_A base) s.heap H locs → lv_has ls 4 [(3, .int (nI i)), (2, .ref (base + 118)), (1, .ref (base + 0)), (0, .ref b)] →
      W p l e (zm_rm zd_law) s m #[Value.ref b] below meth c H locs cells slots (lw_Z below #[Value.ref b] s) (F0 m 18 ls []) := by
  obtain ⟨B, hts, hX, hbl⟩ := id C0
  have hx := B.1
  have hb := B.2.1
  have hbA : ¬ zm_A base b := by show ¬ base ≤ b; omega
  have step : ∀ (i : Nat) (σ : zm_Sig) (H : Heap) (locs : List Loc) (ls : Array Slot), i ≤ L → zInv σ → zm_H base D ids zL σ H → va_S (zm_A base) s.heap H locs → lv_has ls 4 [(3, .int (nI i)), (2, .ref (base + 118)), (1, .ref (base + 0)), (0, .ref b)] →
      (i + 6 ≤ L → ∀ (σ : zm_Sig) (H : Heap) (locs : List Loc) (ls : Array Slot), zInv σ → zm_H base D ids zL σ H → va_S (zm_A base) s.heap H locs → lv_has ls 4 [(3, .int (nI (i + 6))), (2, .ref (base + 118)), (1, .ref (base + 0)), (0, .ref b)] → W p l e (zm_rm zd_law) s m #[Value.ref b] below meth c H locs cells slots (lw_Z below #[Value.ref b] s) (F0 m 18 ls [])) →
      W p l e (zm_rm zd_law) s m #[Value.ref b] below meth c H locs cells slots (lw_Z below #[Value.ref b] s) (F0 m 18 ls []) := by
    intro i σ H locs ls hiL hI hH hS hl next
    refine lv_iload_n (i := 3) hx hb zl_d18 rfl (lv_at hl 0 rfl) ?_
    refine lv_aload_n (i := 0) hx hb zl_d19 rfl (lv_at hl 3 rfl) ?_
    refine va_slen hx hb hX hbl hbA hS zl_d20 ?_
    refine lv_bipush (v := nI 6) hx hb zl_d21 (by decide) ?_
    refine lv_isub hx hb zl_d23 ?_
    have eT : (Int32.ofNat L - nI 6).toInt = (L : Int) - 6 := zT_sub (a := L) (b := 6) (by omega) (by decide)
    refine lv_icmp_gt hx hb zl_d24 (tgt := 1411) (by decide) (fun _ => zl_end B hcap hbs hS) (fun hc => ?_)
    have hi : i + 6 ≤ L := by
      rw [Int32.lt_iff_toInt_lt, eT, nI_toInt (by omega)] at hc
      omega
    refine lv_aload_n (i := 0) hx hb zl_d27 rfl (lv_at hl 3 rfl) ?_
    refine lv_iload_n (i := 3) hx hb zl_d28 rfl (lv_at hl 0 rfl) ?_
    refine va_sld hx hb hX hbl hbA hS (vp_in_nI (by omega) (by omega)) zl_d29 ?_
    refine lv_bipush (v := nI 63) hx hb zl_d30 (by decide) ?_
    refine lv_iand hx hb zl_d32 ?_
    generalize xs (nI i).toNatClampNeg &&& nI 63 = v
    have fin : ∀ (σ2 : zm_Sig) (H1 : Heap) (locs1 : List Loc), zInv σ2 → zm_H base D ids zL σ2 H1 → va_S (zm_A base) s.heap H1 locs1 → W p l e (zm_rm zd_law) s m #[Value.ref b] below meth c H1 locs1 cells slots (lw_Z below #[Value.ref b] s) (F0 m 1405 ls []) := by
      intro σ2 H1 locs1 hI2 hH2 hS2
      refine lv_iinc (k := 0) (v := nI (i + 6)) (lv' := [(3, .int (nI (i + 6))), (2, .ref (base + 118)), (1, .ref (base + 0)), (0, .ref b)]) hx hb zl_d1405 hl rfl ?_ (by decide) rfl (fun ls hl => ?_)
      · rw [show Int32.ofInt 6 = nI 6 by decide, nI_add]
      · exact lv_goto hx hb zl_d1408 (tgt := 18) (by decide) (next hi σ2 H1 locs1 ls hI2 hH2 hS2 hl)
    rcases z_cs v 41 (by decide) with ho | ⟨j, hj, rfl⟩
    · exact lv_tableOut hx hb zl_d33 ho (tgt := 1405) (by decide) (fin σ H locs hI hH hS)
    · obtain ⟨r, hr⟩ := zl_in j (by omega)
      have hto := zl_to j (by omega) r hr
      have hok := zl_all r (List.mem_of_getElem? hr)
      simp only [zl_rok, Bool.and_eq_true, Bool.or_eq_true] at hok
      have ej := nI_toInt (n := j) (by omega)
      refine lv_tableIn hx hb zl_d33 (tgt := r.1) (off := (r.1 : Int) - 33) (by omega) (by omega) ?_ (by omega) ?_
      · rw [ej, show ((j : Int) - 0).toNat = j by omega]
        exact hto
      · exact zl_case B hK hX hbl hbA hH hS hl hi hL hcap hok.1 hok.2 (zl_calls hI xs i j r hr) fin
  intro n
  induction n with
  | zero => exact fun i σ H locs ls h1 h2 h3 h4 h5 h6 => step i σ H locs ls h1 h3 h4 h5 h6 fun hi => by omega
  | succ n ih => exact fun i σ H locs ls h1 h2 h3 h4 h5 h6 => step i σ H locs ls h1 h3 h4 h5 h6 fun hi σ' H' locs' ls' g1 g2 g3 g4 => ih (i + 6) σ' H' locs' ls' hi (by omega) g1 g2 g3 g4
theorem whole_start (l : Launch) (hL : L ≤ 3072) (C0 : lw_At p s m meth c b L xs) : W p l e room_1 s m #[Value.ref b] below meth c s.heap [] 0 0 (lw_Z below #[Value.ref b] s) (entryFrame m ([Value.ref b] : List Value).toArray 4) := by
  obtain ⟨B, hts, hX, hbl⟩ := id C0
  have hx := B.1
  have hb := B.2.1
  obtain ⟨D, ids, hK⟩ := zl_KU hts
  obtain ⟨lay1, σ1, σ2, r1, z1, r2, hI⟩ := zl_first
  have hS : va_S (zm_A s.heap.size) s.heap s.heap [] := va_S.rf
  have hH : zm_H s.heap.size D ids [] zs0 s.heap := ⟨rfl, fun a sh h => by cases h⟩
  have hl := lv_entry ([.ref b]) (n := 4) (Nat.le_of_ble_eq_true rfl)
  rw [lg_entry_eq]
  generalize (lg_sl ([.ref b]) ++ List.replicate (4 - (lg_sl ([.ref b])).length) Slot.unset).toArray = ls at hl ⊢
  have hl : lv_has ls 4 [(0, .ref b)] := hl
  show W p l e (zm_rm zd_law) s m #[Value.ref b] below meth c s.heap [] 0 0 (lw_Z below #[Value.ref b] s) (F0 m 0 ls [])
  refine zm_wnew zk_Ok B hK hH hS (cN := 9) (ti := 116) (idx := 7) rfl (by decide +kernel) (by decide) (by decide) zl_d0 (fun H1 hH1 hS1 => ?_)
  have hH1 : zm_H s.heap.size D ids [(0, 9)] (zm_clr zs0 0) H1 := hH1
  refine lv_dup hx hb zl_d3 rfl ?_
  refine zn_wctor (a := 0) (st := [.ref 0, .ref 0]) (r := [.ref 0]) zk_Ok (zn_snd zk_Ok l s.heap.size D ids 2000) B hK hH1 hS1 hl.1 (idx := 9) (y := 0) (np := 0) (cN := 9) (mc := 117) (ms := 2809) (rs := [0, 118, 0]) (by decide +kernel) (N := zd_0) rfl rfl (by decide) (by decide) (by decide) r1 zl_d4 (fun H2 locs2 hH2 hS2 => ?_)
  refine lv_astore_n (lv' := [(1, .ref (s.heap.size + 0)), (0, .ref b)]) hx hb zl_d7 rfl hl (by decide) rfl (fun ls hl => ?_)
  refine zm_wnew zk_Ok B hK hH2 hS2 (cN := 10) (ti := 1122) (idx := 10) rfl (by decide +kernel) (by decide) (by decide) zl_d8 (fun H3 hH3 hS3 => ?_)
  rw [z1] at hH3 ⊢
  refine lv_dup hx hb zl_d11 rfl ?_
  refine zn_wctor (a := 118) (st := [.ref 118, .ref 118]) (r := [.ref 118]) zk_Ok (zn_snd zk_Ok l s.heap.size D ids 2000) B hK hH3 hS3 hl.1 (idx := 12) (y := 173) (np := 0) (cN := 10) (mc := 31) (ms := 23330) (rs := [0, 1124, 0]) (by decide +kernel) (N := zd_173) rfl rfl (by decide) (by decide) (by decide) r2 zl_d12 (fun H4 locs4 hH4 hS4 => ?_)
  refine lv_astore_n (lv' := [(2, .ref (s.heap.size + 118)), (1, .ref (s.heap.size + 0)), (0, .ref b)]) hx hb zl_d15 rfl hl (by decide) rfl (fun ls hl => ?_)
  refine lv_iconst (v := nI 0) hx hb zl_d16 (by decide) ?_
  refine lv_istore_n (lv' := [(3, .int (nI 0)), (2, .ref (s.heap.size + 118)), (1, .ref (s.heap.size + 0)), (0, .ref b)]) hx hb zl_d17 rfl hl (by decide) rfl (fun ls hl => ?_)
  exact zl_loop hL C0 hK rfl (by decide) L 0 σ2 H4 locs4 ls (Nat.zero_le _) (by omega) hI hH4 hS4 hl
end ZLL
