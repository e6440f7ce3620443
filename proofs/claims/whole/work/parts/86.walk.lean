/-! the law's walk: arguments, calls, one case -/
def zd_law : zm_Mth := (x, code, 4, ret, [], (99, 1, 1), (10, 376, 600000, 7302250), [], [])
theorem zl_room : zm_rm zd_law = room_1 := rfl
def zl_dk (pc : Nat) (ins : Instr) (ln : Nat) : Bool := decide (decode code pc = .ok (ins, ln))
theorem zl_dk_s {pc : Nat} {ins : Instr} {ln : Nat} (h : zl_dk pc ins ln = true) : decode (zm_by zd_law) pc = .ok (ins, ln) := of_decide_eq_true h
def zl_arg (pc k : Nat) : Bool := zl_dk pc (.aload_n 0) 1 && (zl_dk (pc + 1) (.iload_n 3) 1 && (zl_dk (pc + 1 + 1) (.iconst (k : Int)) 1 && (decide (Int32.ofInt (k : Int) = nI k) && (zl_dk (pc + 1 + 1 + 1) .iadd 1 && zl_dk (pc + 1 + 1 + 1 + 1) .iaload 1))))
def zl_args : Nat → Nat → Nat → Bool
  | 0, _, _ => true
  | n + 1, pc, k => zl_arg pc k && zl_args n (pc + 1 + 1 + 1 + 1 + 1) (k + 1)
def zl_vs (xs : Nat → Int32) (i : Nat) : Nat → Nat → List Value
  | 0, _ => []
  | n + 1, k => .int (xs (i + k)) :: zl_vs xs i n (k + 1)
theorem zl_vs_len (xs : Nat → Int32) (i : Nat) : ∀ n k, (zl_vs xs i n k).length = n
  | 0, _ => rfl
  | n + 1, k => congrArg (· + 1) (zl_vs_len xs i n (k + 1))
theorem zl_vs_tr (xs : Nat → Int32) (i base : Nat) : ∀ n k, (zl_vs xs i n k).map (zm_tr base) = zl_vs xs i n k
  | 0, _ => rfl
  | n + 1, k => congrArg (Value.int (xs (i + k)) :: ·) (zl_vs_tr xs i base n (k + 1))
section ZLW
variable {p : Program} {l : Launch} {e : Env} {s : State} {m : MethodId} {args : Array Value} {below : List Frame} {meth : Method} {c : Code} {H : Heap} {locs : List Loc} {cells slots : Nat} {Q : State → Prop}
variable {base : Nat} {D : va_G} {ids : Nat → ClassId} {lay : zm_Lay} {σ : zm_Sig} {ls : Array Slot} {b L i : Nat} {xs : Nat → Int32}
theorem zl_push (hx : p.tables.exec = Jvm.exec) (hb : c.code = zm_by zd_law) (hX : va_X b L xs s s.heap) (hbl : b < s.heap.size) (hbA : ¬ zm_A base b) (hS : va_S (zm_A base) s.heap H locs) (l0 : ls[0]? = some (.val (.ref b))) (l3 : ls[3]? = some (.val (.int (nI i)))) (hi : i + 6 ≤ L) (hL : L ≤ 3072) :
    ∀ (n pc k : Nat) (st : List Value), k + n ≤ 6 → zl_args n pc k = true → W p l e (zm_rm zd_law) s m args below meth c H locs cells slots Q (F0 m (pc + 5 * n) ls ((zl_vs xs i n k).reverse ++ st)) → W p l e (zm_rm zd_law) s m args below meth c H locs cells slots Q (F0 m pc ls st) := by
  intro n
  induction n with
  | zero =>
    intro pc k st _ _ h
    rw [Nat.mul_zero, Nat.add_zero] at h
    exact h
  | succ n ih =>
    intro pc k st hk hz h
    simp only [zl_args, zl_arg, Bool.and_eq_true, decide_eq_true_eq] at hz
    obtain ⟨⟨z0, z1, z2, zc, z3, z4⟩, hz⟩ := hz
    refine lv_aload_n (i := 0) hx hb (zl_dk_s z0) rfl l0 ?_
    refine lv_iload_n (i := 3) hx hb (zl_dk_s z1) rfl l3 ?_
    refine lv_iconst hx hb (zl_dk_s z2) zc ?_
    refine lv_iadd hx hb (zl_dk_s z3) ?_
    rw [nI_add]
    refine va_sld hx hb hX hbl hbA hS (vp_in_nI (by omega) (by omega)) (zl_dk_s z4) ?_
    rw [nI_clamp (by omega)]
    refine ih _ (k + 1) _ (by omega) hz ?_
    have e1 : pc + 1 + 1 + 1 + 1 + 1 + 5 * n = pc + 5 * (n + 1) := by omega
    rw [e1]
    have e2 : (zl_vs xs i (n + 1) k).reverse ++ st = (zl_vs xs i n (k + 1)).reverse ++ Value.int (xs (i + k)) :: st := by
      show (Value.int (xs (i + k)) :: zl_vs xs i n (k + 1)).reverse ++ st = _
      rw [List.reverse_cons, List.append_assoc]
      rfl
    rw [e2] at h
    exact h
theorem zl_virt (B : zm_B p s m args meth c zd_law) (hK : zm_KU D ids s) (hH : zm_H base D ids lay σ H) (hS : va_S (zm_A base) s.heap H locs) (hls : ls.size = 4) {pc idx y np cN a n : Nat} {rs : List Nat} (hkr : zm_okc zp_P zd_law 0 idx (y :: np :: cN :: 0 :: 0 :: rs) = true)
    {N : zm_Mth} (hN : zp_P y = some N) {vs r : List Value} (hvs : vs.length = np) (ha : lay[a]? = some (0, cN)) (hroom : (r.map fun v => v.category).sum ≤ 8) (hcap : cells ≤ 600000 ∧ slots ≤ 7302250)
    (hsl : (lg_sl (.ref a :: vs)).length ≤ zm_ml N) {out : zm_Out} (hrun : zm_run zp_P n y (0, lv_args 0 (.ref a :: vs), [], lay, σ, 0, 0) = some out) (hdg : decode (zm_by zd_law) pc = .ok (.invokevirtual idx, 3))
    (kk : ∀ (H1 : Heap) (locs1 : List Loc), zm_H base D ids out.2.1 out.2.2 H1 → va_S (zm_A base) s.heap H1 locs1 → W p l e (zm_rm zd_law) s m args below meth c H1 locs1 cells slots Q (F0 m (pc + 3) ls ((out.1.map (zm_tr base)).toList ++ r.map (zm_tr base)))) :
    W p l e (zm_rm zd_law) s m args below meth c H locs cells slots Q (F0 m pc ls ((vs.reverse ++ .ref a :: r).map (zm_tr base))) := by
  have hl : vs.reverse.length = np := by rw [List.length_reverse]; exact hvs
  have e1 : (vs.reverse ++ .ref a :: r).drop np = .ref a :: r := List.drop_left' hl
  have e2 : ((vs.reverse ++ .ref a :: r).take np).reverse = vs := by rw [List.take_left' hl, List.reverse_reverse]
  exact zm_wvirt zk_Ok (zm_snd zk_Ok l base D ids n) B hK hH hS hls hkr hN e1 ha hroom hcap (by rw [e2]; exact hsl) (by rw [e2]; exact hrun) hdg kk
def zl_rt (y : Nat) (t : FieldType) : Bool := match zp_P y with
  | some N => decide (zm_rt N = some t)
  | none => false
def zl_ok (pc np yc ym i1 i2 t1 t2 kd : Nat) : Bool := zl_dk pc (.aload_n 1) 1 && (zl_args np (pc + 1) 1 && (zl_dk (pc + 1 + 5 * np) (.invokevirtual i1) 3 && (zl_dk (pc + 1 + 5 * np + 3) (.aload_n 2) 1 && (zl_args np (pc + 1 + 5 * np + 3 + 1) 1 && (zl_dk (pc + 1 + 5 * np + 3 + 1 + 5 * np) (.invokevirtual i2) 3 && (zm_okc zp_P zd_law 0 i1 [yc, np, 9, 0, 0, kd, t1, 0] && (zm_okc zp_P zd_law 0 i2 [ym, np, 10, 0, 0, kd, t2, 0] && decide (np ≤ 5))))))))
def zl_ki (pc np yc : Nat) : Bool := zl_rt yc .int && zl_dk (pc + 1 + 5 * np + 3 + 1 + 5 * np + 3) (.if_icmp .eq (1405 - (pc + 1 + 5 * np + 3 + 1 + 5 * np + 3 : Nat) : Int)) 3
def zl_kl (pc np yc : Nat) : Bool := zl_rt yc .long && (zl_dk (pc + 1 + 5 * np + 3 + 1 + 5 * np + 3) .lcmp 1 && zl_dk (pc + 1 + 5 * np + 3 + 1 + 5 * np + 3 + 1) (.ifCond .eq (1405 - (pc + 1 + 5 * np + 3 + 1 + 5 * np + 3 + 1 : Nat) : Int)) 3)
theorem zl_rt_s {y : Nat} {t : FieldType} (h : zl_rt y t = true) {N : zm_Mth} (hN : zp_P y = some N) : zm_rt N = some t := by
  unfold zl_rt at h
  rw [hN] at h
  exact of_decide_eq_true h
/-- one case of the law -/
theorem zl_case (B : zm_B p s m args meth c zd_law) (hK : zm_KU D ids s) (hX : va_X b L xs s s.heap) (hbl : b < s.heap.size) (hbA : ¬ zm_A base b) (hH : zm_H base D ids zL σ H) (hS : va_S (zm_A base) s.heap H locs) (hl : lv_has ls 4 [(3, .int (nI i)), (2, .ref (base + 118)), (1, .ref (base + 0)), (0, .ref b)]) (hi : i + 6 ≤ L) (hL : L ≤ 3072) (hcap : cells ≤ 600000 ∧ slots ≤ 7302250)
    {pc np yc ym i1 i2 t1 t2 kd : Nat} (hz : zl_ok pc np yc ym i1 i2 t1 t2 kd = true) (hk : zl_ki pc np yc = true ∨ zl_kl pc np yc = true) (hc : zCallV yc ym (zl_vs xs i np 1) σ)
    (kk : ∀ (σ2 : zm_Sig) (H1 : Heap) (locs1 : List Loc), zInv σ2 → zm_H base D ids zL σ2 H1 → va_S (zm_A base) s.heap H1 locs1 → W p l e (zm_rm zd_law) s m args below meth c H1 locs1 cells slots Q (F0 m 1405 ls [])) :
    W p l e (zm_rm zd_law) s m args below meth c H locs cells slots Q (F0 m pc ls []) := by
  have hx := B.1
  have hb := B.2.1
  have l0 := lv_at hl 3 rfl
  have l1 := lv_at hl 2 rfl
  have l2 := lv_at hl 1 rfl
  have l3 := lv_at hl 0 rfl
  obtain ⟨v, σ1, σ2, e1, e2, hI⟩ := hc
  obtain ⟨N1, n1, hN1, hs1, r1⟩ := zm_can_of e1
  obtain ⟨N2, n2, hN2, hs2, r2⟩ := zm_can_of e2
  simp only [zl_ok, Bool.and_eq_true, decide_eq_true_eq] at hz
  obtain ⟨z0, z1, z2, z3, z4, z5, z6, z7, hnp⟩ := hz
  have hv : zm_tr base v = v ∧ v.category ≤ 2 := by
    rcases hk with q | q
    · simp only [zl_ki, Bool.and_eq_true] at q
      obtain ⟨w, hw⟩ := (zl_kd n1 yc _ _ N1 hN1 r1).1 (zl_rt_s q.1 hN1)
      cases hw
      exact ⟨rfl, (by decide : 1 ≤ 2)⟩
    · simp only [zl_kl, Bool.and_eq_true] at q
      obtain ⟨w, hw⟩ := (zl_kd n1 yc _ _ N1 hN1 r1).2 (zl_rt_s q.1 hN1)
      cases hw
      exact ⟨rfl, (by decide : 2 ≤ 2)⟩
  have hlen := zl_vs_len xs i np 1
  have htr := zl_vs_tr xs i base np 1
  refine lv_aload_n (i := 1) hx hb (zl_dk_s z0) rfl l1 ?_
  refine zl_push hx hb hX hbl hbA hS l0 l3 hi hL np _ 1 _ (by omega) z1 ?_
  have g1 : (zl_vs xs i np 1).reverse ++ [Value.ref (base + 0)] = ((zl_vs xs i np 1).reverse ++ Value.ref 0 :: []).map (zm_tr base) := by
    rw [List.map_append, List.map_reverse, htr]
    rfl
  rw [g1]
  refine zl_virt B hK hH hS hl.1 z6 hN1 hlen rfl (by decide) hcap hs1 r1 (zl_dk_s z2) fun H1 locs1 hH1 hS1 => ?_
  show W p l e (zm_rm zd_law) s m args below meth c H1 locs1 cells slots Q (F0 m (pc + 1 + 5 * np + 3) ls [zm_tr base v])
  rw [hv.1]
  refine lv_aload_n (i := 2) hx hb (zl_dk_s z3) rfl l2 ?_
  refine zl_push hx hb hX hbl hbA hS1 l0 l3 hi hL np _ 1 _ (by omega) z4 ?_
  have g2 : (zl_vs xs i np 1).reverse ++ [Value.ref (base + 118), v] = ((zl_vs xs i np 1).reverse ++ Value.ref 118 :: [v]).map (zm_tr base) := by
    rw [List.map_append, List.map_reverse, htr]
    show _ = _ ++ [Value.ref (base + 118), zm_tr base v]
    rw [hv.1]
  rw [g2]
  refine zl_virt B hK hH1 hS1 hl.1 z7 hN2 hlen rfl (by have := hv.2; simp only [List.map_cons, List.map_nil, List.sum_cons, List.sum_nil]; omega) hcap hs2 r2 (zl_dk_s z5) fun H2 locs2 hH2 hS2 => ?_
  show W p l e (zm_rm zd_law) s m args below meth c H2 locs2 cells slots Q (F0 m (pc + 1 + 5 * np + 3 + 1 + 5 * np + 3) ls [zm_tr base v, zm_tr base v])
  rw [hv.1]
  have fin := kk σ2 H2 locs2 hI hH2 hS2
  rcases hk with q | q
  · simp only [zl_ki, Bool.and_eq_true] at q
    obtain ⟨w, hw⟩ := (zl_kd n1 yc _ _ N1 hN1 r1).1 (zl_rt_s q.1 hN1)
    cases hw
    exact lv_icmp_eq hx hb (zl_dk_s q.2) (tgt := 1405) (by omega) (fun _ => fin) (fun h => absurd rfl h)
  · simp only [zl_kl, Bool.and_eq_true] at q
    obtain ⟨w, hw⟩ := (zl_kd n1 yc _ _ N1 hN1 r1).2 (zl_rt_s q.1 hN1)
    cases hw
    refine W.lcmp hx hb (zl_dk_s q.2.1) ?_
    have e0 : lg_cmp w w = 0 := by
      unfold lg_cmp
      rw [if_neg (Int64.lt_irrefl), if_pos rfl]
    rw [e0]
    exact lv_if_eq hx hb (zl_dk_s q.2.2) (tgt := 1405) (by omega) (fun _ => fin) (fun h => absurd rfl h)
end ZLW
