theorem zm_fw_spec {σ σ1 : zm_Sig} {a k t : Nat} {v : Value} (h : zm_fw σ a k t v = some σ1) : zm_fv σ1 a k t = v ∧ (∀ j tj, j ≠ k → zm_fv σ1 a j tj = zm_fv σ a j tj) ∧ (∀ (base : Nat) (ids : Nat → ClassId) b sh, b ≠ a → zm_cell base ids σ1 b sh = zm_cell base ids σ b sh)
    ∧ ((t = 0 ∧ ∃ x, v = .int x) ∨ (t = 1 ∧ ∃ x, v = .long x) ∨ (t = 2 ∧ ∃ x, v = .ref x)) := by
  unfold zm_fw at h
  split at h
  · cases h
    refine ⟨?_, fun j tj hj => ?_, fun base ids b sh hb => zm_cell_I sh hb, Or.inl ⟨rfl, _, rfl⟩⟩
    · simp [zm_fv, zm_wI, va_up, upd]
    · simp [zm_fv, zm_wI, va_up, upd, hj]
  · cases h
    refine ⟨?_, fun j tj hj => ?_, fun base ids b sh hb => zm_cell_L sh hb, Or.inr (Or.inl ⟨rfl, _, rfl⟩)⟩
    · simp [zm_fv, zm_wL, va_up, vp_updL]
    · simp [zm_fv, zm_wL, va_up, vp_updL, hj]
  · cases h
    refine ⟨?_, fun j tj hj => ?_, fun base ids b sh hb => zm_cell_R sh hb, Or.inr (Or.inr ⟨rfl, _, rfl⟩)⟩
    · simp [zm_fv, zm_wR, va_up, va_rf]
    · simp [zm_fv, zm_wR, va_up, hj]
  · cases h
theorem zm_tyok_spec {base t : Nat} {ty : FieldType} {v : Value} (ht : zm_tyok t ty = true) (hv : (t = 0 ∧ ∃ x, v = .int x) ∨ (t = 1 ∧ ∃ x, v = .long x) ∨ (t = 2 ∧ ∃ x, v = .ref x)) : narrow ty (zm_tr base v) = zm_tr base v ∧ fits ty (zm_tr base v) = true := by
  rcases hv with ⟨rfl, x, rfl⟩ | ⟨rfl, x, rfl⟩ | ⟨rfl, x, rfl⟩ <;> cases ty <;> first | (simp [zm_tyok] at ht; done) | exact ⟨rfl, rfl⟩
/-- what is known of a class -/
theorem zm_class {P : Nat → Option zm_Mth} (hOk : zm_Ok P) {M : zm_Mth} {cN k t : Nat} {cf : String × List (String × String × Bool)} {ft : List Nat} {f : String × String × Bool} (hcf : zm_CF[cN]? = some cf) (hft : zm_FT[cN]? = some ft) (hf : cf.2[k]? = some f) (ht : ft[k]? = some t) :
    zm_cl[cN]? = some (cf.1, zm_T cf, cf.2.length) ∧ (∀ w ∈ u_ws cf.1 (zm_T cf) cf.2.length, w ∈ zm_ws M) ∧ (∀ j, j < cf.2.length → parseFieldDescriptor (zm_T cf j).2.2.1 = some (zm_ty0 cf j)) ∧ (∀ i, i < cf.2.length → ∀ j, j < cf.2.length → i ≠ j → (zm_T cf i).2.1 ≠ (zm_T cf j).2.1)
      ∧ k < cf.2.length ∧ zm_T cf k = (cf.1, f) ∧ zm_tyok t (zm_ty0 cf k) = true ∧ cf.2.length = ft.length := by
  have hlen : cN < zm_CF.length := (List.getElem?_eq_some_iff.mp hcf).1
  have hc := hOk.2 cN hlen
  unfold zm_clok at hc
  rw [hcf, hft] at hc
  simp only [Bool.and_eq_true, List.all_eq_true, beq_iff_eq, decide_eq_true_eq, List.mem_range, Bool.or_eq_true, Bool.not_eq_true', decide_eq_false_iff_not] at hc
  obtain ⟨⟨h1, h2⟩, h3⟩ := hc
  have hk : k < cf.2.length := (List.getElem?_eq_some_iff.mp hf).1
  refine ⟨?_, fun w hw => List.mem_cons_of_mem _ (List.mem_filter.mpr (h2 w (List.mem_cons_of_mem _ (List.mem_cons_of_mem _ hw)))), fun j hj => (h3 j hj).1.1, fun i hi j hj hne hq => ?_, hk, ?_, ?_, h1⟩
  · unfold zm_cl
    rw [List.getElem?_map, hcf]
    rfl
  · rcases (h3 i hi).2 j hj with q | q
    · exact hne q.symm
    · exact q hq
  · unfold zm_T
    rw [List.getD_eq_getElem?_getD, hf]
    rfl
  · have := (h3 k hk).1.2
    rw [List.getD_eq_getElem?_getD, ht] at this
    exact this
theorem zm_class0 {P : Nat → Option zm_Mth} (hOk : zm_Ok P) {M : zm_Mth} {cN : Nat} {cf : String × List (String × String × Bool)} (hcf : zm_CF[cN]? = some cf) :
    zm_cl[cN]? = some (cf.1, zm_T cf, cf.2.length) ∧ Cond.instantiable cf.1 cf.2.length ∈ zm_ws M ∧ Cond.initialized cf.1 ∈ zm_ws M ∧ (∀ w ∈ u_ws cf.1 (zm_T cf) cf.2.length, w ∈ zm_ws M) ∧ (∀ j, j < cf.2.length → parseFieldDescriptor (zm_T cf j).2.2.1 = some (zm_ty0 cf j)) ∧ ∃ ft, zm_FT[cN]? = some ft ∧ cf.2.length = ft.length ∧ ∀ j, j < cf.2.length → zm_tyok (ft.getD j 9) (zm_ty0 cf j) = true := by
  have hlen : cN < zm_CF.length := (List.getElem?_eq_some_iff.mp hcf).1
  have hc := hOk.2 cN hlen
  unfold zm_clok at hc
  cases hft : zm_FT[cN]? with
  | none => rw [hcf, hft] at hc; cases hc
  | some ft =>
    rw [hcf, hft] at hc
    simp only [Bool.and_eq_true, List.all_eq_true, beq_iff_eq, decide_eq_true_eq, List.mem_range, Bool.or_eq_true, Bool.not_eq_true', decide_eq_false_iff_not] at hc
    obtain ⟨⟨h1, h2⟩, h3⟩ := hc
    refine ⟨?_, List.mem_cons_of_mem _ (List.mem_filter.mpr (h2 _ List.mem_cons_self)), List.mem_cons_of_mem _ (List.mem_filter.mpr (h2 _ (List.mem_cons_of_mem _ List.mem_cons_self))), fun w hw => List.mem_cons_of_mem _ (List.mem_filter.mpr (h2 w (List.mem_cons_of_mem _ (List.mem_cons_of_mem _ hw)))), fun j hj => (h3 j hj).1.1, ft, rfl, h1, fun j hj => (h3 j hj).1.2⟩
    unfold zm_cl
    rw [List.getElem?_map, hcf]
    rfl
theorem zm_fl_at {base : Nat} {σ : zm_Sig} {a cN k t : Nat} {ft : List Nat} (hft : zm_FT[cN]? = some ft) (ht : ft[k]? = some t) : (zm_fl base σ a cN)[k]? = some (zm_tr base (zm_fv σ a k t)) := by
  unfold zm_fl
  rw [List.getD_eq_getElem?_getD, hft]
  simp [List.getElem?_mapIdx, ht]
section ZMF
variable {p : Program} {l : Launch} {e : Env} {R : Room} {s : State} {m : MethodId} {args : Array Value} {below : List Frame} {meth : Method} {c : Code} {H : Heap} {locs : List Loc} {cells slots : Nat} {Q : State → Prop}
variable {base : Nat} {D : va_G} {ids : Nat → ClassId} {lay : zm_Lay} {σ : zm_Sig} {pc a : Nat} {ls : Array Slot} {rest : List Value} {P : Nat → Option zm_Mth} {M : zm_Mth}
theorem zm_wget (hOk : zm_Ok P) (B : zm_B p s m args meth c M) (hK : zm_KU D ids s) (hH : zm_H base D ids lay σ H) {cN k t idx : Nat} {rs : List Nat} (hkr : zm_okf M idx (cN :: k :: t :: rs) false = true) (ha : lay[a]? = some (0, cN)) (hdg : decode (zm_by M) pc = .ok (.getfield idx, 3))
    (kk : W p l e R s m args below meth c H locs cells slots Q (F0 m (pc + 3) ls (zm_tr base (zm_fv σ a k t) :: rest))) : W p l e R s m args below meth c H locs cells slots Q (F0 m pc ls (.ref (base + a) :: rest)) := by
  obtain ⟨hx, hb, hr, hml, hown, hts, hlocks, hname⟩ := B
  unfold zm_okf at hkr
  split at hkr
  · next cN' k' t' ti nest heq =>
    cases heq
    split at hkr
    · next cf ft hcf hft =>
      split at hkr
      · next f hf =>
        simp only [Bool.and_eq_true, decide_eq_true_eq] at hkr
        obtain ⟨⟨ht, hw⟩, -⟩ := hkr
        obtain ⟨c1, c2, c3, c4, c5, c6, c7, c8⟩ := zm_class hOk (M := M) hcf hft hf ht
        rw [zm_fv_min] at kk
        by_cases hn : nest = 0
        · rw [if_pos hn] at hw
          refine va_get (own := (zm_nm M).cls) (ref := cf.1) hx hb hts c2 hown hK.1 (zm_one hH ha) 0 rfl c1 k c5 ?_ (fun z hz => by rw [c6] at hz ⊢; exact hz) (zm_fl_at hft ht) hdg kk
          rw [c6]
          exact hts _ (List.mem_cons_of_mem _ (zm_wd_mem hw))
        · rw [if_neg hn] at hw
          simp only [Bool.not_false, Bool.true_and, zm_wn, Bool.and_eq_true, decide_eq_true_eq] at hw
          refine va_getN (own := (zm_nm M).cls) (ref := cf.1) (host := "SubgroupWriter") hx hb hts c2 hown hK.1 (zm_one hH ha) 0 rfl c1 k c5 ?_ (fun z hz => by rw [c6] at hz ⊢; exact hz) (zm_fl_at hft ht) hdg kk
          rw [c6]
          exact va_Nw.use rfl (hK.2.1 _ (List.mem_of_getElem? hw.1) hw.2)
      · cases hkr
    · cases hkr
  · cases hkr
theorem zm_wput (hOk : zm_Ok P) (B : zm_B p s m args meth c M) (hK : zm_KU D ids s) (hH : zm_H base D ids lay σ H) (hS : va_S (zm_A base) s.heap H locs) {cN k t idx : Nat} {rs : List Nat} (hkr : zm_okf M idx (cN :: k :: t :: rs) true = true) (ha : lay[a]? = some (0, cN)) (hdg : decode (zm_by M) pc = .ok (.putfield idx, 3)) {v : Value} {σ1 : zm_Sig} (hw0 : zm_fw σ a k t v = some σ1)
    (kk : ∀ (H1 : Heap) (locs1 : List Loc), zm_H base D ids lay σ1 H1 → va_S (zm_A base) s.heap H1 locs1 → W p l e R s m args below meth c H1 locs1 cells slots Q (F0 m (pc + 3) ls rest)) : W p l e R s m args below meth c H locs cells slots Q (F0 m pc ls (zm_tr base v :: .ref (base + a) :: rest)) := by
  obtain ⟨hx, hb, hr, hml, hown, hts, hlocks, hname⟩ := B
  obtain ⟨f1, f2, f3, f4⟩ := zm_fw_spec hw0
  unfold zm_okf at hkr
  split at hkr
  · next cN' k' t' ti nest heq =>
    cases heq
    split at hkr
    · next cf ft hcf hft =>
      split at hkr
      · next f hf =>
        simp only [Bool.and_eq_true, decide_eq_true_eq, Bool.not_true, Bool.false_and, Bool.false_or, Bool.or_eq_true, Bool.not_eq_true'] at hkr
        obtain ⟨⟨ht, hw⟩, hfin⟩ := hkr
        have hmin : min t 2 = t := by rcases f4 with ⟨rfl, -⟩ | ⟨rfl, -⟩ | ⟨rfl, -⟩ <;> rfl
        rw [hmin] at ht
        obtain ⟨c1, c2, c3, c4, c5, c6, c7, c8⟩ := zm_class hOk (M := M) hcf hft hf ht
        have hn : nest = 0 := by
          by_cases hn : nest = 0
          · exact hn
          · rw [if_neg hn] at hw; cases hw
        rw [if_pos hn] at hw
        have hlink : (Cond.fieldLink (zm_nm M).cls idx cf.1 (zm_T cf k).2.1 (zm_T cf k).2.2.1).before args s = true := by
          rw [c6]
          exact hts _ (List.mem_cons_of_mem _ (zm_wd_mem hw))
        have hap := va_apart (own := (zm_nm M).cls) hts c2 (zm_ty0 cf) c3 c4 hK.1 c1
        obtain ⟨r, h1, cell, q1, q2, q3, q4⟩ := hH.2 a _ ha
        have hr0 : r = (cf.1, zm_T cf, cf.2.length) := Option.some.inj (h1.symm.trans c1)
        subst hr0
        obtain ⟨hSl, hfc, kC, hkC, hkind⟩ := hK.1.1 cN _ c1
        obtain ⟨cfx, kf, fi, fd, hi, hsl⟩ := hSl k c5
        have hlay := hts _ (c2 _ (u_in_lay c5))
        have hst := (u_facts hfc hkC (u_lays hts c2 c5) hi).1
        obtain ⟨hnar, hfit⟩ := zm_tyok_spec (base := base) c7 f4
        have e9 : (zm_T cf k).1 = cf.1 := by rw [c6]
        have hi' : s.fieldFound? cf.1 (zm_T cf k).2.1 (zm_T cf k).2.2.1 = some (cfx, kf, fi, fd) := by rw [← e9]; exact hi
        have fin : ∀ H1 : Heap, H1[base + a]? = some (cell.setSlot (D.2 cN k) (zm_tr base v)) → H1.size = H.size → (∀ q, q ≠ base + a → H1[q]? = H[q]?) → zm_H base D ids lay σ1 H1 := by
          intro H1 e1 e2 e3
          refine hH.put ha e2 e3 ⟨_, c1, t_OB.to (V := updV (vp_V (zm_fl base σ a cN)) k (zm_tr base v)) ⟨_, e1, q2, q3, t_set q4 hap c5 _⟩ (fun j hj => ?_)⟩ (fun b sh hb => f3 base ids b sh hb)
          have hj' : j < ft.length := by rw [← c8]; exact hj
          have htj : ft[j]? = some ft[j] := List.getElem?_eq_getElem hj'
          show (if j = k then zm_tr base v else vp_V (zm_fl base σ a cN) j) = vp_V (zm_fl base σ1 a cN) j
          unfold vp_V
          rw [List.getD_eq_getElem?_getD, List.getD_eq_getElem?_getD, zm_fl_at hft htj, zm_fl_at hft htj]
          by_cases hjk : j = k
          · subst hjk
            rw [if_pos rfl]
            have : ft[j] = t := Option.some.inj (htj.symm.trans ht)
            rw [this, f1]
            rfl
          · rw [if_neg hjk, f2 j _ hjk]
        unfold u_lay at hlay
        by_cases hff : (zm_T cf k).2.2.2 = true
        · rw [if_pos hff] at hlay
          have hff2 : f.2.2 = true := by rw [c6] at hff; exact hff
          rcases hfin with hfin | ⟨hi1, hi2⟩
          · rw [hfin] at hff2; cases hff2
          have hcf2 : m.cls = cfx := by
            obtain ⟨_, _, c', _, _, _, -, -, hf', -, -, -, hown2, -⟩ := Cond.laysFinal_spec hlay
            have e1 : c' = cfx := by have := hi.symm.trans hf'; simp at this; exact this.1.symm
            rw [e9, ← hi2] at hown2
            rw [← e1]; exact Option.some.inj (hown.symm.trans hown2)
          have h6 := u_fits hfc hkC hkind (Or.inr hlay) hi (c3 k c5) hnar hfit
          refine W.putFinK hx hb hown hlink hi' hst hcf2 (hname.trans hi1) (by rw [q2]; exact h6) q1 q3 (by rw [hsl]; exact k2_hasslot (q4 k c5)) rfl rfl hdg fun H' e1 e2 e3 => ?_
          rw [hsl] at e1 ⊢
          exact kk H' _ (fin H' e1 e2 e3) (hS.put e2 e3 (Nat.le_add_right _ _))
        · rw [if_neg hff] at hlay
          have h6 := u_store hfc hkC hkind hlay hi (c3 k c5) hnar hfit
          refine W.putK hx hb (f := fd) ⟨hown, hlink, ⟨_, _, _, hi'⟩, hst⟩ (by rw [q2]; exact h6) q1 q3 (by rw [hsl]; exact k2_hasslot (q4 k c5)) rfl rfl hdg fun H' e1 e2 e3 => ?_
          rw [hsl] at e1 ⊢
          exact kk H' _ (fin H' e1 e2 e3) (hS.put e2 e3 (Nat.le_add_right _ _))
      · cases hkr
    · cases hkr
  · cases hkr
end ZMF
