/-! what the tables give at the law's entry -/
/-- int[][]: its class, whose rows are of the class of int[] -/
theorem zl_ii {args : Array Value} {s : State} {cI : ClassId} (hI : s.vm.findClass ("[" ++ FieldType.int.toString) = some cI) (h : (Cond.arrayOver (.array .int)).before args s = true) :
    ∃ (c : ClassId) (k : Class), s.vm.classes[c]? = some k ∧ k.kind = .array cI (.array .int) ∧ s.vm.findClass ("[" ++ (FieldType.array .int).toString) = some c := by
  have e : s.vm.findClass (FieldType.array .int).toString = some cI := hI
  unfold Cond.before Cond.holds at h
  simp only [Cond.value, e, Option.bind_some, beq_iff_eq, Option.bind_eq_some_iff, Option.map_eq_some_iff] at h
  obtain ⟨c, h1, k, h2, h3⟩ := h
  refine ⟨c, k, h2, ?_⟩
  have h4 := (Array.findIdx?_eq_some_iff_getElem.mp h1).choose_spec.1
  rw [(Array.getElem?_eq_some_iff.mp h2).2] at h4
  generalize k.kind = d at h3 h4 ⊢
  cases d <;> simp at h3 h4
  obtain ⟨rfl, h5⟩ := h3
  exact ⟨by rw [h4], h5⟩
theorem zl_arT {s : State} {cA comp : ClassId} {k : Class} {ty : FieldType} (hk : s.vm.classes[cA]? = some k) (hkind : k.kind = .array comp ty) : ArrOfT s cA ty := fun N z => ⟨(fun k h => by cases h), k, hk, comp, hkind⟩
theorem zl_cls {args : Array Value} {s : State} (hts : ∀ w ∈ lw_tbl, w.before args s = true) (c : Nat) : ∃ d : ClassId × (Nat → Nat), ∀ q : vw_C, zm_cl[c]? = some q → u_Kn s q.1 q.2.1 q.2.2 d.1 d.2 := by
  cases hq : zm_CF[c]? with
  | none => exact ⟨(0, fun _ => 0), fun q h => by
      unfold zm_cl at h
      rw [List.getElem?_map, hq] at h
      cases h⟩
  | some cf =>
    have hc : c < zm_CF.length := (List.getElem?_eq_some_iff.mp hq).1
    have hk := zk_cls c hc
    unfold zm_clok at hk
    rw [hq] at hk
    cases hft : zm_FT[c]? with
    | none => rw [hft] at hk; cases hk
    | some ft =>
      rw [hft] at hk
      simp only [Bool.and_eq_true, List.all_eq_true, decide_eq_true_eq] at hk
      have hw := hk.1.2
      obtain ⟨cC, iS, hKn⟩ := u_known (C := cf.1) (T := zm_T cf) (N := cf.2.length) (n := cf.2.length) hts (fun w h => (hw w (List.mem_cons_of_mem _ (List.mem_cons_of_mem _ h))).1) (hts _ (hw _ List.mem_cons_self).1)
      refine ⟨(cC, iS), fun q h => ?_⟩
      unfold zm_cl at h
      rw [List.getElem?_map, hq] at h
      cases h
      exact hKn
theorem zl_KU {args : Array Value} {s : State} (hts : ∀ w ∈ lw_tbl, w.before args s = true) : ∃ (D : va_G) (ids : Nat → ClassId), zm_KU D ids s := by
  have ht : ∀ w ∈ zm_Tb, w.before args s = true := fun w h => hts w (List.mem_filter.mp h).1
  obtain ⟨c1, k1, p1, f1, g1, h1⟩ := Cond.arrayClass_spec (ht _ zm_arw.1)
  obtain ⟨c2, k2, p2, f2, g2, h2⟩ := Cond.arrayClass_spec (ht _ zm_arw.2.1)
  obtain ⟨c3, k3, p3, f3, g3, h3⟩ := Cond.arrayClass_spec (ht _ zm_arw.2.2)
  obtain ⟨c4, k4, g4, h4, f4⟩ := zl_ii f1 (hts (.arrayOver (.array .int)) (by decide +kernel))
  have ho := va_AO.of (hts (.arrayOver (.object "SubgroupWriter$Trail")) (by decide +kernel))
  obtain ⟨p5, c5, k5, q5, -, g5, h5, f5⟩ := Cond.arrayOver_spec ho
  refine ⟨(fun c => (Classical.choose (zl_cls hts c)).1, fun c => (Classical.choose (zl_cls hts c)).2), fun k => if k = 1 then c1 else if k = 2 then c2 else if k = 3 then c3 else if k = 4 then c4 else c5, ⟨fun c q h => Classical.choose_spec (zl_cls hts c) q h, fun k q hk => ?_⟩, fun w hw hn => ?_, ⟨k4, g4, h4⟩, ho⟩
  · match k, hk with
    | 0, hk => cases hk; exact ⟨zl_arT g1 h1, f1⟩
    | 1, hk => cases hk; exact ⟨zl_arT g2 h2, f2⟩
    | 2, hk => cases hk; exact ⟨zl_arT g3 h3, f3⟩
    | 3, hk => cases hk; exact ⟨zl_arT g4 h4, f4⟩
    | 4, hk => cases hk; exact ⟨zl_arT g5 h5, k5, p5, g5, h5, q5, f5⟩
    | k + 5, hk => simp [zm_tys] at hk
  · have hz := hts w hw
    cases w <;> first | (cases hn; done) | exact va_Nw.of rfl hz
