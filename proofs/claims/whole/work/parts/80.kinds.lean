/-! of what kind an answer is -/
def zl_kp (rt : Option FieldType) (o : zm_Out) : Prop := (rt = some .int → ∃ w, o.1 = some (.int w)) ∧ (rt = some .long → ∃ w, o.1 = some (.long w))
theorem zl_ret {rt : Option FieldType} {cc cs pc : Nat} {ins : Instr} {rs : List Nat} {lo : List (Nat × Value)} {st : List Value} {lay : zm_Lay} {σ : zm_Sig} {nc ns : Nat} {o : zm_Out} (h : zm_st1 rt cc cs pc ins rs lo st lay σ nc ns = some (.inr (.inl o))) : zl_kp rt o := by
  have nat := zm_nat (β := zm_Res) rt cc cs pc ins rs lo st lay σ nc ns (fun x => some (.inl x)) (fun _ => none) (fun y rk av lay σ f => some (.inr (.inr (y, rk, av, lay, σ, f))))
  rw [h, Option.bind_some] at nat
  have nat : zm_stp rt cc cs pc ins rs lo st lay σ nc ns (fun x => some (.inl x)) (fun _ => none) (fun y rk av lay σ f => some (.inr (.inr (y, rk, av, lay, σ, f)))) = (none : Option zm_Res) := nat
  cases ins
  case ireturn =>
    simp only [zm_st1, zm_stp] at h
    split at h
    · split at h
      · split at h
        · next hr =>
          cases h
          exact ⟨fun _ => ⟨_, rfl⟩, fun q => (by rw [hr] at q; cases q)⟩
        · split at h
          · next hr =>
            split at h
            · cases h
              exact ⟨fun _ => ⟨_, rfl⟩, fun q => (by rw [hr] at q; cases q)⟩
            · cases h
          · cases h
      · cases h
    · cases h
  case lreturn =>
    simp only [zm_st1, zm_stp] at h
    split at h
    · split at h
      · split at h
        · next hr =>
          cases h
          exact ⟨fun q => (by rw [hr] at q; cases q), fun _ => ⟨_, rfl⟩⟩
        · cases h
      · cases h
    · cases h
  case return_ =>
    simp only [zm_st1, zm_stp] at h
    split at h
    · split at h
      · split at h
        · next hr =>
          cases h
          exact ⟨fun q => (by rw [hr] at q; cases q), fun q => (by rw [hr] at q; cases q)⟩
        · cases h
      · cases h
    · cases h
  all_goals exact nomatch (h.symm.trans nat)
theorem zl_kd {P : Nat → Option zm_Mth} : ∀ (n y : Nat) (x : zm_St) (out : zm_Out) (M : zm_Mth), P y = some M → zm_run P n y x = some out → zl_kp (zm_rt M) out
  | 0, _, _, _, _, _, h => by cases h
  | n + 1, y, x, out, M, hM, h => by
    rw [zm_run_eq] at h
    obtain ⟨M', hM', h⟩ := Option.bind_eq_some_iff.mp h
    have e : M' = M := Option.some.inj (hM'.symm.trans hM)
    subst e
    obtain ⟨e, he, h⟩ := Option.bind_eq_some_iff.mp h
    obtain ⟨r, hr, h⟩ := Option.bind_eq_some_iff.mp h
    match r, hr, h with
    | .inl x', _, h => exact zl_kd n y _ out M' hM h
    | .inr (.inl o), hr, h =>
      cases h
      exact zl_ret hr
    | .inr (.inr (y', _, av, lay, σ, f)), _, h =>
      simp only [zm_el] at h
      obtain ⟨N, hN, h⟩ := Option.bind_eq_some_iff.mp h
      split at h
      · obtain ⟨o, ho, h⟩ := Option.bind_eq_some_iff.mp h
        exact zl_kd n y _ out M' hM h
      · cases h
