/-! the first memory: both constructors, run -/
def zs0 : zm_Sig := (fun _ _ => 0, fun _ _ => 0, fun _ _ => none)
def zf1 : Option zm_Out := zn_run zp_P 2000 0 (0, lv_args 0 [.ref 0], [], [(0, 9)], zm_clr zs0 0, 0, 0)
def zf2 : Option zm_Out := zf1.bind fun o => if o.1.isNone = true ∧ o.2.1.length = 118 then zn_run zp_P 2000 173 (0, lv_args 0 [.ref 118], [], o.2.1 ++ [(0, 10)], zm_clr o.2.2 118, 0, 0) else none
def zfI0 : List (Nat × Nat) := [(80, 0), (80, 1), (80, 2), (20, 2), (30, 2), (30, 3), (19, 3), (52, 3), (118, 4), (118, 5), (118, 6), (118, 20), (135, 0), (135, 1), (135, 2), (118, 23), (138, 0), (138, 1), (138, 2)]
def zfI1 : List (Nat × Nat) := [(9, 0), (9, 1), (9, 2), (9, 3), (9, 4), (9, 5), (16, 0), (16, 1), (16, 2), (16, 3), (106, 3), (110, 3), (114, 3), (119, 0), (119, 1), (119, 2), (119, 3), (119, 4), (119, 5), (121, 0), (121, 1), (121, 2), (121, 3)]
def zchk (σ : zm_Sig) : Bool := zFx.all (fun q => decide (σ.2.2 q.1 q.2.1 = some q.2.2)) && (zfI0.all (fun q => decide (σ.1 q.1 q.2 = nI 0)) && (zfI1.all (fun q => decide (σ.1 q.1 q.2 = -nI 1)) && ((List.range 15).all (fun i => decide (σ.2.2 31 i = some (32 + i)) && decide (σ.2.2 60 i = some (61 + i))) && (decide (σ.2.2 0 11 = some 80) && (decide (σ.2.2 0 12 = some 93) && (decide (σ.2.2 19 4 = none) && (decide (σ.1 118 26 = σ.1 0 13) && (decide (σ.2.1 118 27 = σ.2.1 0 14) && (decide (σ.2.1 118 28 = σ.2.1 0 15) && (decide (σ.1 118 29 = σ.1 0 16) && (List.range 6).all (fun f => decide (σ.1 139 f = σ.1 76 f))))))))))))
def zchk2 (o : Option zm_Out) : Bool := match o with
  | some (none, lay, σ) => decide (lay = zL) && zchk σ
  | _ => false
set_option maxRecDepth 100000 in
theorem zf2_ok : zchk2 zf2 = true := by decide +kernel
def zG0 : zG := (0, 0, fun _ _ => 0, fun _ _ => 0, [])
theorem zG0_v : zGv zG0 := ⟨Nat.zero_le _, Nat.zero_le _, Nat.zero_le _, fun x p hx => absurd hx (Nat.not_lt_zero _), fun r hr => absurd hr List.not_mem_nil⟩
theorem zfirst_inv {σ : zm_Sig} (h : zchk σ = true) : zInv σ := by
  simp only [zchk, Bool.and_eq_true, List.all_eq_true, decide_eq_true_eq] at h
  obtain ⟨hF, h0, h1, h15, r1, r2, r3, k1, k2, k3, k4, k5⟩ := h
  have hF : zFix σ := hF
  have hV : zVk zG0 [] (fun _ => none) := ⟨zG0_v, Or.inl ⟨rfl, rfl, rfl, rfl, fun _ => rfl⟩⟩
  obtain ⟨z1, z2, z3, z4⟩ := hV.rs0 rfl
  have i0 : ∀ a k, (a, k) ∈ zfI0 → σ.1 a k = nI 0 := fun a k q => h0 (a, k) q
  have i1 : ∀ a k, (a, k) ∈ zfI1 → σ.1 a k = -nI 1 := fun a k q => h1 (a, k) q
  have l1 : ∀ r, r < 6 → σ.1 9 r = -nI 1 ∧ σ.1 119 r = -nI 1 := fun r hr => ⟨i1 _ _ ((show ∀ r, r < 6 → (9, r) ∈ zfI1 by decide) r hr), i1 _ _ ((show ∀ r, r < 6 → (119, r) ∈ zfI1 by decide) r hr)⟩
  have l2 : ∀ r, r < 4 → σ.1 16 r = -nI 1 ∧ σ.1 121 r = -nI 1 := fun r hr => ⟨i1 _ _ ((show ∀ r, r < 4 → (16, r) ∈ zfI1 by decide) r hr), i1 _ _ ((show ∀ r, r < 4 → (121, r) ∈ zfI1 by decide) r hr)⟩
  have l3 : ∀ k, k < 3 → σ.1 (106 + 4 * k) 3 = -nI 1 ∧ σ.1 138 k = nI 0 := fun r hr => ⟨i1 _ _ ((show ∀ r, r < 3 → (106 + 4 * r, 3) ∈ zfI1 by decide) r hr), i0 _ _ ((show ∀ r, r < 3 → (138, r) ∈ zfI0 by decide) r hr)⟩
  have p15 : ∀ i, i < 15 → σ.2.2 31 i = some (32 + i) ∧ σ.2.2 60 i = some (61 + i) := fun i hi => h15 i (List.mem_range.mpr hi)
  refine ⟨80, fun _ => none, fun _ => none, (σ.1 0 13, σ.2.1 0 14, σ.2.1 0 15, σ.1 0 16, fun f => σ.1 76 f), zG0, [], fun _ => none, ⟨hF, fun r hr => ⟨fun _ => (l1 r hr).1, fun l q => (by cases q)⟩, fun r hr => ⟨fun _ => (l2 r hr).1, fun l q => (by cases q)⟩, ⟨rfl, rfl, rfl, rfl, fun _ _ => rfl⟩, ?_⟩, ⟨hF, fun r hr => ⟨fun _ => (l1 r hr).2, fun l q => (by cases q)⟩, fun r hr => ⟨fun _ => (l2 r hr).2, fun l q => (by cases q)⟩, ⟨k1, k2, k3, k4, fun f hf => k5 f (List.mem_range.mpr hf)⟩, ?_⟩, hV⟩
  · refine ⟨Or.inl rfl, r1, r2, ⟨i0 _ _ (by decide), i0 _ _ (by decide), i0 _ _ (by decide), fun x p hx => absurd hx (Nat.not_lt_zero _), fun r hr => absurd hr (Nat.not_lt_zero _)⟩, ⟨?_, fun e he => absurd he (Nat.not_lt_zero _)⟩, ⟨fun i => i, ⟨fun i hi => (p15 i hi).1, fun i hi => hi, fun i j _ _ e => e⟩, ?_, fun i hi => ?_⟩, ?_, ?_, ⟨i0 _ _ (by decide), fun k hk => absurd hk (Nat.not_lt_zero _)⟩, fun k hk => ⟨fun _ => (l3 k hk).1, fun l q => (by cases q)⟩, fun q => absurd q (Nat.lt_irrefl _), fun _ => r3, ⟨fun i => i, fun i hi => (p15 i hi).2, fun i hi => hi, fun i j _ _ e => e⟩⟩
    · rw [z4]; exact i0 _ _ (by decide)
    · rw [z1]; exact i0 _ _ (by decide)
    · rw [z1] at hi; exact absurd hi (Nat.not_lt_zero _)
    · rw [z3]; exact i0 _ _ (by decide)
    · rw [z2]; exact i0 _ _ (by decide)
  · refine ⟨⟨i0 _ _ (by decide), i0 _ _ (by decide), i0 _ _ (by decide), fun x p hx => absurd hx (Nat.not_lt_zero _), fun r hr => absurd hr (Nat.not_lt_zero _)⟩, ⟨?_, fun e he => absurd he (Nat.not_lt_zero _)⟩, ⟨?_, ?_, ?_⟩, i0 _ _ (by decide), fun j hj => absurd hj (Nat.not_lt_zero _), fun k hk => ⟨fun _ => (l3 k hk).2, fun l q => (by cases q)⟩, fun q => absurd q (Nat.lt_irrefl _)⟩
    · rw [z4]; exact i0 _ _ (by decide)
    · rw [z2]; exact i0 _ _ (by decide)
    · rw [z3]; exact i0 _ _ (by decide)
    · rw [z1]
      exact ⟨i0 _ _ (by decide), fun i hi => absurd hi (Nat.not_lt_zero _)⟩
theorem zl_first : ∃ lay1 σ1 σ2, zn_run zp_P 2000 0 (0, lv_args 0 [.ref 0], [], [(0, 9)], zm_clr zs0 0, 0, 0) = some (none, lay1, σ1) ∧ lay1.length = 118 ∧ zn_run zp_P 2000 173 (0, lv_args 0 [.ref 118], [], lay1 ++ [(0, 10)], zm_clr σ1 118, 0, 0) = some (none, zL, σ2) ∧ zInv σ2 := by
  have h := zf2_ok
  unfold zchk2 at h
  split at h
  · next lay σ e =>
    simp only [Bool.and_eq_true, decide_eq_true_eq] at h
    obtain ⟨rfl, hz⟩ := h
    unfold zf2 at e
    obtain ⟨⟨o1, o2, o3⟩, e1, e⟩ := Option.bind_eq_some_iff.mp e
    split at e
    · next hq =>
      have hq1 : o1 = none := Option.isNone_iff_eq_none.mp hq.1
      subst hq1
      exact ⟨o2, o3, σ, e1, hq.2, e, zfirst_inv hz⟩
    · cases e
  · cases h
