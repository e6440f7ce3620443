/-! a sign is solved for: what stands instead -/
def zOne (r : List Int32) (s : Int32) (p : Nat) : Prop := p < r.length ∧ (zat r p = s ∨ zat r p = -s) ∧ ∀ k, k < r.length → (zat r k = s ∨ zat r k = -s) → k = p
theorem ztm_cons (a : Int32) (r : List Int32) (s : Int32) : ztm (a :: r) s = ztm r s + (if a = s ∨ a = -s then 1 else 0) := by
  unfold ztm
  rw [List.countP_cons]
  by_cases e : a = s ∨ a = -s
  · rw [if_pos e, if_pos (decide_eq_true e)]
  · rw [if_neg e, if_neg (by rw [decide_eq_false e]; decide)]
theorem zat_0 (a : Int32) (r : List Int32) : zat (a :: r) 0 = a := rfl
theorem zat_s (a : Int32) (r : List Int32) (k : Nat) : zat (a :: r) (k + 1) = zat r k := rfl
theorem ztm_0 {r : List Int32} {s : Int32} (h : ztm r s = 0) : ∀ k, k < r.length → ¬ (zat r k = s ∨ zat r k = -s) := by
  induction r with
  | nil => intro k hk; cases hk
  | cons a r ih =>
    rw [ztm_cons] at h
    have h1 : ¬ (a = s ∨ a = -s) := fun q => by rw [if_pos q] at h; omega
    rw [if_neg h1] at h
    intro k hk
    cases k with
    | zero => exact h1
    | succ k => exact ih h k (by simpa using hk)
theorem zOne_of {r : List Int32} {s : Int32} (h : ztm r s = 1) : ∃ p, zOne r s p := by
  induction r with
  | nil => cases h
  | cons a r ih =>
    rw [ztm_cons] at h
    by_cases h1 : a = s ∨ a = -s
    · rw [if_pos h1] at h
      have h0 := ztm_0 (r := r) (s := s) (by omega)
      refine ⟨0, by simp, h1, fun k hk hq => ?_⟩
      cases k with
      | zero => rfl
      | succ k => exact absurd hq (h0 k (by simpa using hk))
    · rw [if_neg h1] at h
      obtain ⟨p, hp, hq, hu⟩ := ih h
      refine ⟨p + 1, by simpa using hp, hq, fun k hk hq => ?_⟩
      cases k with
      | zero => exact absurd hq h1
      | succ k => rw [hu k (by simpa using hk) hq]
theorem zOne_un {r : List Int32} {s : Int32} {p q : Nat} (h : zOne r s p) (h' : zOne r s q) : p = q := h'.2.2 p h.1 h.2.1
def zsolp (r : List Int32) (s : Int32) (p : Nat) : List Int32 := if zat r p = s then zinv (r.take p) ++ zinv (r.drop (p + 1)) else r.drop (p + 1) ++ r.take p
noncomputable def zpl (r : List Int32) (s : Int32) : Nat := @dite _ (∃ p, zOne r s p) (Classical.propDecidable _) (fun h => h.choose) (fun _ => 0)
theorem zpl_eq {r : List Int32} {s : Int32} {p : Nat} (h : zOne r s p) : zpl r s = p := by
  unfold zpl
  rw [dif_pos ⟨p, h⟩]
  exact zOne_un (Exists.choose_spec (p := fun p => zOne r s p) ⟨p, h⟩) h
noncomputable def zsol (r : List Int32) (s : Int32) : List Int32 := zsolp r s (zpl r s)
theorem zsolp_len {r : List Int32} {s : Int32} {p : Nat} (h : p < r.length) : (zsolp r s p).length = r.length - 1 := by
  unfold zsolp
  split <;> simp only [List.length_append, zinv_len, List.length_take, List.length_drop] <;> omega
theorem zinv_mem {r : List Int32} {x : Int32} (h : x ∈ zinv r) : -x ∈ r := by
  unfold zinv at h
  rw [List.mem_reverse, List.mem_map] at h
  obtain ⟨y, hy, rfl⟩ := h
  rw [Int32.neg_neg]
  exact hy
theorem zsolp_mem {r : List Int32} {s : Int32} {p : Nat} {x : Int32} (h : x ∈ zsolp r s p) : x ∈ r ∨ -x ∈ r := by
  unfold zsolp at h
  split at h
  · rcases List.mem_append.mp h with h | h
    · exact Or.inr (List.mem_of_mem_take (zinv_mem h))
    · exact Or.inr (List.mem_of_mem_drop (zinv_mem h))
  · rcases List.mem_append.mp h with h | h
    · exact Or.inl (List.mem_of_mem_drop h)
    · exact Or.inl (List.mem_of_mem_take h)
def zput1 (s : Int32) (sol w : List Int32) (x : Int32) : List Int32 := if x = s then sol.foldl zpush w else if x = -s then (zinv sol).foldl zpush w else zpush w x
def zwo (s : Int32) (sol r : List Int32) : List Int32 := r.foldl (zput1 s sol) []
theorem zput1_len {s : Int32} {sol w : List Int32} {x : Int32} (h : sol.length ≤ 15) : (zput1 s sol w x).length ≤ w.length + 15 := by
  unfold zput1
  split
  · have := zfold_len sol w; omega
  · split
    · have := zfold_len (zinv sol) w
      rw [zinv_len] at this
      omega
    · have := zpush_len w x; omega
theorem zput_len {s : Int32} {sol : List Int32} (h : sol.length ≤ 15) (r : List Int32) : ∀ w, (r.foldl (zput1 s sol) w).length ≤ w.length + 15 * r.length := by
  induction r with
  | nil => intro w; simp
  | cons a r ih =>
    intro w
    have h1 := ih (zput1 s sol w a)
    have h2 := zput1_len (s := s) (w := w) (x := a) h
    simp only [List.foldl_cons, List.length_cons]
    omega
theorem zput1_red {s : Int32} {sol w : List Int32} {x : Int32} (h : zRed w) : zRed (zput1 s sol w x) := by
  unfold zput1
  split
  · exact zfold_red h
  · split
    · exact zfold_red h
    · exact zpush_red h x
theorem zput_red {s : Int32} {sol : List Int32} (r : List Int32) : ∀ {w : List Int32}, zRed w → zRed (r.foldl (zput1 s sol) w) := by
  induction r with
  | nil => exact fun h => h
  | cons a r ih => exact fun h => ih (zput1_red h)
theorem zput1_zred {s : Int32} {sol w : List Int32} {x : Int32} (h : zRed w) : zput1 s (zred sol) w x = zput1 s sol w x := by
  unfold zput1
  split
  · exact (zfold_zred h sol).symm
  · split
    · rw [← zred_inv]; exact (zfold_zred h (zinv sol)).symm
    · rfl
theorem zput_zred {s : Int32} {sol : List Int32} (r : List Int32) : ∀ {w : List Int32}, zRed w → r.foldl (zput1 s (zred sol)) w = r.foldl (zput1 s sol) w := by
  induction r with
  | nil => exact fun _ => rfl
  | cons a r ih =>
    intro w h
    simp only [List.foldl_cons]
    rw [zput1_zred h]
    exact ih (zput1_red h)
theorem zwo_zred (s : Int32) (sol r : List Int32) : zwo s (zred sol) r = zwo s sol r := zput_zred r zRed.nil
theorem zwo_red (s : Int32) (sol r : List Int32) : zRed (zwo s sol r) := zput_red r zRed.nil
theorem zput_none {s : Int32} {sol : List Int32} (r : List Int32) : ∀ {w : List Int32}, ztm r s = 0 → r.foldl (zput1 s sol) w = r.foldl zpush w := by
  induction r with
  | nil => exact fun _ => rfl
  | cons a r ih =>
    intro w h
    rw [ztm_cons] at h
    have h1 : ¬ (a = s ∨ a = -s) := fun q => by rw [if_pos q] at h; omega
    rw [if_neg h1] at h
    simp only [List.foldl_cons]
    have e : zput1 s sol w a = zpush w a := by
      unfold zput1
      rw [if_neg (fun q => h1 (Or.inl q)), if_neg (fun q => h1 (Or.inr q))]
    rw [e]
    exact ih h
theorem zwo_none {s : Int32} {sol r : List Int32} (h : ztm r s = 0) : zwo s sol r = zred r := zput_none r h
theorem zput_mem {s : Int32} {sol : List Int32} (r : List Int32) : ∀ {w : List Int32} {x : Int32}, x ∈ r.foldl (zput1 s sol) w → x ∈ w ∨ x ∈ sol ∨ -x ∈ sol ∨ (x ∈ r ∧ ¬ x = s ∧ ¬ x = -s) := by
  induction r with
  | nil => exact fun h => Or.inl h
  | cons a r ih =>
    intro w x h
    rcases ih h with h | h | h | h
    · unfold zput1 at h
      split at h
      · rcases zfold_mem h with h | h
        · exact Or.inl h
        · exact Or.inr (Or.inl h)
      · split at h
        · rcases zfold_mem h with h | h
          · exact Or.inl h
          · exact Or.inr (Or.inr (Or.inl (zinv_mem h)))
        · next h1 h2 =>
          rcases zpush_mem h with h | h
          · exact Or.inl h
          · subst h
            exact Or.inr (Or.inr (Or.inr ⟨List.mem_cons_self, h1, h2⟩))
    · exact Or.inr (Or.inl h)
    · exact Or.inr (Or.inr (Or.inl h))
    · exact Or.inr (Or.inr (Or.inr ⟨List.mem_cons_of_mem _ h.1, h.2⟩))
/-- the class -/
def zabs (v : Int32) : Int32 := if 0 ≤ v.toInt then v else -v
theorem c_abs (σ : zm_Sig) (v : Int32) : zM 91 [.int v] zL σ = some (some (.int (zabs v)), zL, σ) := by
  refine zS_eq (zS_of ze_91 ?_)
  unfold zabs
  by_cases h : 0 ≤ v.toInt
  · simp (disch := first | assumption | omega) only [zn0, zn1, Option.bind_some, zm_ai, zm_al, zm_av, zm_opt, zm_fw, zE_l, zE_r, nI_add, pk_mul, pk_sub, pk_div, pk_rem, zrem, zpm1, zB_i0, zB_i1, zB_ok, zB_T, zB_F, nI_toInt, zT_sub, zT_neg, zT_le, zT_lt, nI_eq, zne1, zne2, ite_not, or_true, true_or, if_true, if_false, if_pos, if_neg, zw_R, zw_RL, zw_I, zF_R, zw_same, zw_cell, zw_ne, zF_at, zF_ne, zb_91_0]
  · simp (disch := first | assumption | omega) only [zn0, zn1, Option.bind_some, zm_ai, zm_al, zm_av, zm_opt, zm_fw, zE_l, zE_r, nI_add, pk_mul, pk_sub, pk_div, pk_rem, zrem, zpm1, zB_i0, zB_i1, zB_ok, zB_T, zB_F, nI_toInt, zT_sub, zT_neg, zT_le, zT_lt, nI_eq, zne1, zne2, ite_not, or_true, true_or, if_true, if_false, if_pos, if_neg, zw_R, zw_RL, zw_I, zF_R, zw_same, zw_cell, zw_ne, zF_at, zF_ne, zb_91_0]
theorem zabs_eq {v : Int32} {b : Nat} (h1 : 1 ≤ b) (h2 : b < 1000) : zabs v = nI b ↔ v = nI b ∨ v = -nI b := by
  unfold zabs
  constructor
  · intro h
    split at h
    · exact Or.inl h
    · right
      rw [← h, Int32.neg_neg]
  · rintro (rfl | rfl)
    · rw [if_pos (by rw [nI_toInt (by omega)]; omega)]
    · rw [if_neg (by rw [zT_neg (by omega)]; omega), Int32.neg_neg]
section ZSI
variable {σ : zm_Sig} {π : Nat → Nat} {i p b : Nat} {rs : List (List Int32)}
theorem c_solveInto (hF : zFix σ) (h : zCR σ π rs) (hw : zWR rs) (hi : i < rs.length) (hb1 : 1 ≤ b) (hb2 : b ≤ 15) (hp : zOne (zr rs i) (nI b) p) :
    ∃ σ', zM 113 [.ref 30, .int (nI i), .int (nI b)] zL σ = some (none, zL, σ') ∧ zCW σ' 50 (zred (zsolp (zr rs i) (nI b) p)) ∧ zKeep (zFW 50) σ σ' := by
  obtain ⟨w1, w2⟩ := id hw
  obtain ⟨w3, w4⟩ := w2 i hi
  refine zS_ex (zS_of ze_113 ?_)
  generalize hr : zr rs i = r at *
  obtain ⟨o1, o2, o3⟩ := hp
  simp (disch := first | assumption | omega) only [zn0, zn1, Option.bind_some, zm_ai, zm_al, zm_av, zm_opt, zm_fw, zE_l, zE_r, nI_add, pk_mul, pk_sub, pk_div, pk_rem, zrem, zpm1, zB_i0, zB_i1, zB_ok, zB_T, zB_F, nI_toInt, zT_sub, zT_neg, zT_le, zT_lt, nI_eq, zne1, zne2, ite_not, or_true, true_or, if_true, if_false, if_pos, if_neg, zw_R, zw_RL, zw_I, zF_R, zw_same, zw_cell, zw_ne, zF_at, zF_ne, zi_0, zi_1, zi_10, zi_17, zi_19, zi_20, zi_30, zi_48, zi_50, zi_52, zi_57, zi_59, zi_80, zi_93, zi_106, zi_110, zi_114, zx_0_0, zx_0_1, zx_0_2, zx_0_3, zx_0_4, zx_0_5, zx_0_6, zx_0_7, zx_0_8, zx_0_9, zx_0_10, zx_1_0, zx_1_1, zx_2_0, zx_2_1, zx_2_2, zx_2_3, zx_2_4, zx_2_5, zx_10_0, zx_10_1, zx_11_0, zx_11_1, zx_11_2, zx_11_3, zx_17_0, zx_19_0, zx_19_1, zx_19_2, zx_20_0, zx_20_1, zx_20_3, zx_20_4, zx_20_5, zx_20_6, zx_20_7, zx_20_8, zx_20_9, zx_30_0, zx_30_1, zx_30_4, zx_30_5, zx_48_0, zx_50_0, zx_52_0, zx_52_1, zx_52_2, zx_56_0, zx_56_1, zx_56_2, zx_57_0, zx_59_0, zx_80_3, zx_80_4, zx_80_5, zx_81_0, zx_81_1, zx_81_2, zx_81_3, zx_81_4, zx_81_5, zx_88_0, zx_88_1, zx_88_2, zx_93_3, zx_93_4, zx_93_5, zx_94_0, zx_94_1, zx_94_2, zx_94_3, zx_94_4, zx_94_5, zx_101_0, zx_101_1, zx_101_2, zx_106_0, zx_106_1, zx_106_2, zx_110_0, zx_110_1, zx_110_2, zx_114_0, zx_114_1, zx_114_2, zgI_9, zsI_9, zgI_16, zsI_16, zgI_18, zsI_18, zgI_21, zsI_21, zgI_22, zsI_22, zgI_23, zsI_23, zgI_24, zsI_24, zgI_25, zsI_25, zgI_26, zsI_26, zgI_27, zsI_27, zgI_28, zsI_28, zgI_29, zsI_29, zgI_47, zsI_47, zgI_49, zsI_49, zgI_51, zsI_51, zgI_53, zsI_53, zgI_54, zsI_54, zgI_55, zsI_55, zgI_58, zsI_58, zgI_76, zsI_76, zgI_79, zsI_79, zb_113_0, c_clear zw50]
  obtain ⟨hC0, hK0⟩ := zCW_clear 50 σ
  generalize zm_wI σ 50 1 (nI 0) = τ at *
  have hF0 := hK0.fix hF rfl
  have hR0 := h.keep w1 hK0 (zFW_rules (by omega)) rfl
  have facts : ∀ σ', zKeep (zFW 50) σ σ' → zFix σ' ∧ (∀ j, j < 15 → σ'.2.2 31 j = some (32 + π j)) ∧ π i < 15 ∧ σ'.1 47 i = nI r.length ∧ ∀ k, k < r.length → σ'.1 (32 + π i) k = zat r k := fun σ' hK => by
    have hR := h.keep w1 hK (zFW_rules (by omega)) rfl
    obtain ⟨hs', hv'⟩ := hR.2.2 i hi
    rw [hr] at hs' hv'
    exact ⟨hK.fix hF rfl, hR.1.1, hR.1.2.1 i (by omega), hs', hv'⟩
  have hneg : ∀ k, k < r.length → ¬ -zat r k = nI 0 := fun k hk => zne_neg (w4 _ (zat_mem hk))
  have hpos : ∀ k, k < r.length → ¬ zat r k = nI 0 := fun k hk => w4 _ (zat_mem hk)
  obtain ⟨f1, f2, f3, f4, f5⟩ := facts τ hK0
  refine zloopP (fun k => (12, [(0, .ref 30), (1, .int (nI i)), (2, .int (nI b)), (3, .int (nI (if p < k then p else 0))), (4, .int (nI k))], [], zL, τ, 0, 0)) (fun _ => True) r.length (fun k hk _ ih => ?_) (fun _ => ?_) trivial
  · have ih := ih trivial
    refine zW_of zg_113_12 ?_
    have f6 := f5 k hk
    by_cases e : zat r k = nI b ∨ zat r k = -nI b
    · have ek := o3 k hk e
      have e' := (zabs_eq hb1 (by omega)).mpr e
      rw [if_pos (by omega)] at ih
      simp (disch := first | assumption | omega) only [zn0, zn1, Option.bind_some, zm_ai, zm_al, zm_av, zm_opt, zm_fw, zE_l, zE_r, nI_add, pk_mul, pk_sub, pk_div, pk_rem, zrem, zpm1, zB_i0, zB_i1, zB_ok, zB_T, zB_F, nI_toInt, zT_sub, zT_neg, zT_le, zT_lt, nI_eq, zne1, zne2, ite_not, or_true, true_or, if_true, if_false, if_pos, if_neg, zw_R, zw_RL, zw_I, zF_R, zw_same, zw_cell, zw_ne, zF_at, zF_ne, zi_0, zi_1, zi_10, zi_17, zi_19, zi_20, zi_30, zi_48, zi_50, zi_52, zi_57, zi_59, zi_80, zi_93, zi_106, zi_110, zi_114, zx_0_0, zx_0_1, zx_0_2, zx_0_3, zx_0_4, zx_0_5, zx_0_6, zx_0_7, zx_0_8, zx_0_9, zx_0_10, zx_1_0, zx_1_1, zx_2_0, zx_2_1, zx_2_2, zx_2_3, zx_2_4, zx_2_5, zx_10_0, zx_10_1, zx_11_0, zx_11_1, zx_11_2, zx_11_3, zx_17_0, zx_19_0, zx_19_1, zx_19_2, zx_20_0, zx_20_1, zx_20_3, zx_20_4, zx_20_5, zx_20_6, zx_20_7, zx_20_8, zx_20_9, zx_30_0, zx_30_1, zx_30_4, zx_30_5, zx_48_0, zx_50_0, zx_52_0, zx_52_1, zx_52_2, zx_56_0, zx_56_1, zx_56_2, zx_57_0, zx_59_0, zx_80_3, zx_80_4, zx_80_5, zx_81_0, zx_81_1, zx_81_2, zx_81_3, zx_81_4, zx_81_5, zx_88_0, zx_88_1, zx_88_2, zx_93_3, zx_93_4, zx_93_5, zx_94_0, zx_94_1, zx_94_2, zx_94_3, zx_94_4, zx_94_5, zx_101_0, zx_101_1, zx_101_2, zx_106_0, zx_106_1, zx_106_2, zx_110_0, zx_110_1, zx_110_2, zx_114_0, zx_114_1, zx_114_2, zgI_9, zsI_9, zgI_16, zsI_16, zgI_18, zsI_18, zgI_21, zsI_21, zgI_22, zsI_22, zgI_23, zsI_23, zgI_24, zsI_24, zgI_25, zsI_25, zgI_26, zsI_26, zgI_27, zsI_27, zgI_28, zsI_28, zgI_29, zsI_29, zgI_47, zsI_47, zgI_49, zsI_49, zgI_51, zsI_51, zgI_53, zsI_53, zgI_54, zsI_54, zgI_55, zsI_55, zgI_58, zsI_58, zgI_76, zsI_76, zgI_79, zsI_79, zb_113_12, f2, f4, f6, zgR_31, zgI_ru, c_abs]
      rw [ek] at ih ⊢
      exact ih
    · have e' : ¬ zabs (zat r k) = nI b := fun q => e ((zabs_eq hb1 (by omega)).mp q)
      have ek : k ≠ p := fun q => e (by rw [q]; exact o2)
      rw [show (if p < k + 1 then p else 0) = (if p < k then p else 0) by split <;> split <;> omega] at ih
      simp (disch := first | assumption | omega) only [zn0, zn1, Option.bind_some, zm_ai, zm_al, zm_av, zm_opt, zm_fw, zE_l, zE_r, nI_add, pk_mul, pk_sub, pk_div, pk_rem, zrem, zpm1, zB_i0, zB_i1, zB_ok, zB_T, zB_F, nI_toInt, zT_sub, zT_neg, zT_le, zT_lt, nI_eq, zne1, zne2, ite_not, or_true, true_or, if_true, if_false, if_pos, if_neg, zw_R, zw_RL, zw_I, zF_R, zw_same, zw_cell, zw_ne, zF_at, zF_ne, zi_0, zi_1, zi_10, zi_17, zi_19, zi_20, zi_30, zi_48, zi_50, zi_52, zi_57, zi_59, zi_80, zi_93, zi_106, zi_110, zi_114, zx_0_0, zx_0_1, zx_0_2, zx_0_3, zx_0_4, zx_0_5, zx_0_6, zx_0_7, zx_0_8, zx_0_9, zx_0_10, zx_1_0, zx_1_1, zx_2_0, zx_2_1, zx_2_2, zx_2_3, zx_2_4, zx_2_5, zx_10_0, zx_10_1, zx_11_0, zx_11_1, zx_11_2, zx_11_3, zx_17_0, zx_19_0, zx_19_1, zx_19_2, zx_20_0, zx_20_1, zx_20_3, zx_20_4, zx_20_5, zx_20_6, zx_20_7, zx_20_8, zx_20_9, zx_30_0, zx_30_1, zx_30_4, zx_30_5, zx_48_0, zx_50_0, zx_52_0, zx_52_1, zx_52_2, zx_56_0, zx_56_1, zx_56_2, zx_57_0, zx_59_0, zx_80_3, zx_80_4, zx_80_5, zx_81_0, zx_81_1, zx_81_2, zx_81_3, zx_81_4, zx_81_5, zx_88_0, zx_88_1, zx_88_2, zx_93_3, zx_93_4, zx_93_5, zx_94_0, zx_94_1, zx_94_2, zx_94_3, zx_94_4, zx_94_5, zx_101_0, zx_101_1, zx_101_2, zx_106_0, zx_106_1, zx_106_2, zx_110_0, zx_110_1, zx_110_2, zx_114_0, zx_114_1, zx_114_2, zgI_9, zsI_9, zgI_16, zsI_16, zgI_18, zsI_18, zgI_21, zsI_21, zgI_22, zsI_22, zgI_23, zsI_23, zgI_24, zsI_24, zgI_25, zsI_25, zgI_26, zsI_26, zgI_27, zsI_27, zgI_28, zsI_28, zgI_29, zsI_29, zgI_47, zsI_47, zgI_49, zsI_49, zgI_51, zsI_51, zgI_53, zsI_53, zgI_54, zsI_54, zgI_55, zsI_55, zgI_58, zsI_58, zgI_76, zsI_76, zgI_79, zsI_79, zb_113_12, f2, f4, f6, zgR_31, zgI_ru, c_abs]
      exact ih
  · refine zW_of zg_113_12 ?_
    have f6 := f5 p o1
    have ep : (if p < r.length then p else 0) = p := if_pos o1
    by_cases e : zat r p = nI b
    · have e' : zsolp r (nI b) p = zinv (r.take p) ++ zinv (r.drop (p + 1)) := if_pos e
      rw [e]at f6
      rw [ep]
      simp (disch := first | assumption | omega) only [zn0, zn1, Option.bind_some, zm_ai, zm_al, zm_av, zm_opt, zm_fw, zE_l, zE_r, nI_add, pk_mul, pk_sub, pk_div, pk_rem, zrem, zpm1, zB_i0, zB_i1, zB_ok, zB_T, zB_F, nI_toInt, zT_sub, zT_neg, zT_le, zT_lt, nI_eq, zne1, zne2, ite_not, or_true, true_or, if_true, if_false, if_pos, if_neg, zw_R, zw_RL, zw_I, zF_R, zw_same, zw_cell, zw_ne, zF_at, zF_ne, zi_0, zi_1, zi_10, zi_17, zi_19, zi_20, zi_30, zi_48, zi_50, zi_52, zi_57, zi_59, zi_80, zi_93, zi_106, zi_110, zi_114, zx_0_0, zx_0_1, zx_0_2, zx_0_3, zx_0_4, zx_0_5, zx_0_6, zx_0_7, zx_0_8, zx_0_9, zx_0_10, zx_1_0, zx_1_1, zx_2_0, zx_2_1, zx_2_2, zx_2_3, zx_2_4, zx_2_5, zx_10_0, zx_10_1, zx_11_0, zx_11_1, zx_11_2, zx_11_3, zx_17_0, zx_19_0, zx_19_1, zx_19_2, zx_20_0, zx_20_1, zx_20_3, zx_20_4, zx_20_5, zx_20_6, zx_20_7, zx_20_8, zx_20_9, zx_30_0, zx_30_1, zx_30_4, zx_30_5, zx_48_0, zx_50_0, zx_52_0, zx_52_1, zx_52_2, zx_56_0, zx_56_1, zx_56_2, zx_57_0, zx_59_0, zx_80_3, zx_80_4, zx_80_5, zx_81_0, zx_81_1, zx_81_2, zx_81_3, zx_81_4, zx_81_5, zx_88_0, zx_88_1, zx_88_2, zx_93_3, zx_93_4, zx_93_5, zx_94_0, zx_94_1, zx_94_2, zx_94_3, zx_94_4, zx_94_5, zx_101_0, zx_101_1, zx_101_2, zx_106_0, zx_106_1, zx_106_2, zx_110_0, zx_110_1, zx_110_2, zx_114_0, zx_114_1, zx_114_2, zgI_9, zsI_9, zgI_16, zsI_16, zgI_18, zsI_18, zgI_21, zsI_21, zgI_22, zsI_22, zgI_23, zsI_23, zgI_24, zsI_24, zgI_25, zsI_25, zgI_26, zsI_26, zgI_27, zsI_27, zgI_28, zsI_28, zgI_29, zsI_29, zgI_47, zsI_47, zgI_49, zsI_49, zgI_51, zsI_51, zgI_53, zsI_53, zgI_54, zsI_54, zgI_55, zsI_55, zgI_58, zsI_58, zgI_76, zsI_76, zgI_79, zsI_79, zb_113_12, f2, f4, f6, zgR_31, zgI_ru]
      rw [Int32.sub_eq_add_neg]
      refine zloopD (fun c σ' => (64, [(0, .ref 30), (1, .int (nI i)), (3, .int (nI p)), (4, .int (nI c + -nI 1))], [], zL, σ', 0, 0)) (fun c σ' => c ≤ p ∧ zCW σ' 50 (zred ((zinv (r.take p)).take (p - c))) ∧ zKeep (zFW 50) σ σ') (fun c σ' hI ih => ?_) (fun σ' hI => ?_) p τ ⟨Nat.le_refl _, by rw [Nat.sub_self]; exact hC0, hK0⟩
      · obtain ⟨hc, hC, hK⟩ := hI
        obtain ⟨g1, g2, g3, g4, g5⟩ := facts σ' hK
        have hl := zred_len ((zinv (r.take p)).take (p - (c + 1)))
        simp only [List.length_take, zinv_len] at hl
        obtain ⟨σ2, e2, hC2, hK2⟩ := c_push g1 zw50 hC (by omega) (hneg c (by omega))
        have g6 := g5 c (by omega)
        refine zW_of zg_113_64 ?_
        simp (disch := first | assumption | omega) only [zn0, zn1, Option.bind_some, zm_ai, zm_al, zm_av, zm_opt, zm_fw, zE_l, zE_r, nI_add, pk_mul, pk_sub, pk_div, pk_rem, zrem, zpm1, zB_i0, zB_i1, zB_ok, zB_T, zB_F, nI_toInt, zT_sub, zT_neg, zT_le, zT_lt, nI_eq, zne1, zne2, ite_not, or_true, true_or, if_true, if_false, if_pos, if_neg, zw_R, zw_RL, zw_I, zF_R, zw_same, zw_cell, zw_ne, zF_at, zF_ne, zi_0, zi_1, zi_10, zi_17, zi_19, zi_20, zi_30, zi_48, zi_50, zi_52, zi_57, zi_59, zi_80, zi_93, zi_106, zi_110, zi_114, zx_0_0, zx_0_1, zx_0_2, zx_0_3, zx_0_4, zx_0_5, zx_0_6, zx_0_7, zx_0_8, zx_0_9, zx_0_10, zx_1_0, zx_1_1, zx_2_0, zx_2_1, zx_2_2, zx_2_3, zx_2_4, zx_2_5, zx_10_0, zx_10_1, zx_11_0, zx_11_1, zx_11_2, zx_11_3, zx_17_0, zx_19_0, zx_19_1, zx_19_2, zx_20_0, zx_20_1, zx_20_3, zx_20_4, zx_20_5, zx_20_6, zx_20_7, zx_20_8, zx_20_9, zx_30_0, zx_30_1, zx_30_4, zx_30_5, zx_48_0, zx_50_0, zx_52_0, zx_52_1, zx_52_2, zx_56_0, zx_56_1, zx_56_2, zx_57_0, zx_59_0, zx_80_3, zx_80_4, zx_80_5, zx_81_0, zx_81_1, zx_81_2, zx_81_3, zx_81_4, zx_81_5, zx_88_0, zx_88_1, zx_88_2, zx_93_3, zx_93_4, zx_93_5, zx_94_0, zx_94_1, zx_94_2, zx_94_3, zx_94_4, zx_94_5, zx_101_0, zx_101_1, zx_101_2, zx_106_0, zx_106_1, zx_106_2, zx_110_0, zx_110_1, zx_110_2, zx_114_0, zx_114_1, zx_114_2, zgI_9, zsI_9, zgI_16, zsI_16, zgI_18, zsI_18, zgI_21, zsI_21, zgI_22, zsI_22, zgI_23, zsI_23, zgI_24, zsI_24, zgI_25, zsI_25, zgI_26, zsI_26, zgI_27, zsI_27, zgI_28, zsI_28, zgI_29, zsI_29, zgI_47, zsI_47, zgI_49, zsI_49, zgI_51, zsI_51, zgI_53, zsI_53, zgI_54, zsI_54, zgI_55, zsI_55, zgI_58, zsI_58, zgI_76, zsI_76, zgI_79, zsI_79, zb_113_64, g2, g4, g6, zgR_31, zgI_ru, e2]
        refine ih σ2 ⟨by omega, ?_, hK.tr hK2⟩
        have hl2 : (r.take p).length = p := by rw [List.length_take]; omega
        rw [show p - c = p - (c + 1) + 1 by omega, zred_take (by rw [zinv_len]; omega), zat_inv (by omega), zat_take (by omega), hl2, show p - 1 - (p - (c + 1)) = c by omega]
        exact hC2
      · obtain ⟨hc, hC, hK⟩ := hI
        obtain ⟨g1, g2, g3, g4, g5⟩ := facts σ' hK
        rw [Nat.sub_zero, List.take_of_length_le (by rw [zinv_len, List.length_take]; omega)] at hC
        refine zW_of zg_113_64 ?_
        have em : (nI 0 + -nI 1).toInt = -1 := by decide
        simp (disch := first | assumption | omega) only [zn0, zn1, Option.bind_some, zm_ai, zm_al, zm_av, zm_opt, zm_fw, zE_l, zE_r, nI_add, pk_mul, pk_sub, pk_div, pk_rem, zrem, zpm1, zB_i0, zB_i1, zB_ok, zB_T, zB_F, nI_toInt, zT_sub, zT_neg, zT_le, zT_lt, nI_eq, zne1, zne2, ite_not, or_true, true_or, if_true, if_false, if_pos, if_neg, zw_R, zw_RL, zw_I, zF_R, zw_same, zw_cell, zw_ne, zF_at, zF_ne, zi_0, zi_1, zi_10, zi_17, zi_19, zi_20, zi_30, zi_48, zi_50, zi_52, zi_57, zi_59, zi_80, zi_93, zi_106, zi_110, zi_114, zx_0_0, zx_0_1, zx_0_2, zx_0_3, zx_0_4, zx_0_5, zx_0_6, zx_0_7, zx_0_8, zx_0_9, zx_0_10, zx_1_0, zx_1_1, zx_2_0, zx_2_1, zx_2_2, zx_2_3, zx_2_4, zx_2_5, zx_10_0, zx_10_1, zx_11_0, zx_11_1, zx_11_2, zx_11_3, zx_17_0, zx_19_0, zx_19_1, zx_19_2, zx_20_0, zx_20_1, zx_20_3, zx_20_4, zx_20_5, zx_20_6, zx_20_7, zx_20_8, zx_20_9, zx_30_0, zx_30_1, zx_30_4, zx_30_5, zx_48_0, zx_50_0, zx_52_0, zx_52_1, zx_52_2, zx_56_0, zx_56_1, zx_56_2, zx_57_0, zx_59_0, zx_80_3, zx_80_4, zx_80_5, zx_81_0, zx_81_1, zx_81_2, zx_81_3, zx_81_4, zx_81_5, zx_88_0, zx_88_1, zx_88_2, zx_93_3, zx_93_4, zx_93_5, zx_94_0, zx_94_1, zx_94_2, zx_94_3, zx_94_4, zx_94_5, zx_101_0, zx_101_1, zx_101_2, zx_106_0, zx_106_1, zx_106_2, zx_110_0, zx_110_1, zx_110_2, zx_114_0, zx_114_1, zx_114_2, zgI_9, zsI_9, zgI_16, zsI_16, zgI_18, zsI_18, zgI_21, zsI_21, zgI_22, zsI_22, zgI_23, zsI_23, zgI_24, zsI_24, zgI_25, zsI_25, zgI_26, zsI_26, zgI_27, zsI_27, zgI_28, zsI_28, zgI_29, zsI_29, zgI_47, zsI_47, zgI_49, zsI_49, zgI_51, zsI_51, zgI_53, zsI_53, zgI_54, zsI_54, zgI_55, zsI_55, zgI_58, zsI_58, zgI_76, zsI_76, zgI_79, zsI_79, zb_113_64, g4, em]
        have hL : (r.drop (p + 1)).length = r.length - 1 - p := by rw [List.length_drop]; omega
        rw [show r.length - 1 = p + (r.length - 1 - p) by omega]
        refine zloopD (fun c σ' => (102, [(0, .ref 30), (1, .int (nI i)), (3, .int (nI p)), (4, .int (nI (p + c)))], [], zL, σ', 0, 0)) (fun c σ' => c ≤ r.length - 1 - p ∧ zCW σ' 50 (zred (zinv (r.take p) ++ (zinv (r.drop (p + 1))).take (r.length - 1 - p - c))) ∧ zKeep (zFW 50) σ σ') (fun c σ' hI ih => ?_) (fun σ' hI => ?_) (r.length - 1 - p) σ' ⟨Nat.le_refl _, by rw [Nat.sub_self, List.take_zero, List.append_nil]; exact hC, hK⟩
        · obtain ⟨hc, hC, hK⟩ := hI
          obtain ⟨g1, g2, g3, g4, g5⟩ := facts σ' hK
          have hl := zred_len (zinv (r.take p) ++ (zinv (r.drop (p + 1))).take (r.length - 1 - p - (c + 1)))
          simp only [List.length_take, zinv_len, List.length_append, List.length_drop] at hl
          obtain ⟨σ2, e2, hC2, hK2⟩ := c_push g1 zw50 hC (by omega) (hneg (p + (c + 1)) (by omega))
          have g6 := g5 (p + (c + 1)) (by omega)
          have ez : nI (p + (c + 1)) + -nI 1 = nI (p + c) := zpm1 (p + c)
          refine zW_of zg_113_102 ?_
          simp (disch := first | assumption | omega) only [zn0, zn1, Option.bind_some, zm_ai, zm_al, zm_av, zm_opt, zm_fw, zE_l, zE_r, nI_add, pk_mul, pk_sub, pk_div, pk_rem, zrem, zpm1, zB_i0, zB_i1, zB_ok, zB_T, zB_F, nI_toInt, zT_sub, zT_neg, zT_le, zT_lt, nI_eq, zne1, zne2, ite_not, or_true, true_or, if_true, if_false, if_pos, if_neg, zw_R, zw_RL, zw_I, zF_R, zw_same, zw_cell, zw_ne, zF_at, zF_ne, zi_0, zi_1, zi_10, zi_17, zi_19, zi_20, zi_30, zi_48, zi_50, zi_52, zi_57, zi_59, zi_80, zi_93, zi_106, zi_110, zi_114, zx_0_0, zx_0_1, zx_0_2, zx_0_3, zx_0_4, zx_0_5, zx_0_6, zx_0_7, zx_0_8, zx_0_9, zx_0_10, zx_1_0, zx_1_1, zx_2_0, zx_2_1, zx_2_2, zx_2_3, zx_2_4, zx_2_5, zx_10_0, zx_10_1, zx_11_0, zx_11_1, zx_11_2, zx_11_3, zx_17_0, zx_19_0, zx_19_1, zx_19_2, zx_20_0, zx_20_1, zx_20_3, zx_20_4, zx_20_5, zx_20_6, zx_20_7, zx_20_8, zx_20_9, zx_30_0, zx_30_1, zx_30_4, zx_30_5, zx_48_0, zx_50_0, zx_52_0, zx_52_1, zx_52_2, zx_56_0, zx_56_1, zx_56_2, zx_57_0, zx_59_0, zx_80_3, zx_80_4, zx_80_5, zx_81_0, zx_81_1, zx_81_2, zx_81_3, zx_81_4, zx_81_5, zx_88_0, zx_88_1, zx_88_2, zx_93_3, zx_93_4, zx_93_5, zx_94_0, zx_94_1, zx_94_2, zx_94_3, zx_94_4, zx_94_5, zx_101_0, zx_101_1, zx_101_2, zx_106_0, zx_106_1, zx_106_2, zx_110_0, zx_110_1, zx_110_2, zx_114_0, zx_114_1, zx_114_2, zgI_9, zsI_9, zgI_16, zsI_16, zgI_18, zsI_18, zgI_21, zsI_21, zgI_22, zsI_22, zgI_23, zsI_23, zgI_24, zsI_24, zgI_25, zsI_25, zgI_26, zsI_26, zgI_27, zsI_27, zgI_28, zsI_28, zgI_29, zsI_29, zgI_47, zsI_47, zgI_49, zsI_49, zgI_51, zsI_51, zgI_53, zsI_53, zgI_54, zsI_54, zgI_55, zsI_55, zgI_58, zsI_58, zgI_76, zsI_76, zgI_79, zsI_79, zb_113_102, g2, g4, g6, zgR_31, zgI_ru, e2, ez]
          refine ih σ2 ⟨by omega, ?_, hK.tr hK2⟩
          rw [show r.length - 1 - p - c = r.length - 1 - p - (c + 1) + 1 by omega, ztake 0 (by rw [zinv_len]; omega), ← List.append_assoc, zred_snoc, ← zat, zat_inv (by omega), hL, zat_drop, show p + 1 + (r.length - 1 - p - 1 - (r.length - 1 - p - (c + 1))) = p + (c + 1) by omega]
          exact hC2
        · obtain ⟨hc, hC, hK⟩ := hI
          rw [Nat.sub_zero, List.take_of_length_le (l := zinv (r.drop (p + 1))) (by rw [zinv_len]; omega), ← e'] at hC
          refine zW_of zg_113_102 ?_
          simp (disch := first | assumption | omega) only [zn0, zn1, Option.bind_some, zm_ai, zm_al, zm_av, zm_opt, zm_fw, zE_l, zE_r, nI_add, pk_mul, pk_sub, pk_div, pk_rem, zrem, zpm1, zB_i0, zB_i1, zB_ok, zB_T, zB_F, nI_toInt, zT_sub, zT_neg, zT_le, zT_lt, nI_eq, zne1, zne2, ite_not, or_true, true_or, if_true, if_false, if_pos, if_neg, zw_R, zw_RL, zw_I, zF_R, zw_same, zw_cell, zw_ne, zF_at, zF_ne, zi_0, zi_1, zi_10, zi_17, zi_19, zi_20, zi_30, zi_48, zi_50, zi_52, zi_57, zi_59, zi_80, zi_93, zi_106, zi_110, zi_114, zx_0_0, zx_0_1, zx_0_2, zx_0_3, zx_0_4, zx_0_5, zx_0_6, zx_0_7, zx_0_8, zx_0_9, zx_0_10, zx_1_0, zx_1_1, zx_2_0, zx_2_1, zx_2_2, zx_2_3, zx_2_4, zx_2_5, zx_10_0, zx_10_1, zx_11_0, zx_11_1, zx_11_2, zx_11_3, zx_17_0, zx_19_0, zx_19_1, zx_19_2, zx_20_0, zx_20_1, zx_20_3, zx_20_4, zx_20_5, zx_20_6, zx_20_7, zx_20_8, zx_20_9, zx_30_0, zx_30_1, zx_30_4, zx_30_5, zx_48_0, zx_50_0, zx_52_0, zx_52_1, zx_52_2, zx_56_0, zx_56_1, zx_56_2, zx_57_0, zx_59_0, zx_80_3, zx_80_4, zx_80_5, zx_81_0, zx_81_1, zx_81_2, zx_81_3, zx_81_4, zx_81_5, zx_88_0, zx_88_1, zx_88_2, zx_93_3, zx_93_4, zx_93_5, zx_94_0, zx_94_1, zx_94_2, zx_94_3, zx_94_4, zx_94_5, zx_101_0, zx_101_1, zx_101_2, zx_106_0, zx_106_1, zx_106_2, zx_110_0, zx_110_1, zx_110_2, zx_114_0, zx_114_1, zx_114_2, zgI_9, zsI_9, zgI_16, zsI_16, zgI_18, zsI_18, zgI_21, zsI_21, zgI_22, zsI_22, zgI_23, zsI_23, zgI_24, zsI_24, zgI_25, zsI_25, zgI_26, zsI_26, zgI_27, zsI_27, zgI_28, zsI_28, zgI_29, zsI_29, zgI_47, zsI_47, zgI_49, zsI_49, zgI_51, zsI_51, zgI_53, zsI_53, zgI_54, zsI_54, zgI_55, zsI_55, zgI_58, zsI_58, zgI_76, zsI_76, zgI_79, zsI_79, zb_113_102]
          exact ⟨σ', rfl, hC, hK⟩
    · have e' : zsolp r (nI b) p = r.drop (p + 1) ++ r.take p := if_neg e
      rw [o2.resolve_left e] at f6
      rw [ep]
      simp (disch := first | assumption | omega) only [zn0, zn1, Option.bind_some, zm_ai, zm_al, zm_av, zm_opt, zm_fw, zE_l, zE_r, nI_add, pk_mul, pk_sub, pk_div, pk_rem, zrem, zpm1, zB_i0, zB_i1, zB_ok, zB_T, zB_F, nI_toInt, zT_sub, zT_neg, zT_le, zT_lt, nI_eq, zne1, zne2, ite_not, or_true, true_or, if_true, if_false, if_pos, if_neg, zw_R, zw_RL, zw_I, zF_R, zw_same, zw_cell, zw_ne, zF_at, zF_ne, zi_0, zi_1, zi_10, zi_17, zi_19, zi_20, zi_30, zi_48, zi_50, zi_52, zi_57, zi_59, zi_80, zi_93, zi_106, zi_110, zi_114, zx_0_0, zx_0_1, zx_0_2, zx_0_3, zx_0_4, zx_0_5, zx_0_6, zx_0_7, zx_0_8, zx_0_9, zx_0_10, zx_1_0, zx_1_1, zx_2_0, zx_2_1, zx_2_2, zx_2_3, zx_2_4, zx_2_5, zx_10_0, zx_10_1, zx_11_0, zx_11_1, zx_11_2, zx_11_3, zx_17_0, zx_19_0, zx_19_1, zx_19_2, zx_20_0, zx_20_1, zx_20_3, zx_20_4, zx_20_5, zx_20_6, zx_20_7, zx_20_8, zx_20_9, zx_30_0, zx_30_1, zx_30_4, zx_30_5, zx_48_0, zx_50_0, zx_52_0, zx_52_1, zx_52_2, zx_56_0, zx_56_1, zx_56_2, zx_57_0, zx_59_0, zx_80_3, zx_80_4, zx_80_5, zx_81_0, zx_81_1, zx_81_2, zx_81_3, zx_81_4, zx_81_5, zx_88_0, zx_88_1, zx_88_2, zx_93_3, zx_93_4, zx_93_5, zx_94_0, zx_94_1, zx_94_2, zx_94_3, zx_94_4, zx_94_5, zx_101_0, zx_101_1, zx_101_2, zx_106_0, zx_106_1, zx_106_2, zx_110_0, zx_110_1, zx_110_2, zx_114_0, zx_114_1, zx_114_2, zgI_9, zsI_9, zgI_16, zsI_16, zgI_18, zsI_18, zgI_21, zsI_21, zgI_22, zsI_22, zgI_23, zsI_23, zgI_24, zsI_24, zgI_25, zsI_25, zgI_26, zsI_26, zgI_27, zsI_27, zgI_28, zsI_28, zgI_29, zsI_29, zgI_47, zsI_47, zgI_49, zsI_49, zgI_51, zsI_51, zgI_53, zsI_53, zgI_54, zsI_54, zgI_55, zsI_55, zgI_58, zsI_58, zgI_76, zsI_76, zgI_79, zsI_79, zb_113_12, f2, f4, f6, zgR_31, zgI_ru]
      refine zloop (fun k σ' => (139, [(0, .ref 30), (1, .int (nI i)), (3, .int (nI p)), (4, .int (nI k))], [], zL, σ', 0, 0)) (fun k σ' => p + 1 ≤ k ∧ zCW σ' 50 (zred ((r.drop (p + 1)).take (k - (p + 1)))) ∧ zKeep (zFW 50) σ σ') r.length (fun k σ' hk hI ih => ?_) (fun σ' hI => ?_) (p + 1) τ (by omega) ⟨Nat.le_refl _, by rw [Nat.sub_self]; exact hC0, hK0⟩
      · obtain ⟨hc, hC, hK⟩ := hI
        obtain ⟨g1, g2, g3, g4, g5⟩ := facts σ' hK
        have hl := zred_len ((r.drop (p + 1)).take (k - (p + 1)))
        simp only [List.length_take, List.length_drop] at hl
        obtain ⟨σ2, e2, hC2, hK2⟩ := c_push g1 zw50 hC (by omega) (hpos k hk)
        have g6 := g5 k hk
        refine zW_of zg_113_139 ?_
        simp (disch := first | assumption | omega) only [zn0, zn1, Option.bind_some, zm_ai, zm_al, zm_av, zm_opt, zm_fw, zE_l, zE_r, nI_add, pk_mul, pk_sub, pk_div, pk_rem, zrem, zpm1, zB_i0, zB_i1, zB_ok, zB_T, zB_F, nI_toInt, zT_sub, zT_neg, zT_le, zT_lt, nI_eq, zne1, zne2, ite_not, or_true, true_or, if_true, if_false, if_pos, if_neg, zw_R, zw_RL, zw_I, zF_R, zw_same, zw_cell, zw_ne, zF_at, zF_ne, zi_0, zi_1, zi_10, zi_17, zi_19, zi_20, zi_30, zi_48, zi_50, zi_52, zi_57, zi_59, zi_80, zi_93, zi_106, zi_110, zi_114, zx_0_0, zx_0_1, zx_0_2, zx_0_3, zx_0_4, zx_0_5, zx_0_6, zx_0_7, zx_0_8, zx_0_9, zx_0_10, zx_1_0, zx_1_1, zx_2_0, zx_2_1, zx_2_2, zx_2_3, zx_2_4, zx_2_5, zx_10_0, zx_10_1, zx_11_0, zx_11_1, zx_11_2, zx_11_3, zx_17_0, zx_19_0, zx_19_1, zx_19_2, zx_20_0, zx_20_1, zx_20_3, zx_20_4, zx_20_5, zx_20_6, zx_20_7, zx_20_8, zx_20_9, zx_30_0, zx_30_1, zx_30_4, zx_30_5, zx_48_0, zx_50_0, zx_52_0, zx_52_1, zx_52_2, zx_56_0, zx_56_1, zx_56_2, zx_57_0, zx_59_0, zx_80_3, zx_80_4, zx_80_5, zx_81_0, zx_81_1, zx_81_2, zx_81_3, zx_81_4, zx_81_5, zx_88_0, zx_88_1, zx_88_2, zx_93_3, zx_93_4, zx_93_5, zx_94_0, zx_94_1, zx_94_2, zx_94_3, zx_94_4, zx_94_5, zx_101_0, zx_101_1, zx_101_2, zx_106_0, zx_106_1, zx_106_2, zx_110_0, zx_110_1, zx_110_2, zx_114_0, zx_114_1, zx_114_2, zgI_9, zsI_9, zgI_16, zsI_16, zgI_18, zsI_18, zgI_21, zsI_21, zgI_22, zsI_22, zgI_23, zsI_23, zgI_24, zsI_24, zgI_25, zsI_25, zgI_26, zsI_26, zgI_27, zsI_27, zgI_28, zsI_28, zgI_29, zsI_29, zgI_47, zsI_47, zgI_49, zsI_49, zgI_51, zsI_51, zgI_53, zsI_53, zgI_54, zsI_54, zgI_55, zsI_55, zgI_58, zsI_58, zgI_76, zsI_76, zgI_79, zsI_79, zb_113_139, g2, g4, g6, zgR_31, zgI_ru, e2]
        refine ih σ2 ⟨by omega, ?_, hK.tr hK2⟩
        rw [show k + 1 - (p + 1) = k - (p + 1) + 1 by omega, zred_take (by rw [List.length_drop]; omega), zat_drop, show p + 1 + (k - (p + 1)) = k by omega]
        exact hC2
      · obtain ⟨hc, hC, hK⟩ := hI
        obtain ⟨g1, g2, g3, g4, g5⟩ := facts σ' hK
        rw [List.take_of_length_le (by rw [List.length_drop]; omega)] at hC
        refine zW_of zg_113_139 ?_
        simp (disch := first | assumption | omega) only [zn0, zn1, Option.bind_some, zm_ai, zm_al, zm_av, zm_opt, zm_fw, zE_l, zE_r, nI_add, pk_mul, pk_sub, pk_div, pk_rem, zrem, zpm1, zB_i0, zB_i1, zB_ok, zB_T, zB_F, nI_toInt, zT_sub, zT_neg, zT_le, zT_lt, nI_eq, zne1, zne2, ite_not, or_true, true_or, if_true, if_false, if_pos, if_neg, zw_R, zw_RL, zw_I, zF_R, zw_same, zw_cell, zw_ne, zF_at, zF_ne, zi_0, zi_1, zi_10, zi_17, zi_19, zi_20, zi_30, zi_48, zi_50, zi_52, zi_57, zi_59, zi_80, zi_93, zi_106, zi_110, zi_114, zx_0_0, zx_0_1, zx_0_2, zx_0_3, zx_0_4, zx_0_5, zx_0_6, zx_0_7, zx_0_8, zx_0_9, zx_0_10, zx_1_0, zx_1_1, zx_2_0, zx_2_1, zx_2_2, zx_2_3, zx_2_4, zx_2_5, zx_10_0, zx_10_1, zx_11_0, zx_11_1, zx_11_2, zx_11_3, zx_17_0, zx_19_0, zx_19_1, zx_19_2, zx_20_0, zx_20_1, zx_20_3, zx_20_4, zx_20_5, zx_20_6, zx_20_7, zx_20_8, zx_20_9, zx_30_0, zx_30_1, zx_30_4, zx_30_5, zx_48_0, zx_50_0, zx_52_0, zx_52_1, zx_52_2, zx_56_0, zx_56_1, zx_56_2, zx_57_0, zx_59_0, zx_80_3, zx_80_4, zx_80_5, zx_81_0, zx_81_1, zx_81_2, zx_81_3, zx_81_4, zx_81_5, zx_88_0, zx_88_1, zx_88_2, zx_93_3, zx_93_4, zx_93_5, zx_94_0, zx_94_1, zx_94_2, zx_94_3, zx_94_4, zx_94_5, zx_101_0, zx_101_1, zx_101_2, zx_106_0, zx_106_1, zx_106_2, zx_110_0, zx_110_1, zx_110_2, zx_114_0, zx_114_1, zx_114_2, zgI_9, zsI_9, zgI_16, zsI_16, zgI_18, zsI_18, zgI_21, zsI_21, zgI_22, zsI_22, zgI_23, zsI_23, zgI_24, zsI_24, zgI_25, zsI_25, zgI_26, zsI_26, zgI_27, zsI_27, zgI_28, zsI_28, zgI_29, zsI_29, zgI_47, zsI_47, zgI_49, zsI_49, zgI_51, zsI_51, zgI_53, zsI_53, zgI_54, zsI_54, zgI_55, zsI_55, zgI_58, zsI_58, zgI_76, zsI_76, zgI_79, zsI_79, zb_113_139, g4]
        refine zloop (fun k σ' => (175, [(0, .ref 30), (1, .int (nI i)), (3, .int (nI p)), (4, .int (nI k))], [], zL, σ', 0, 0)) (fun k σ' => zCW σ' 50 (zred (r.drop (p + 1) ++ r.take k)) ∧ zKeep (zFW 50) σ σ') p (fun k σ' hk hI ih => ?_) (fun σ' hI => ?_) 0 σ' (by omega) ⟨by rw [List.take_zero, List.append_nil]; exact hC, hK⟩
        · obtain ⟨hC, hK⟩ := hI
          obtain ⟨g1, g2, g3, g4, g5⟩ := facts σ' hK
          have hl := zred_len (r.drop (p + 1) ++ r.take k)
          simp only [List.length_take, List.length_drop, List.length_append] at hl
          obtain ⟨σ2, e2, hC2, hK2⟩ := c_push g1 zw50 hC (by omega) (hpos k (by omega))
          have g6 := g5 k (by omega)
          refine zW_of zg_113_175 ?_
          simp (disch := first | assumption | omega) only [zn0, zn1, Option.bind_some, zm_ai, zm_al, zm_av, zm_opt, zm_fw, zE_l, zE_r, nI_add, pk_mul, pk_sub, pk_div, pk_rem, zrem, zpm1, zB_i0, zB_i1, zB_ok, zB_T, zB_F, nI_toInt, zT_sub, zT_neg, zT_le, zT_lt, nI_eq, zne1, zne2, ite_not, or_true, true_or, if_true, if_false, if_pos, if_neg, zw_R, zw_RL, zw_I, zF_R, zw_same, zw_cell, zw_ne, zF_at, zF_ne, zi_0, zi_1, zi_10, zi_17, zi_19, zi_20, zi_30, zi_48, zi_50, zi_52, zi_57, zi_59, zi_80, zi_93, zi_106, zi_110, zi_114, zx_0_0, zx_0_1, zx_0_2, zx_0_3, zx_0_4, zx_0_5, zx_0_6, zx_0_7, zx_0_8, zx_0_9, zx_0_10, zx_1_0, zx_1_1, zx_2_0, zx_2_1, zx_2_2, zx_2_3, zx_2_4, zx_2_5, zx_10_0, zx_10_1, zx_11_0, zx_11_1, zx_11_2, zx_11_3, zx_17_0, zx_19_0, zx_19_1, zx_19_2, zx_20_0, zx_20_1, zx_20_3, zx_20_4, zx_20_5, zx_20_6, zx_20_7, zx_20_8, zx_20_9, zx_30_0, zx_30_1, zx_30_4, zx_30_5, zx_48_0, zx_50_0, zx_52_0, zx_52_1, zx_52_2, zx_56_0, zx_56_1, zx_56_2, zx_57_0, zx_59_0, zx_80_3, zx_80_4, zx_80_5, zx_81_0, zx_81_1, zx_81_2, zx_81_3, zx_81_4, zx_81_5, zx_88_0, zx_88_1, zx_88_2, zx_93_3, zx_93_4, zx_93_5, zx_94_0, zx_94_1, zx_94_2, zx_94_3, zx_94_4, zx_94_5, zx_101_0, zx_101_1, zx_101_2, zx_106_0, zx_106_1, zx_106_2, zx_110_0, zx_110_1, zx_110_2, zx_114_0, zx_114_1, zx_114_2, zgI_9, zsI_9, zgI_16, zsI_16, zgI_18, zsI_18, zgI_21, zsI_21, zgI_22, zsI_22, zgI_23, zsI_23, zgI_24, zsI_24, zgI_25, zsI_25, zgI_26, zsI_26, zgI_27, zsI_27, zgI_28, zsI_28, zgI_29, zsI_29, zgI_47, zsI_47, zgI_49, zsI_49, zgI_51, zsI_51, zgI_53, zsI_53, zgI_54, zsI_54, zgI_55, zsI_55, zgI_58, zsI_58, zgI_76, zsI_76, zgI_79, zsI_79, zb_113_175, g2, g4, g6, zgR_31, zgI_ru, e2]
          refine ih σ2 ⟨?_, hK.tr hK2⟩
          rw [ztake 0 (show k < r.length by omega), ← List.append_assoc, zred_snoc]
          exact hC2
        · obtain ⟨hC, hK⟩ := hI
          rw [← e'] at hC
          refine zW_of zg_113_175 ?_
          simp (disch := first | assumption | omega) only [zn0, zn1, Option.bind_some, zm_ai, zm_al, zm_av, zm_opt, zm_fw, zE_l, zE_r, nI_add, pk_mul, pk_sub, pk_div, pk_rem, zrem, zpm1, zB_i0, zB_i1, zB_ok, zB_T, zB_F, nI_toInt, zT_sub, zT_neg, zT_le, zT_lt, nI_eq, zne1, zne2, ite_not, or_true, true_or, if_true, if_false, if_pos, if_neg, zw_R, zw_RL, zw_I, zF_R, zw_same, zw_cell, zw_ne, zF_at, zF_ne, zi_0, zi_1, zi_10, zi_17, zi_19, zi_20, zi_30, zi_48, zi_50, zi_52, zi_57, zi_59, zi_80, zi_93, zi_106, zi_110, zi_114, zx_0_0, zx_0_1, zx_0_2, zx_0_3, zx_0_4, zx_0_5, zx_0_6, zx_0_7, zx_0_8, zx_0_9, zx_0_10, zx_1_0, zx_1_1, zx_2_0, zx_2_1, zx_2_2, zx_2_3, zx_2_4, zx_2_5, zx_10_0, zx_10_1, zx_11_0, zx_11_1, zx_11_2, zx_11_3, zx_17_0, zx_19_0, zx_19_1, zx_19_2, zx_20_0, zx_20_1, zx_20_3, zx_20_4, zx_20_5, zx_20_6, zx_20_7, zx_20_8, zx_20_9, zx_30_0, zx_30_1, zx_30_4, zx_30_5, zx_48_0, zx_50_0, zx_52_0, zx_52_1, zx_52_2, zx_56_0, zx_56_1, zx_56_2, zx_57_0, zx_59_0, zx_80_3, zx_80_4, zx_80_5, zx_81_0, zx_81_1, zx_81_2, zx_81_3, zx_81_4, zx_81_5, zx_88_0, zx_88_1, zx_88_2, zx_93_3, zx_93_4, zx_93_5, zx_94_0, zx_94_1, zx_94_2, zx_94_3, zx_94_4, zx_94_5, zx_101_0, zx_101_1, zx_101_2, zx_106_0, zx_106_1, zx_106_2, zx_110_0, zx_110_1, zx_110_2, zx_114_0, zx_114_1, zx_114_2, zgI_9, zsI_9, zgI_16, zsI_16, zgI_18, zsI_18, zgI_21, zsI_21, zgI_22, zsI_22, zgI_23, zsI_23, zgI_24, zsI_24, zgI_25, zsI_25, zgI_26, zsI_26, zgI_27, zsI_27, zgI_28, zsI_28, zgI_29, zsI_29, zgI_47, zsI_47, zgI_49, zsI_49, zgI_51, zsI_51, zgI_53, zsI_53, zgI_54, zsI_54, zgI_55, zsI_55, zgI_58, zsI_58, zgI_76, zsI_76, zgI_79, zsI_79, zb_113_175]
          exact ⟨σ', rfl, hC, hK⟩
theorem c_draftWithout {t : List Int32} (hF : zFix σ) (h : zCR σ π rs) (hw : zWR rs) (hi : i < rs.length) (x : Int32) (ht : zCW σ 50 t) (ht1 : t.length ≤ 15) (ht2 : ∀ y ∈ t, ¬ y = nI 0) :
    ∃ σ', zM 114 [.ref 30, .int (nI i), .int x] zL σ = some (none, zL, σ') ∧ zCW σ' 48 (zwo x t (zr rs i)) ∧ zKeep (zFW 48) σ σ' := by
  obtain ⟨w1, w2⟩ := id hw
  obtain ⟨w3, w4⟩ := w2 i hi
  refine zS_ex (zS_of ze_114 ?_)
  generalize hr : zr rs i = r at *
  simp (disch := first | assumption | omega) only [zn0, zn1, Option.bind_some, zm_ai, zm_al, zm_av, zm_opt, zm_fw, zE_l, zE_r, nI_add, pk_mul, pk_sub, pk_div, pk_rem, zrem, zpm1, zB_i0, zB_i1, zB_ok, zB_T, zB_F, nI_toInt, zT_sub, zT_neg, zT_le, zT_lt, nI_eq, zne1, zne2, ite_not, or_true, true_or, if_true, if_false, if_pos, if_neg, zw_R, zw_RL, zw_I, zF_R, zw_same, zw_cell, zw_ne, zF_at, zF_ne, zi_0, zi_1, zi_10, zi_17, zi_19, zi_20, zi_30, zi_48, zi_50, zi_52, zi_57, zi_59, zi_80, zi_93, zi_106, zi_110, zi_114, zx_0_0, zx_0_1, zx_0_2, zx_0_3, zx_0_4, zx_0_5, zx_0_6, zx_0_7, zx_0_8, zx_0_9, zx_0_10, zx_1_0, zx_1_1, zx_2_0, zx_2_1, zx_2_2, zx_2_3, zx_2_4, zx_2_5, zx_10_0, zx_10_1, zx_11_0, zx_11_1, zx_11_2, zx_11_3, zx_17_0, zx_19_0, zx_19_1, zx_19_2, zx_20_0, zx_20_1, zx_20_3, zx_20_4, zx_20_5, zx_20_6, zx_20_7, zx_20_8, zx_20_9, zx_30_0, zx_30_1, zx_30_4, zx_30_5, zx_48_0, zx_50_0, zx_52_0, zx_52_1, zx_52_2, zx_56_0, zx_56_1, zx_56_2, zx_57_0, zx_59_0, zx_80_3, zx_80_4, zx_80_5, zx_81_0, zx_81_1, zx_81_2, zx_81_3, zx_81_4, zx_81_5, zx_88_0, zx_88_1, zx_88_2, zx_93_3, zx_93_4, zx_93_5, zx_94_0, zx_94_1, zx_94_2, zx_94_3, zx_94_4, zx_94_5, zx_101_0, zx_101_1, zx_101_2, zx_106_0, zx_106_1, zx_106_2, zx_110_0, zx_110_1, zx_110_2, zx_114_0, zx_114_1, zx_114_2, zgI_9, zsI_9, zgI_16, zsI_16, zgI_18, zsI_18, zgI_21, zsI_21, zgI_22, zsI_22, zgI_23, zsI_23, zgI_24, zsI_24, zgI_25, zsI_25, zgI_26, zsI_26, zgI_27, zsI_27, zgI_28, zsI_28, zgI_29, zsI_29, zgI_47, zsI_47, zgI_49, zsI_49, zgI_51, zsI_51, zgI_53, zsI_53, zgI_54, zsI_54, zgI_55, zsI_55, zgI_58, zsI_58, zgI_76, zsI_76, zgI_79, zsI_79, zb_114_0, c_clear zw48]
  have facts : ∀ σ', zKeep (zFW 48) σ σ' → zFix σ' ∧ (∀ j, j < 15 → σ'.2.2 31 j = some (32 + π j)) ∧ π i < 15 ∧ σ'.1 47 i = nI r.length ∧ (∀ k, k < r.length → σ'.1 (32 + π i) k = zat r k) ∧ σ'.1 50 1 = nI t.length ∧ (∀ k, k < t.length → σ'.1 51 k = zat t k) := fun σ' hK => by
    have hR := h.keep w1 hK (zFW_rules (by omega)) rfl
    obtain ⟨hs', hv'⟩ := hR.2.2 i hi
    rw [hr] at hs' hv'
    have ht' := ht.keep hK rfl fun k => rfl
    exact ⟨hK.fix hF rfl, hR.1.1, hR.1.2.1 i (by omega), hs', hv', ht'.1, ht'.2⟩
  refine zloop (fun k σ' => (9, [(0, .ref 30), (1, .int (nI i)), (2, .int x), (3, .int (nI k))], [], zL, σ', 0, 0)) (fun k σ' => zCW σ' 48 (zwo x t (r.take k)) ∧ zKeep (zFW 48) σ σ') r.length (fun k σ' hk hI ih => ?_) (fun σ' hI => ?_) 0 _ (by omega) (zCW_clear 48 σ)
  · obtain ⟨hC, hK⟩ := hI
    obtain ⟨g1, g2, g3, g4, g5, g6, g7⟩ := facts σ' hK
    have hl := zput_len (s := x) ht1 (r.take k) []
    simp only [List.length_take, List.length_nil] at hl
    have gk := g5 k hk
    have ef : zwo x t (r.take (k + 1)) = zput1 x t (zwo x t (r.take k)) (zat r k) := zfold_take _ _ hk
    rw [ef] at ih
    have hW : (zwo x t (r.take k)).length ≤ 15 * k := by unfold zwo; omega
    refine zW_of zg_114_9 ?_
    by_cases e1 : zat r k = x
    · rw [zput1, if_pos e1] at ih
      simp (disch := first | assumption | omega) only [zn0, zn1, Option.bind_some, zm_ai, zm_al, zm_av, zm_opt, zm_fw, zE_l, zE_r, nI_add, pk_mul, pk_sub, pk_div, pk_rem, zrem, zpm1, zB_i0, zB_i1, zB_ok, zB_T, zB_F, nI_toInt, zT_sub, zT_neg, zT_le, zT_lt, nI_eq, zne1, zne2, ite_not, or_true, true_or, if_true, if_false, if_pos, if_neg, zw_R, zw_RL, zw_I, zF_R, zw_same, zw_cell, zw_ne, zF_at, zF_ne, zi_0, zi_1, zi_10, zi_17, zi_19, zi_20, zi_30, zi_48, zi_50, zi_52, zi_57, zi_59, zi_80, zi_93, zi_106, zi_110, zi_114, zx_0_0, zx_0_1, zx_0_2, zx_0_3, zx_0_4, zx_0_5, zx_0_6, zx_0_7, zx_0_8, zx_0_9, zx_0_10, zx_1_0, zx_1_1, zx_2_0, zx_2_1, zx_2_2, zx_2_3, zx_2_4, zx_2_5, zx_10_0, zx_10_1, zx_11_0, zx_11_1, zx_11_2, zx_11_3, zx_17_0, zx_19_0, zx_19_1, zx_19_2, zx_20_0, zx_20_1, zx_20_3, zx_20_4, zx_20_5, zx_20_6, zx_20_7, zx_20_8, zx_20_9, zx_30_0, zx_30_1, zx_30_4, zx_30_5, zx_48_0, zx_50_0, zx_52_0, zx_52_1, zx_52_2, zx_56_0, zx_56_1, zx_56_2, zx_57_0, zx_59_0, zx_80_3, zx_80_4, zx_80_5, zx_81_0, zx_81_1, zx_81_2, zx_81_3, zx_81_4, zx_81_5, zx_88_0, zx_88_1, zx_88_2, zx_93_3, zx_93_4, zx_93_5, zx_94_0, zx_94_1, zx_94_2, zx_94_3, zx_94_4, zx_94_5, zx_101_0, zx_101_1, zx_101_2, zx_106_0, zx_106_1, zx_106_2, zx_110_0, zx_110_1, zx_110_2, zx_114_0, zx_114_1, zx_114_2, zgI_9, zsI_9, zgI_16, zsI_16, zgI_18, zsI_18, zgI_21, zsI_21, zgI_22, zsI_22, zgI_23, zsI_23, zgI_24, zsI_24, zgI_25, zsI_25, zgI_26, zsI_26, zgI_27, zsI_27, zgI_28, zsI_28, zgI_29, zsI_29, zgI_47, zsI_47, zgI_49, zsI_49, zgI_51, zsI_51, zgI_53, zsI_53, zgI_54, zsI_54, zgI_55, zsI_55, zgI_58, zsI_58, zgI_76, zsI_76, zgI_79, zsI_79, zb_114_9, g2, g4, gk, zgR_31, zgI_ru]
      refine zloop (fun m σ' => (38, [(0, .ref 30), (1, .int (nI i)), (2, .int x), (3, .int (nI k)), (5, .int (nI m))], [], zL, σ', 0, 0)) (fun m σ' => zCW σ' 48 ((t.take m).foldl zpush (zwo x t (r.take k))) ∧ zKeep (zFW 48) σ σ') t.length (fun m σ' hm hI ih2 => ?_) (fun σ' hI => ?_) 0 σ' (by omega) ⟨by rw [List.take_zero]; exact hC, hK⟩
      · obtain ⟨hC, hK⟩ := hI
        obtain ⟨g1, g2, g3, g4, g5, g6, g7⟩ := facts σ' hK
        have gm := g7 m hm
        have hl2 := zfold_len (t.take m) (zwo x t (r.take k))
        simp only [List.length_take] at hl2
        obtain ⟨σ2, e2, hC2, hK2⟩ := c_push g1 zw48 hC (by omega) (ht2 _ (zat_mem hm))
        refine zW_of zg_114_38 ?_
        simp (disch := first | assumption | omega) only [zn0, zn1, Option.bind_some, zm_ai, zm_al, zm_av, zm_opt, zm_fw, zE_l, zE_r, nI_add, pk_mul, pk_sub, pk_div, pk_rem, zrem, zpm1, zB_i0, zB_i1, zB_ok, zB_T, zB_F, nI_toInt, zT_sub, zT_neg, zT_le, zT_lt, nI_eq, zne1, zne2, ite_not, or_true, true_or, if_true, if_false, if_pos, if_neg, zw_R, zw_RL, zw_I, zF_R, zw_same, zw_cell, zw_ne, zF_at, zF_ne, zi_0, zi_1, zi_10, zi_17, zi_19, zi_20, zi_30, zi_48, zi_50, zi_52, zi_57, zi_59, zi_80, zi_93, zi_106, zi_110, zi_114, zx_0_0, zx_0_1, zx_0_2, zx_0_3, zx_0_4, zx_0_5, zx_0_6, zx_0_7, zx_0_8, zx_0_9, zx_0_10, zx_1_0, zx_1_1, zx_2_0, zx_2_1, zx_2_2, zx_2_3, zx_2_4, zx_2_5, zx_10_0, zx_10_1, zx_11_0, zx_11_1, zx_11_2, zx_11_3, zx_17_0, zx_19_0, zx_19_1, zx_19_2, zx_20_0, zx_20_1, zx_20_3, zx_20_4, zx_20_5, zx_20_6, zx_20_7, zx_20_8, zx_20_9, zx_30_0, zx_30_1, zx_30_4, zx_30_5, zx_48_0, zx_50_0, zx_52_0, zx_52_1, zx_52_2, zx_56_0, zx_56_1, zx_56_2, zx_57_0, zx_59_0, zx_80_3, zx_80_4, zx_80_5, zx_81_0, zx_81_1, zx_81_2, zx_81_3, zx_81_4, zx_81_5, zx_88_0, zx_88_1, zx_88_2, zx_93_3, zx_93_4, zx_93_5, zx_94_0, zx_94_1, zx_94_2, zx_94_3, zx_94_4, zx_94_5, zx_101_0, zx_101_1, zx_101_2, zx_106_0, zx_106_1, zx_106_2, zx_110_0, zx_110_1, zx_110_2, zx_114_0, zx_114_1, zx_114_2, zgI_9, zsI_9, zgI_16, zsI_16, zgI_18, zsI_18, zgI_21, zsI_21, zgI_22, zsI_22, zgI_23, zsI_23, zgI_24, zsI_24, zgI_25, zsI_25, zgI_26, zsI_26, zgI_27, zsI_27, zgI_28, zsI_28, zgI_29, zsI_29, zgI_47, zsI_47, zgI_49, zsI_49, zgI_51, zsI_51, zgI_53, zsI_53, zgI_54, zsI_54, zgI_55, zsI_55, zgI_58, zsI_58, zgI_76, zsI_76, zgI_79, zsI_79, zb_114_38, g6, gm, e2]
        refine ih2 σ2 ⟨?_, hK.tr hK2⟩
        rw [zfold_take _ _ hm]
        exact hC2
      · obtain ⟨hC, hK⟩ := hI
        obtain ⟨g1, g2, g3, g4, g5, g6, g7⟩ := facts σ' hK
        rw [List.take_length] at hC
        refine zW_of zg_114_38 ?_
        simp (disch := first | assumption | omega) only [zn0, zn1, Option.bind_some, zm_ai, zm_al, zm_av, zm_opt, zm_fw, zE_l, zE_r, nI_add, pk_mul, pk_sub, pk_div, pk_rem, zrem, zpm1, zB_i0, zB_i1, zB_ok, zB_T, zB_F, nI_toInt, zT_sub, zT_neg, zT_le, zT_lt, nI_eq, zne1, zne2, ite_not, or_true, true_or, if_true, if_false, if_pos, if_neg, zw_R, zw_RL, zw_I, zF_R, zw_same, zw_cell, zw_ne, zF_at, zF_ne, zi_0, zi_1, zi_10, zi_17, zi_19, zi_20, zi_30, zi_48, zi_50, zi_52, zi_57, zi_59, zi_80, zi_93, zi_106, zi_110, zi_114, zx_0_0, zx_0_1, zx_0_2, zx_0_3, zx_0_4, zx_0_5, zx_0_6, zx_0_7, zx_0_8, zx_0_9, zx_0_10, zx_1_0, zx_1_1, zx_2_0, zx_2_1, zx_2_2, zx_2_3, zx_2_4, zx_2_5, zx_10_0, zx_10_1, zx_11_0, zx_11_1, zx_11_2, zx_11_3, zx_17_0, zx_19_0, zx_19_1, zx_19_2, zx_20_0, zx_20_1, zx_20_3, zx_20_4, zx_20_5, zx_20_6, zx_20_7, zx_20_8, zx_20_9, zx_30_0, zx_30_1, zx_30_4, zx_30_5, zx_48_0, zx_50_0, zx_52_0, zx_52_1, zx_52_2, zx_56_0, zx_56_1, zx_56_2, zx_57_0, zx_59_0, zx_80_3, zx_80_4, zx_80_5, zx_81_0, zx_81_1, zx_81_2, zx_81_3, zx_81_4, zx_81_5, zx_88_0, zx_88_1, zx_88_2, zx_93_3, zx_93_4, zx_93_5, zx_94_0, zx_94_1, zx_94_2, zx_94_3, zx_94_4, zx_94_5, zx_101_0, zx_101_1, zx_101_2, zx_106_0, zx_106_1, zx_106_2, zx_110_0, zx_110_1, zx_110_2, zx_114_0, zx_114_1, zx_114_2, zgI_9, zsI_9, zgI_16, zsI_16, zgI_18, zsI_18, zgI_21, zsI_21, zgI_22, zsI_22, zgI_23, zsI_23, zgI_24, zsI_24, zgI_25, zsI_25, zgI_26, zsI_26, zgI_27, zsI_27, zgI_28, zsI_28, zgI_29, zsI_29, zgI_47, zsI_47, zgI_49, zsI_49, zgI_51, zsI_51, zgI_53, zsI_53, zgI_54, zsI_54, zgI_55, zsI_55, zgI_58, zsI_58, zgI_76, zsI_76, zgI_79, zsI_79, zb_114_38, g6]
        exact ih σ' ⟨hC, hK⟩
    · by_cases e2 : zat r k = -x
      · rw [zput1, if_neg e1, if_pos e2] at ih
        simp (disch := first | assumption | omega) only [zn0, zn1, Option.bind_some, zm_ai, zm_al, zm_av, zm_opt, zm_fw, zE_l, zE_r, nI_add, pk_mul, pk_sub, pk_div, pk_rem, zrem, zpm1, zB_i0, zB_i1, zB_ok, zB_T, zB_F, nI_toInt, zT_sub, zT_neg, zT_le, zT_lt, nI_eq, zne1, zne2, ite_not, or_true, true_or, if_true, if_false, if_pos, if_neg, zw_R, zw_RL, zw_I, zF_R, zw_same, zw_cell, zw_ne, zF_at, zF_ne, zi_0, zi_1, zi_10, zi_17, zi_19, zi_20, zi_30, zi_48, zi_50, zi_52, zi_57, zi_59, zi_80, zi_93, zi_106, zi_110, zi_114, zx_0_0, zx_0_1, zx_0_2, zx_0_3, zx_0_4, zx_0_5, zx_0_6, zx_0_7, zx_0_8, zx_0_9, zx_0_10, zx_1_0, zx_1_1, zx_2_0, zx_2_1, zx_2_2, zx_2_3, zx_2_4, zx_2_5, zx_10_0, zx_10_1, zx_11_0, zx_11_1, zx_11_2, zx_11_3, zx_17_0, zx_19_0, zx_19_1, zx_19_2, zx_20_0, zx_20_1, zx_20_3, zx_20_4, zx_20_5, zx_20_6, zx_20_7, zx_20_8, zx_20_9, zx_30_0, zx_30_1, zx_30_4, zx_30_5, zx_48_0, zx_50_0, zx_52_0, zx_52_1, zx_52_2, zx_56_0, zx_56_1, zx_56_2, zx_57_0, zx_59_0, zx_80_3, zx_80_4, zx_80_5, zx_81_0, zx_81_1, zx_81_2, zx_81_3, zx_81_4, zx_81_5, zx_88_0, zx_88_1, zx_88_2, zx_93_3, zx_93_4, zx_93_5, zx_94_0, zx_94_1, zx_94_2, zx_94_3, zx_94_4, zx_94_5, zx_101_0, zx_101_1, zx_101_2, zx_106_0, zx_106_1, zx_106_2, zx_110_0, zx_110_1, zx_110_2, zx_114_0, zx_114_1, zx_114_2, zgI_9, zsI_9, zgI_16, zsI_16, zgI_18, zsI_18, zgI_21, zsI_21, zgI_22, zsI_22, zgI_23, zsI_23, zgI_24, zsI_24, zgI_25, zsI_25, zgI_26, zsI_26, zgI_27, zsI_27, zgI_28, zsI_28, zgI_29, zsI_29, zgI_47, zsI_47, zgI_49, zsI_49, zgI_51, zsI_51, zgI_53, zsI_53, zgI_54, zsI_54, zgI_55, zsI_55, zgI_58, zsI_58, zgI_76, zsI_76, zgI_79, zsI_79, zb_114_9, g2, g4, gk, g6, zgR_31, zgI_ru]
        have key : zW 114 (94, [(0, .ref 30), (1, .int (nI i)), (2, .int x), (3, .int (nI k)), (5, .int (nI t.length + -nI 1))], [], zL, σ', 0, 0) (fun q => ∃ σ', q = (none, zL, σ') ∧ zCW σ' 48 (zwo x t r) ∧ zKeep (zFW 48) σ σ') := by
          refine zloopD (fun c σ' => (94, [(0, .ref 30), (1, .int (nI i)), (2, .int x), (3, .int (nI k)), (5, .int (nI c + -nI 1))], [], zL, σ', 0, 0)) (fun c σ' => c ≤ t.length ∧ zCW σ' 48 (((zinv t).take (t.length - c)).foldl zpush (zwo x t (r.take k))) ∧ zKeep (zFW 48) σ σ') (fun c σ' hI ih2 => ?_) (fun σ' hI => ?_) t.length σ' ⟨Nat.le_refl _, by rw [Nat.sub_self, List.take_zero]; exact hC, hK⟩
          · obtain ⟨hc, hC, hK⟩ := hI
            obtain ⟨g1, g2, g3, g4, g5, g6, g7⟩ := facts σ' hK
            have gm := g7 c (by omega)
            have hl2 := zfold_len ((zinv t).take (t.length - (c + 1))) (zwo x t (r.take k))
            simp only [List.length_take] at hl2
            obtain ⟨σ2, e3, hC2, hK2⟩ := c_push g1 zw48 hC (by omega) (zne_neg (ht2 _ (zat_mem (show c < t.length by omega))))
            refine zW_of zg_114_94 ?_
            simp (disch := first | assumption | omega) only [zn0, zn1, Option.bind_some, zm_ai, zm_al, zm_av, zm_opt, zm_fw, zE_l, zE_r, nI_add, pk_mul, pk_sub, pk_div, pk_rem, zrem, zpm1, zB_i0, zB_i1, zB_ok, zB_T, zB_F, nI_toInt, zT_sub, zT_neg, zT_le, zT_lt, nI_eq, zne1, zne2, ite_not, or_true, true_or, if_true, if_false, if_pos, if_neg, zw_R, zw_RL, zw_I, zF_R, zw_same, zw_cell, zw_ne, zF_at, zF_ne, zi_0, zi_1, zi_10, zi_17, zi_19, zi_20, zi_30, zi_48, zi_50, zi_52, zi_57, zi_59, zi_80, zi_93, zi_106, zi_110, zi_114, zx_0_0, zx_0_1, zx_0_2, zx_0_3, zx_0_4, zx_0_5, zx_0_6, zx_0_7, zx_0_8, zx_0_9, zx_0_10, zx_1_0, zx_1_1, zx_2_0, zx_2_1, zx_2_2, zx_2_3, zx_2_4, zx_2_5, zx_10_0, zx_10_1, zx_11_0, zx_11_1, zx_11_2, zx_11_3, zx_17_0, zx_19_0, zx_19_1, zx_19_2, zx_20_0, zx_20_1, zx_20_3, zx_20_4, zx_20_5, zx_20_6, zx_20_7, zx_20_8, zx_20_9, zx_30_0, zx_30_1, zx_30_4, zx_30_5, zx_48_0, zx_50_0, zx_52_0, zx_52_1, zx_52_2, zx_56_0, zx_56_1, zx_56_2, zx_57_0, zx_59_0, zx_80_3, zx_80_4, zx_80_5, zx_81_0, zx_81_1, zx_81_2, zx_81_3, zx_81_4, zx_81_5, zx_88_0, zx_88_1, zx_88_2, zx_93_3, zx_93_4, zx_93_5, zx_94_0, zx_94_1, zx_94_2, zx_94_3, zx_94_4, zx_94_5, zx_101_0, zx_101_1, zx_101_2, zx_106_0, zx_106_1, zx_106_2, zx_110_0, zx_110_1, zx_110_2, zx_114_0, zx_114_1, zx_114_2, zgI_9, zsI_9, zgI_16, zsI_16, zgI_18, zsI_18, zgI_21, zsI_21, zgI_22, zsI_22, zgI_23, zsI_23, zgI_24, zsI_24, zgI_25, zsI_25, zgI_26, zsI_26, zgI_27, zsI_27, zgI_28, zsI_28, zgI_29, zsI_29, zgI_47, zsI_47, zgI_49, zsI_49, zgI_51, zsI_51, zgI_53, zsI_53, zgI_54, zsI_54, zgI_55, zsI_55, zgI_58, zsI_58, zgI_76, zsI_76, zgI_79, zsI_79, zb_114_94, g6, gm, e3]
            refine ih2 σ2 ⟨by omega, ?_, hK.tr hK2⟩
            rw [show t.length - c = t.length - (c + 1) + 1 by omega, zfold_take _ _ (by rw [zinv_len]; omega), zat_inv (by omega), show t.length - 1 - (t.length - (c + 1)) = c by omega]
            exact hC2
          · obtain ⟨hc, hC, hK⟩ := hI
            rw [Nat.sub_zero, List.take_of_length_le (l := zinv t) (by rw [zinv_len]; omega)] at hC
            refine zW_of zg_114_94 ?_
            have em : (nI 0 + -nI 1).toInt = -1 := by decide
            simp (disch := first | assumption | omega) only [zn0, zn1, Option.bind_some, zm_ai, zm_al, zm_av, zm_opt, zm_fw, zE_l, zE_r, nI_add, pk_mul, pk_sub, pk_div, pk_rem, zrem, zpm1, zB_i0, zB_i1, zB_ok, zB_T, zB_F, nI_toInt, zT_sub, zT_neg, zT_le, zT_lt, nI_eq, zne1, zne2, ite_not, or_true, true_or, if_true, if_false, if_pos, if_neg, zw_R, zw_RL, zw_I, zF_R, zw_same, zw_cell, zw_ne, zF_at, zF_ne, zi_0, zi_1, zi_10, zi_17, zi_19, zi_20, zi_30, zi_48, zi_50, zi_52, zi_57, zi_59, zi_80, zi_93, zi_106, zi_110, zi_114, zx_0_0, zx_0_1, zx_0_2, zx_0_3, zx_0_4, zx_0_5, zx_0_6, zx_0_7, zx_0_8, zx_0_9, zx_0_10, zx_1_0, zx_1_1, zx_2_0, zx_2_1, zx_2_2, zx_2_3, zx_2_4, zx_2_5, zx_10_0, zx_10_1, zx_11_0, zx_11_1, zx_11_2, zx_11_3, zx_17_0, zx_19_0, zx_19_1, zx_19_2, zx_20_0, zx_20_1, zx_20_3, zx_20_4, zx_20_5, zx_20_6, zx_20_7, zx_20_8, zx_20_9, zx_30_0, zx_30_1, zx_30_4, zx_30_5, zx_48_0, zx_50_0, zx_52_0, zx_52_1, zx_52_2, zx_56_0, zx_56_1, zx_56_2, zx_57_0, zx_59_0, zx_80_3, zx_80_4, zx_80_5, zx_81_0, zx_81_1, zx_81_2, zx_81_3, zx_81_4, zx_81_5, zx_88_0, zx_88_1, zx_88_2, zx_93_3, zx_93_4, zx_93_5, zx_94_0, zx_94_1, zx_94_2, zx_94_3, zx_94_4, zx_94_5, zx_101_0, zx_101_1, zx_101_2, zx_106_0, zx_106_1, zx_106_2, zx_110_0, zx_110_1, zx_110_2, zx_114_0, zx_114_1, zx_114_2, zgI_9, zsI_9, zgI_16, zsI_16, zgI_18, zsI_18, zgI_21, zsI_21, zgI_22, zsI_22, zgI_23, zsI_23, zgI_24, zsI_24, zgI_25, zsI_25, zgI_26, zsI_26, zgI_27, zsI_27, zgI_28, zsI_28, zgI_29, zsI_29, zgI_47, zsI_47, zgI_49, zsI_49, zgI_51, zsI_51, zgI_53, zsI_53, zgI_54, zsI_54, zgI_55, zsI_55, zgI_58, zsI_58, zgI_76, zsI_76, zgI_79, zsI_79, zb_114_94, em]
            exact ih σ' ⟨hC, hK⟩
        rw [Int32.sub_eq_add_neg]
        exact key
      · rw [zput1, if_neg e1, if_neg e2] at ih
        obtain ⟨σ2, e3, hC2, hK2⟩ := c_push g1 zw48 hC (by omega) (w4 _ (zat_mem hk))
        simp (disch := first | assumption | omega) only [zn0, zn1, Option.bind_some, zm_ai, zm_al, zm_av, zm_opt, zm_fw, zE_l, zE_r, nI_add, pk_mul, pk_sub, pk_div, pk_rem, zrem, zpm1, zB_i0, zB_i1, zB_ok, zB_T, zB_F, nI_toInt, zT_sub, zT_neg, zT_le, zT_lt, nI_eq, zne1, zne2, ite_not, or_true, true_or, if_true, if_false, if_pos, if_neg, zw_R, zw_RL, zw_I, zF_R, zw_same, zw_cell, zw_ne, zF_at, zF_ne, zi_0, zi_1, zi_10, zi_17, zi_19, zi_20, zi_30, zi_48, zi_50, zi_52, zi_57, zi_59, zi_80, zi_93, zi_106, zi_110, zi_114, zx_0_0, zx_0_1, zx_0_2, zx_0_3, zx_0_4, zx_0_5, zx_0_6, zx_0_7, zx_0_8, zx_0_9, zx_0_10, zx_1_0, zx_1_1, zx_2_0, zx_2_1, zx_2_2, zx_2_3, zx_2_4, zx_2_5, zx_10_0, zx_10_1, zx_11_0, zx_11_1, zx_11_2, zx_11_3, zx_17_0, zx_19_0, zx_19_1, zx_19_2, zx_20_0, zx_20_1, zx_20_3, zx_20_4, zx_20_5, zx_20_6, zx_20_7, zx_20_8, zx_20_9, zx_30_0, zx_30_1, zx_30_4, zx_30_5, zx_48_0, zx_50_0, zx_52_0, zx_52_1, zx_52_2, zx_56_0, zx_56_1, zx_56_2, zx_57_0, zx_59_0, zx_80_3, zx_80_4, zx_80_5, zx_81_0, zx_81_1, zx_81_2, zx_81_3, zx_81_4, zx_81_5, zx_88_0, zx_88_1, zx_88_2, zx_93_3, zx_93_4, zx_93_5, zx_94_0, zx_94_1, zx_94_2, zx_94_3, zx_94_4, zx_94_5, zx_101_0, zx_101_1, zx_101_2, zx_106_0, zx_106_1, zx_106_2, zx_110_0, zx_110_1, zx_110_2, zx_114_0, zx_114_1, zx_114_2, zgI_9, zsI_9, zgI_16, zsI_16, zgI_18, zsI_18, zgI_21, zsI_21, zgI_22, zsI_22, zgI_23, zsI_23, zgI_24, zsI_24, zgI_25, zsI_25, zgI_26, zsI_26, zgI_27, zsI_27, zgI_28, zsI_28, zgI_29, zsI_29, zgI_47, zsI_47, zgI_49, zsI_49, zgI_51, zsI_51, zgI_53, zsI_53, zgI_54, zsI_54, zgI_55, zsI_55, zgI_58, zsI_58, zgI_76, zsI_76, zgI_79, zsI_79, zb_114_9, g2, g4, gk, zgR_31, zgI_ru, e3]
        exact ih σ2 ⟨hC2, hK.tr hK2⟩
  · obtain ⟨hC, hK⟩ := hI
    obtain ⟨g1, g2, g3, g4, g5, g6, g7⟩ := facts σ' hK
    rw [List.take_length] at hC
    refine zW_of zg_114_9 ?_
    simp (disch := first | assumption | omega) only [zn0, zn1, Option.bind_some, zm_ai, zm_al, zm_av, zm_opt, zm_fw, zE_l, zE_r, nI_add, pk_mul, pk_sub, pk_div, pk_rem, zrem, zpm1, zB_i0, zB_i1, zB_ok, zB_T, zB_F, nI_toInt, zT_sub, zT_neg, zT_le, zT_lt, nI_eq, zne1, zne2, ite_not, or_true, true_or, if_true, if_false, if_pos, if_neg, zw_R, zw_RL, zw_I, zF_R, zw_same, zw_cell, zw_ne, zF_at, zF_ne, zi_0, zi_1, zi_10, zi_17, zi_19, zi_20, zi_30, zi_48, zi_50, zi_52, zi_57, zi_59, zi_80, zi_93, zi_106, zi_110, zi_114, zx_0_0, zx_0_1, zx_0_2, zx_0_3, zx_0_4, zx_0_5, zx_0_6, zx_0_7, zx_0_8, zx_0_9, zx_0_10, zx_1_0, zx_1_1, zx_2_0, zx_2_1, zx_2_2, zx_2_3, zx_2_4, zx_2_5, zx_10_0, zx_10_1, zx_11_0, zx_11_1, zx_11_2, zx_11_3, zx_17_0, zx_19_0, zx_19_1, zx_19_2, zx_20_0, zx_20_1, zx_20_3, zx_20_4, zx_20_5, zx_20_6, zx_20_7, zx_20_8, zx_20_9, zx_30_0, zx_30_1, zx_30_4, zx_30_5, zx_48_0, zx_50_0, zx_52_0, zx_52_1, zx_52_2, zx_56_0, zx_56_1, zx_56_2, zx_57_0, zx_59_0, zx_80_3, zx_80_4, zx_80_5, zx_81_0, zx_81_1, zx_81_2, zx_81_3, zx_81_4, zx_81_5, zx_88_0, zx_88_1, zx_88_2, zx_93_3, zx_93_4, zx_93_5, zx_94_0, zx_94_1, zx_94_2, zx_94_3, zx_94_4, zx_94_5, zx_101_0, zx_101_1, zx_101_2, zx_106_0, zx_106_1, zx_106_2, zx_110_0, zx_110_1, zx_110_2, zx_114_0, zx_114_1, zx_114_2, zgI_9, zsI_9, zgI_16, zsI_16, zgI_18, zsI_18, zgI_21, zsI_21, zgI_22, zsI_22, zgI_23, zsI_23, zgI_24, zsI_24, zgI_25, zsI_25, zgI_26, zsI_26, zgI_27, zsI_27, zgI_28, zsI_28, zgI_29, zsI_29, zgI_47, zsI_47, zgI_49, zsI_49, zgI_51, zsI_51, zgI_53, zsI_53, zgI_54, zsI_54, zgI_55, zsI_55, zgI_58, zsI_58, zgI_76, zsI_76, zgI_79, zsI_79, zb_114_9, g4]
    exact ⟨σ', rfl, hC, hK⟩
end ZSI
