/-! the reference's tree and edges -/
/-- conditions that are decided ahead of their branches -/
theorem zd_leT {a b : Nat} (h : a ≤ b) (hb : b < 2147483648) : (nI a ≤ nI b) = True := eq_true (nI_le h hb)
theorem zd_leF {a b : Nat} (h : b < a) (ha : a < 2147483648) : (nI a ≤ nI b) = False := eq_false (nI_ge h ha)
theorem zd_ltT {a b : Nat} (h : a < b) (hb : b < 2147483648) : (nI a < nI b) = True := eq_true (Int32.not_le.mp (nI_ge h hb))
theorem zd_ltF {a b : Nat} (h : b ≤ a) (ha : a < 2147483648) : (nI a < nI b) = False := eq_false (fun q => absurd (nI_le h ha) (Int32.not_le.mpr q))
theorem zd_eqF {a b : Nat} (h : a ≠ b) (ha : a < 2147483648) (hb : b < 2147483648) : (nI a = nI b) = False := eq_false fun e => h (by
  have := congrArg Int32.toInt e
  rw [nI_toInt ha, nI_toInt hb] at this
  omega)
theorem zd_n1 {a : Nat} (ha : a < 2147483648) : (nI a = -nI 1) = False := zne1 ha
theorem zd_n2 {a : Nat} (ha : a < 2147483648) : (nI a = -9) = False := zne9 ha
section ZLT
variable {σ : zm_Sig} {G : zG} {t : zT}
theorem znm (x : Nat) : -nI x - nI 1 = -nI (x + 1) := by
  rw [← nI_add, Int32.neg_add]
theorem m_isBranch (hF : zFix σ) (hG : zMG σ G) (hv : zGv G) (h : zMT σ t) {k x : Nat} (hk : k < G.1) (hx : x < G.2.1) : zM 209 [.ref 118, .int (nI k), .int (nI x)] zL σ = some (some (.int (zB (zbr G t k x))), zL, σ) := by
  have v1 := hv.1
  have v2 := hv.2.1
  have hto := (hG.2.2.2.1 x k hx hk).1
  have hul := (hv.2.2.2.1 x k hx hk).1
  unfold zbr
  generalize G.2.2.1 x k = u at *
  obtain ⟨u1, u2, -, -⟩ := h.2.2 u (by omega)
  obtain ⟨k1, k2, -, -⟩ := h.2.2 k (by omega)
  have hix : 5 * x + k < 15 := by omega
  refine zS_eq (zS_of ze_209 ?_)
  have second : zE 209 (if k = 0 then some (.inr (some (.int (nI 0)), zL, σ)) else if ¬ t.2.2.1 k = nI u then some (.inr (some (.int (nI 0)), zL, σ)) else if ¬ t.2.2.2.1 k = -nI (x + 1) then some (.inr (some (.int (nI 0)), zL, σ)) else some (.inr (some (.int (nI 1)), zL, σ))) (fun q => q = (some (.int (zB (k ≠ 0 ∧ t.2.2.1 k = nI u ∧ t.2.2.2.1 k = -nI (x + 1)))), zL, σ)) := by
    by_cases c3 : k = 0
    · rw [if_pos c3, zB_f (fun q => q.1 c3)]; rfl
    · rw [if_neg c3]
      by_cases c4 : t.2.2.1 k = nI u
      · rw [if_neg (not_not_intro c4)]
        by_cases c5 : t.2.2.2.1 k = -nI (x + 1)
        · rw [if_neg (not_not_intro c5), zB_t ⟨c3, c4, c5⟩]; rfl
        · rw [if_pos c5, zB_f (fun q => c5 q.2.2)]; rfl
      · rw [if_pos c4, zB_f (fun q => c4 q.2.1)]; rfl
  by_cases c0 : u = 0
  · rw [zB_c (show ((u ≠ 0 ∧ t.2.2.1 u = nI k ∧ t.2.2.2.1 u = nI (x + 1)) ∨ (k ≠ 0 ∧ t.2.2.1 k = nI u ∧ t.2.2.2.1 k = -nI (x + 1))) ↔ (k ≠ 0 ∧ t.2.2.1 k = nI u ∧ t.2.2.2.1 k = -nI (x + 1)) from ⟨fun q => q.elim (fun q => absurd c0 q.1) id, Or.inr⟩)]
    simp (disch := first | assumption | omega) only [zn0, zn1, Option.bind_some, zm_ai, zm_al, zm_av, zm_opt, zm_fw, zE_l, zE_r, nI_add, pk_mul, pk_sub, pk_div, pk_rem, zrem, zpm1, zB_i0, zB_i1, zB_ok, zB_T, zB_F, nI_toInt, zT_sub, zT_neg, zT_le, zT_lt, nI_eq, zne1, zne2, zne9, ite_not, or_true, true_or, if_true, if_false, if_pos, if_neg, zw_R, zw_RL, zw_I, zF_R, zw_same, zw_cell, zw_ne, zF_at, zF_ne, zi_118, zx_118_0, zx_118_1, zx_118_2, zx_118_3, zx_118_7, zx_118_8, zx_118_9, zx_118_10, zx_118_11, zx_118_12, zx_118_13, zx_118_14, zx_118_15, zx_118_17, zx_118_18, zx_118_19, zx_118_21, zx_118_22, zx_118_24, zx_118_25, zx_118_30, zx_118_35, zx_118_36, zx_118_37, zx_118_38, zx_118_39, zx_118_41, zx_118_42, zx_118_44, zx_118_45, zx_118_46, zgI_119, zsI_119, zgI_120, zsI_120, zgI_121, zsI_121, zgI_122, zsI_122, zgI_123, zsI_123, zgI_124, zsI_124, zgI_125, zsI_125, zgI_126, zsI_126, zgI_127, zsI_127, zgI_128, zsI_128, zgI_129, zsI_129, zgI_130, zsI_130, zgI_131, zsI_131, zgI_132, zsI_132, zgI_133, zsI_133, zgI_134, zsI_134, zgI_135, zsI_135, zgI_136, zsI_136, zgI_137, zsI_137, zgI_139, zsI_139, zgI_140, zsI_140, zgI_141, zsI_141, zgI_142, zsI_142, zgI_143, zsI_143, zgI_144, zsI_144, zgI_145, zsI_145, zgI_146, zsI_146, zgI_147, zsI_147, zb_209_0, hto, k1, k2, znm]
    simp only [c0, ite_not] at second ⊢
    exact second
  · by_cases c1 : t.2.2.1 u = nI k
    · by_cases c2 : t.2.2.2.1 u = nI (x + 1)
      · simp (disch := first | assumption | omega) only [zn0, zn1, Option.bind_some, zm_ai, zm_al, zm_av, zm_opt, zm_fw, zE_l, zE_r, nI_add, pk_mul, pk_sub, pk_div, pk_rem, zrem, zpm1, zB_i0, zB_i1, zB_ok, zB_T, zB_F, nI_toInt, zT_sub, zT_neg, zT_le, zT_lt, nI_eq, zne1, zne2, zne9, ite_not, or_true, true_or, if_true, if_false, if_pos, if_neg, zw_R, zw_RL, zw_I, zF_R, zw_same, zw_cell, zw_ne, zF_at, zF_ne, zi_118, zx_118_0, zx_118_1, zx_118_2, zx_118_3, zx_118_7, zx_118_8, zx_118_9, zx_118_10, zx_118_11, zx_118_12, zx_118_13, zx_118_14, zx_118_15, zx_118_17, zx_118_18, zx_118_19, zx_118_21, zx_118_22, zx_118_24, zx_118_25, zx_118_30, zx_118_35, zx_118_36, zx_118_37, zx_118_38, zx_118_39, zx_118_41, zx_118_42, zx_118_44, zx_118_45, zx_118_46, zgI_119, zsI_119, zgI_120, zsI_120, zgI_121, zsI_121, zgI_122, zsI_122, zgI_123, zsI_123, zgI_124, zsI_124, zgI_125, zsI_125, zgI_126, zsI_126, zgI_127, zsI_127, zgI_128, zsI_128, zgI_129, zsI_129, zgI_130, zsI_130, zgI_131, zsI_131, zgI_132, zsI_132, zgI_133, zsI_133, zgI_134, zsI_134, zgI_135, zsI_135, zgI_136, zsI_136, zgI_137, zsI_137, zgI_139, zsI_139, zgI_140, zsI_140, zgI_141, zsI_141, zgI_142, zsI_142, zgI_143, zsI_143, zgI_144, zsI_144, zgI_145, zsI_145, zgI_146, zsI_146, zgI_147, zsI_147, zb_209_0, hto, u1, u2, not_true]
        rw [zB_t (Or.inl ⟨c0, c1, c2⟩)]
      · rw [zB_c (show ((u ≠ 0 ∧ t.2.2.1 u = nI k ∧ t.2.2.2.1 u = nI (x + 1)) ∨ (k ≠ 0 ∧ t.2.2.1 k = nI u ∧ t.2.2.2.1 k = -nI (x + 1))) ↔ (k ≠ 0 ∧ t.2.2.1 k = nI u ∧ t.2.2.2.1 k = -nI (x + 1)) from ⟨fun q => q.elim (fun q => absurd q.2.2 c2) id, Or.inr⟩)]
        simp (disch := first | assumption | omega) only [zn0, zn1, Option.bind_some, zm_ai, zm_al, zm_av, zm_opt, zm_fw, zE_l, zE_r, nI_add, pk_mul, pk_sub, pk_div, pk_rem, zrem, zpm1, zB_i0, zB_i1, zB_ok, zB_T, zB_F, nI_toInt, zT_sub, zT_neg, zT_le, zT_lt, nI_eq, zne1, zne2, zne9, ite_not, or_true, true_or, if_true, if_false, if_pos, if_neg, zw_R, zw_RL, zw_I, zF_R, zw_same, zw_cell, zw_ne, zF_at, zF_ne, zi_118, zx_118_0, zx_118_1, zx_118_2, zx_118_3, zx_118_7, zx_118_8, zx_118_9, zx_118_10, zx_118_11, zx_118_12, zx_118_13, zx_118_14, zx_118_15, zx_118_17, zx_118_18, zx_118_19, zx_118_21, zx_118_22, zx_118_24, zx_118_25, zx_118_30, zx_118_35, zx_118_36, zx_118_37, zx_118_38, zx_118_39, zx_118_41, zx_118_42, zx_118_44, zx_118_45, zx_118_46, zgI_119, zsI_119, zgI_120, zsI_120, zgI_121, zsI_121, zgI_122, zsI_122, zgI_123, zsI_123, zgI_124, zsI_124, zgI_125, zsI_125, zgI_126, zsI_126, zgI_127, zsI_127, zgI_128, zsI_128, zgI_129, zsI_129, zgI_130, zsI_130, zgI_131, zsI_131, zgI_132, zsI_132, zgI_133, zsI_133, zgI_134, zsI_134, zgI_135, zsI_135, zgI_136, zsI_136, zgI_137, zsI_137, zgI_139, zsI_139, zgI_140, zsI_140, zgI_141, zsI_141, zgI_142, zsI_142, zgI_143, zsI_143, zgI_144, zsI_144, zgI_145, zsI_145, zgI_146, zsI_146, zgI_147, zsI_147, zb_209_0, hto, u1, u2, k1, k2, znm, not_true]
        simp only [ite_not] at second ⊢
        exact second
    · rw [zB_c (show ((u ≠ 0 ∧ t.2.2.1 u = nI k ∧ t.2.2.2.1 u = nI (x + 1)) ∨ (k ≠ 0 ∧ t.2.2.1 k = nI u ∧ t.2.2.2.1 k = -nI (x + 1))) ↔ (k ≠ 0 ∧ t.2.2.1 k = nI u ∧ t.2.2.2.1 k = -nI (x + 1)) from ⟨fun q => q.elim (fun q => absurd q.2.1 c1) id, Or.inr⟩)]
      simp (disch := first | assumption | omega) only [zn0, zn1, Option.bind_some, zm_ai, zm_al, zm_av, zm_opt, zm_fw, zE_l, zE_r, nI_add, pk_mul, pk_sub, pk_div, pk_rem, zrem, zpm1, zB_i0, zB_i1, zB_ok, zB_T, zB_F, nI_toInt, zT_sub, zT_neg, zT_le, zT_lt, nI_eq, zne1, zne2, zne9, ite_not, or_true, true_or, if_true, if_false, if_pos, if_neg, zw_R, zw_RL, zw_I, zF_R, zw_same, zw_cell, zw_ne, zF_at, zF_ne, zi_118, zx_118_0, zx_118_1, zx_118_2, zx_118_3, zx_118_7, zx_118_8, zx_118_9, zx_118_10, zx_118_11, zx_118_12, zx_118_13, zx_118_14, zx_118_15, zx_118_17, zx_118_18, zx_118_19, zx_118_21, zx_118_22, zx_118_24, zx_118_25, zx_118_30, zx_118_35, zx_118_36, zx_118_37, zx_118_38, zx_118_39, zx_118_41, zx_118_42, zx_118_44, zx_118_45, zx_118_46, zgI_119, zsI_119, zgI_120, zsI_120, zgI_121, zsI_121, zgI_122, zsI_122, zgI_123, zsI_123, zgI_124, zsI_124, zgI_125, zsI_125, zgI_126, zsI_126, zgI_127, zsI_127, zgI_128, zsI_128, zgI_129, zsI_129, zgI_130, zsI_130, zgI_131, zsI_131, zgI_132, zsI_132, zgI_133, zsI_133, zgI_134, zsI_134, zgI_135, zsI_135, zgI_136, zsI_136, zgI_137, zsI_137, zgI_139, zsI_139, zgI_140, zsI_140, zgI_141, zsI_141, zgI_142, zsI_142, zgI_143, zsI_143, zgI_144, zsI_144, zgI_145, zsI_145, zgI_146, zsI_146, zgI_147, zsI_147, zb_209_0, hto, u1, u2, k1, k2, znm, not_false]
      simp only [ite_not] at second ⊢
      exact second
theorem m_isTwin (hF : zFix σ) (h : zMT σ t) {k u : Nat} (hk : k < 5) (hu : u < 5) : zM 210 [.ref 118, .int (nI k), .int (nI u)] zL σ = some (some (.int (zB (zTw t k u))), zL, σ) := by
  obtain ⟨u1, u2, -, -⟩ := h.2.2 u (by omega)
  obtain ⟨k1, k2, -, -⟩ := h.2.2 k (by omega)
  refine zS_eq (zS_of ze_210 ?_)
  unfold zTw
  have second : zE 210 (if u = 0 then some (.inr (some (.int (nI 0)), zL, σ)) else if ¬ t.2.2.1 u = nI k then some (.inr (some (.int (nI 0)), zL, σ)) else some (.inr (some (.int (nI 1)), zL, σ))) (fun q => q = (some (.int (zB (u ≠ 0 ∧ t.2.2.1 u = nI k))), zL, σ)) := by
    by_cases c3 : u = 0
    · rw [if_pos c3, zB_f (fun q => q.1 c3)]; rfl
    · rw [if_neg c3]
      by_cases c4 : t.2.2.1 u = nI k
      · rw [if_neg (not_not_intro c4), zB_t ⟨c3, c4⟩]; rfl
      · rw [if_pos c4, zB_f (fun q => c4 q.2)]; rfl
  by_cases c0 : k = 0
  · rw [zB_c (show ((k ≠ 0 ∧ t.2.2.1 k = nI u) ∨ (u ≠ 0 ∧ t.2.2.1 u = nI k)) ↔ (u ≠ 0 ∧ t.2.2.1 u = nI k) from ⟨fun q => q.elim (fun q => absurd c0 q.1) id, Or.inr⟩)]
    simp (disch := first | assumption | omega) only [zn0, zn1, Option.bind_some, zm_ai, zm_al, zm_av, zm_opt, zm_fw, zE_l, zE_r, nI_add, pk_mul, pk_sub, pk_div, pk_rem, zrem, zpm1, zB_i0, zB_i1, zB_ok, zB_T, zB_F, nI_toInt, zT_sub, zT_neg, zT_le, zT_lt, nI_eq, zne1, zne2, zne9, ite_not, or_true, true_or, if_true, if_false, if_pos, if_neg, zw_R, zw_RL, zw_I, zF_R, zw_same, zw_cell, zw_ne, zF_at, zF_ne, zi_118, zx_118_0, zx_118_1, zx_118_2, zx_118_3, zx_118_7, zx_118_8, zx_118_9, zx_118_10, zx_118_11, zx_118_12, zx_118_13, zx_118_14, zx_118_15, zx_118_17, zx_118_18, zx_118_19, zx_118_21, zx_118_22, zx_118_24, zx_118_25, zx_118_30, zx_118_35, zx_118_36, zx_118_37, zx_118_38, zx_118_39, zx_118_41, zx_118_42, zx_118_44, zx_118_45, zx_118_46, zgI_119, zsI_119, zgI_120, zsI_120, zgI_121, zsI_121, zgI_122, zsI_122, zgI_123, zsI_123, zgI_124, zsI_124, zgI_125, zsI_125, zgI_126, zsI_126, zgI_127, zsI_127, zgI_128, zsI_128, zgI_129, zsI_129, zgI_130, zsI_130, zgI_131, zsI_131, zgI_132, zsI_132, zgI_133, zsI_133, zgI_134, zsI_134, zgI_135, zsI_135, zgI_136, zsI_136, zgI_137, zsI_137, zgI_139, zsI_139, zgI_140, zsI_140, zgI_141, zsI_141, zgI_142, zsI_142, zgI_143, zsI_143, zgI_144, zsI_144, zgI_145, zsI_145, zgI_146, zsI_146, zgI_147, zsI_147, zb_210_0, u1]
    simp only [c0, ite_not] at second ⊢
    exact second
  · by_cases c1 : t.2.2.1 k = nI u
    · simp (disch := first | assumption | omega) only [zn0, zn1, Option.bind_some, zm_ai, zm_al, zm_av, zm_opt, zm_fw, zE_l, zE_r, nI_add, pk_mul, pk_sub, pk_div, pk_rem, zrem, zpm1, zB_i0, zB_i1, zB_ok, zB_T, zB_F, nI_toInt, zT_sub, zT_neg, zT_le, zT_lt, nI_eq, zne1, zne2, zne9, ite_not, or_true, true_or, if_true, if_false, if_pos, if_neg, zw_R, zw_RL, zw_I, zF_R, zw_same, zw_cell, zw_ne, zF_at, zF_ne, zi_118, zx_118_0, zx_118_1, zx_118_2, zx_118_3, zx_118_7, zx_118_8, zx_118_9, zx_118_10, zx_118_11, zx_118_12, zx_118_13, zx_118_14, zx_118_15, zx_118_17, zx_118_18, zx_118_19, zx_118_21, zx_118_22, zx_118_24, zx_118_25, zx_118_30, zx_118_35, zx_118_36, zx_118_37, zx_118_38, zx_118_39, zx_118_41, zx_118_42, zx_118_44, zx_118_45, zx_118_46, zgI_119, zsI_119, zgI_120, zsI_120, zgI_121, zsI_121, zgI_122, zsI_122, zgI_123, zsI_123, zgI_124, zsI_124, zgI_125, zsI_125, zgI_126, zsI_126, zgI_127, zsI_127, zgI_128, zsI_128, zgI_129, zsI_129, zgI_130, zsI_130, zgI_131, zsI_131, zgI_132, zsI_132, zgI_133, zsI_133, zgI_134, zsI_134, zgI_135, zsI_135, zgI_136, zsI_136, zgI_137, zsI_137, zgI_139, zsI_139, zgI_140, zsI_140, zgI_141, zsI_141, zgI_142, zsI_142, zgI_143, zsI_143, zgI_144, zsI_144, zgI_145, zsI_145, zgI_146, zsI_146, zgI_147, zsI_147, zb_210_0, k1]
      rw [zB_t (Or.inl ⟨c0, c1⟩)]
    · rw [zB_c (show ((k ≠ 0 ∧ t.2.2.1 k = nI u) ∨ (u ≠ 0 ∧ t.2.2.1 u = nI k)) ↔ (u ≠ 0 ∧ t.2.2.1 u = nI k) from ⟨fun q => q.elim (fun q => absurd q.2 c1) id, Or.inr⟩)]
      simp (disch := first | assumption | omega) only [zn0, zn1, Option.bind_some, zm_ai, zm_al, zm_av, zm_opt, zm_fw, zE_l, zE_r, nI_add, pk_mul, pk_sub, pk_div, pk_rem, zrem, zpm1, zB_i0, zB_i1, zB_ok, zB_T, zB_F, nI_toInt, zT_sub, zT_neg, zT_le, zT_lt, nI_eq, zne1, zne2, zne9, ite_not, or_true, true_or, if_true, if_false, if_pos, if_neg, zw_R, zw_RL, zw_I, zF_R, zw_same, zw_cell, zw_ne, zF_at, zF_ne, zi_118, zx_118_0, zx_118_1, zx_118_2, zx_118_3, zx_118_7, zx_118_8, zx_118_9, zx_118_10, zx_118_11, zx_118_12, zx_118_13, zx_118_14, zx_118_15, zx_118_17, zx_118_18, zx_118_19, zx_118_21, zx_118_22, zx_118_24, zx_118_25, zx_118_30, zx_118_35, zx_118_36, zx_118_37, zx_118_38, zx_118_39, zx_118_41, zx_118_42, zx_118_44, zx_118_45, zx_118_46, zgI_119, zsI_119, zgI_120, zsI_120, zgI_121, zsI_121, zgI_122, zsI_122, zgI_123, zsI_123, zgI_124, zsI_124, zgI_125, zsI_125, zgI_126, zsI_126, zgI_127, zsI_127, zgI_128, zsI_128, zgI_129, zsI_129, zgI_130, zsI_130, zgI_131, zsI_131, zgI_132, zsI_132, zgI_133, zsI_133, zgI_134, zsI_134, zgI_135, zsI_135, zgI_136, zsI_136, zgI_137, zsI_137, zgI_139, zsI_139, zgI_140, zsI_140, zgI_141, zsI_141, zgI_142, zsI_142, zgI_143, zsI_143, zgI_144, zsI_144, zgI_145, zsI_145, zgI_146, zsI_146, zgI_147, zsI_147, zb_210_0, k1, u1]
      simp only [ite_not] at second ⊢
      exact second
def zMNm (σ : zm_Sig) (G : zG) (t : zT) (m : Nat) : Prop := σ.1 118 20 = nI (zsc G t m) ∧ ∀ e, e < m → σ.1 132 e = nI (zkd G t e) ∧ σ.1 133 e = nI (zsg G t e) ∧ (¬ zbe G t e → σ.1 134 (zsg G t e) = nI e)
/-- one edge more is named -/
theorem zMNm.b {m : Nat} (h : zMNm σ G t m) (hb : zbe G t m) {σ' : zm_Sig} (hs : σ' = zm_wI (zm_wI (zm_wI σ 132 m (nI 1)) 118 20 (nI (zsc G t m))) 133 m (nI 0)) : zMNm σ' G t (m + 1) := by
  subst hs
  obtain ⟨i1, i2⟩ := h
  refine ⟨by rw [zw_cell _ _ (by decide), zw_same, zsc_b hb], fun f hf => ?_⟩
  rw [zw_cell _ _ (show (132 : Nat) ≠ 133 by decide), zw_cell _ _ (show (132 : Nat) ≠ 118 by decide), zwx, zwx, zw_cell _ _ (show (133 : Nat) ≠ 118 by decide), zw_cell _ _ (show (133 : Nat) ≠ 132 by decide)]
  by_cases q : f = m
  · rw [if_pos q, if_pos q, q, zkd_b hb, zsg_b hb]
    exact ⟨rfl, rfl, fun q => absurd hb q⟩
  · rw [if_neg q, if_neg q, zw_cell _ _ (show (134 : Nat) ≠ 133 by decide), zw_cell _ _ (show (134 : Nat) ≠ 118 by decide), zw_cell _ _ (show (134 : Nat) ≠ 132 by decide)]
    exact i2 f (by omega)
theorem zMNm.n {m : Nat} (h : zMNm σ G t m) (hb : ¬ zbe G t m) {σ' : zm_Sig} (hs : σ' = zm_wI (zm_wI (zm_wI (zm_wI σ 132 m (nI (zk2 t (m / G.2.1) (zto G m)))) 118 20 (nI (zsc G t m + 1))) 133 m (nI (zsc G t m + 1))) 134 (zsc G t m + 1) (nI m)) : zMNm σ' G t (m + 1) := by
  subst hs
  obtain ⟨i1, i2⟩ := h
  refine ⟨by rw [zw_cell _ _ (by decide), zw_cell _ _ (by decide), zw_same, zsc_n hb], fun f hf => ?_⟩
  rw [zw_cell _ _ (show (132 : Nat) ≠ 134 by decide), zw_cell _ _ (show (132 : Nat) ≠ 133 by decide), zw_cell _ _ (show (132 : Nat) ≠ 118 by decide), zw_cell _ _ (show (133 : Nat) ≠ 134 by decide), zwx, zwx, zw_cell _ _ (show (133 : Nat) ≠ 118 by decide), zw_cell _ _ (show (133 : Nat) ≠ 132 by decide)]
  by_cases q : f = m
  · rw [if_pos q, if_pos q, q, zkd_n hb, zsg_n hb]
    exact ⟨rfl, rfl, fun _ => zw_same _ _ _ _⟩
  · rw [if_neg q, if_neg q]
    obtain ⟨j1, j2, j3⟩ := i2 f (by omega)
    refine ⟨j1, j2, fun hfb => ?_⟩
    have hlt : zsg G t f ≤ zsc G t m := by
      rw [zsg_n hfb, ← zsc_n hfb]
      exact zsc_mono G t (by omega)
    rw [zw_ne _ _ (Or.inr (by omega)), zw_cell _ _ (by decide), zw_cell _ _ (by decide), zw_cell _ _ (by decide)]
    exact j3 hfb
/-- from the tree on -/
theorem m_edges (hF : zFix σ) (hG : zMG σ G) (hv : zGv G) (h : zMT σ t) (hT : zTi G t) (hal : ∀ p, p < G.1 → zMet t p) (h0 : σ.1 118 20 = nI 0) (Q : zm_Out → Prop) (hQ : ∀ σ', zMN σ' G t → zKeep zFMN σ σ' → Q (none, zL, σ')) : zW 202 (98, [(0, .ref 118), (1, .int (nI 0))], [], zL, σ, 0, 0) Q := by
  have v1 := hv.1
  have v2 := hv.2.1
  have h15 := zng hv
  refine zloop (fun e σ1 => (98, [(0, .ref 118), (1, .int (nI e))], [], zL, σ1, 0, 0)) (fun e σ1 => zMNm σ1 G t e ∧ zKeep zFMN σ σ1) (G.1 * G.2.1) (fun e σ1 he hI ih => ?_) (fun σ1 hI => ?_) 0 σ (by omega) ⟨⟨h0, fun e he => by cases he⟩, zKeep.rf _ _⟩
  · obtain ⟨i1, hK⟩ := hI
    have hF1 := hK.fix hF rfl
    have hG1 : zMG σ1 G := hG.keep hK ⟨rfl, rfl, rfl⟩ fun k => ⟨rfl, rfl, rfl, rfl⟩
    have hM1 : zMT σ1 t := h.keep hK rfl fun k => ⟨rfl, rfl, rfl, rfl, rfl⟩
    have hg1 := hG1.1
    have hg2 := hG1.2.1
    obtain ⟨hg, e1, e2⟩ := zedge he
    have hb9 := m_isBranch hF1 hG1 hv hM1 e1 e2
    have hto := (hG1.2.2.2.1 _ _ e2 e1).1
    have htl : zto G e < G.1 := (hv.2.2.2.1 _ _ e2 e1).1
    have htw := m_isTwin hF1 hM1 (k := e / G.2.1) (u := zto G e) (by omega) (by omega)
    have hto' : σ1.1 123 (5 * (e % G.2.1) + e / G.2.1) = nI (zto G e) := hto
    have hix : 5 * (e % G.2.1) + e / G.2.1 < 15 := by omega
    have hsc := zsc_le G t e
    have hs := i1.1
    have cond1 : ¬ (nI G.1 * nI G.2.1 ≤ nI e) := by
      rw [pk_mul]
      exact nI_ge he (by omega)
    have hgz : ¬ (nI G.2.1 = 0) := fun q => by
      have := congrArg Int32.toInt q
      rw [zn0, nI_toInt (by omega), nI_toInt (by omega)] at this
      omega
    have ed : nI e / nI G.2.1 = nI (e / G.2.1) := by simp (disch := first | assumption | omega) only [zn0, zn1, Option.bind_some, zm_ai, zm_al, zm_av, zm_opt, zm_fw, zE_l, zE_r, nI_add, pk_mul, pk_sub, pk_div, pk_rem, zrem, zpm1, zB_i0, zB_i1, zB_ok, zB_T, zB_F, nI_toInt, zT_sub, zT_neg, if_true, if_false, zw_R, zw_RL, zw_I, zF_R, zw_same, zw_cell, zw_ne, zF_at, zF_ne, ↓reduceIte, zd_leT, zd_leF, zd_ltT, zd_ltF, zd_eqF, zd_n1, zd_n2, eq_self, not_true_eq_false, not_false_eq_true, zi_118, zx_118_0, zx_118_1, zx_118_2, zx_118_3, zx_118_7, zx_118_8, zx_118_9, zx_118_10, zx_118_11, zx_118_12, zx_118_13, zx_118_14, zx_118_15, zx_118_17, zx_118_18, zx_118_19, zx_118_21, zx_118_22, zx_118_24, zx_118_25, zx_118_30, zx_118_35, zx_118_36, zx_118_37, zx_118_38, zx_118_39, zx_118_41, zx_118_42, zx_118_44, zx_118_45, zx_118_46, zgI_119, zsI_119, zgI_120, zsI_120, zgI_121, zsI_121, zgI_122, zsI_122, zgI_123, zsI_123, zgI_124, zsI_124, zgI_125, zsI_125, zgI_126, zsI_126, zgI_127, zsI_127, zgI_128, zsI_128, zgI_129, zsI_129, zgI_130, zsI_130, zgI_131, zsI_131, zgI_132, zsI_132, zgI_133, zsI_133, zgI_134, zsI_134, zgI_135, zsI_135, zgI_136, zsI_136, zgI_137, zsI_137, zgI_139, zsI_139, zgI_140, zsI_140, zgI_141, zsI_141, zgI_142, zsI_142, zgI_143, zsI_143, zgI_144, zsI_144, zgI_145, zsI_145, zgI_146, zsI_146, zgI_147, zsI_147]
    have em : nI e - nI (e / G.2.1) * nI G.2.1 = nI (e % G.2.1) := by simp (disch := first | assumption | omega) only [zn0, zn1, Option.bind_some, zm_ai, zm_al, zm_av, zm_opt, zm_fw, zE_l, zE_r, nI_add, pk_mul, pk_sub, pk_div, pk_rem, zrem, zpm1, zB_i0, zB_i1, zB_ok, zB_T, zB_F, nI_toInt, zT_sub, zT_neg, if_true, if_false, zw_R, zw_RL, zw_I, zF_R, zw_same, zw_cell, zw_ne, zF_at, zF_ne, ↓reduceIte, zd_leT, zd_leF, zd_ltT, zd_ltF, zd_eqF, zd_n1, zd_n2, eq_self, not_true_eq_false, not_false_eq_true, zi_118, zx_118_0, zx_118_1, zx_118_2, zx_118_3, zx_118_7, zx_118_8, zx_118_9, zx_118_10, zx_118_11, zx_118_12, zx_118_13, zx_118_14, zx_118_15, zx_118_17, zx_118_18, zx_118_19, zx_118_21, zx_118_22, zx_118_24, zx_118_25, zx_118_30, zx_118_35, zx_118_36, zx_118_37, zx_118_38, zx_118_39, zx_118_41, zx_118_42, zx_118_44, zx_118_45, zx_118_46, zgI_119, zsI_119, zgI_120, zsI_120, zgI_121, zsI_121, zgI_122, zsI_122, zgI_123, zsI_123, zgI_124, zsI_124, zgI_125, zsI_125, zgI_126, zsI_126, zgI_127, zsI_127, zgI_128, zsI_128, zgI_129, zsI_129, zgI_130, zsI_130, zgI_131, zsI_131, zgI_132, zsI_132, zgI_133, zsI_133, zgI_134, zsI_134, zgI_135, zsI_135, zgI_136, zsI_136, zgI_137, zsI_137, zgI_139, zsI_139, zgI_140, zsI_140, zgI_141, zsI_141, zgI_142, zsI_142, zgI_143, zsI_143, zgI_144, zsI_144, zgI_145, zsI_145, zgI_146, zsI_146, zgI_147, zsI_147]
    have key : zm_gI zL σ1 123 (nI 5 * nI (e % G.2.1) + nI (e / G.2.1)) = some (nI (zto G e)) := by simp (disch := first | assumption | omega) only [zn0, zn1, Option.bind_some, zm_ai, zm_al, zm_av, zm_opt, zm_fw, zE_l, zE_r, nI_add, pk_mul, pk_sub, pk_div, pk_rem, zrem, zpm1, zB_i0, zB_i1, zB_ok, zB_T, zB_F, nI_toInt, zT_sub, zT_neg, if_true, if_false, zw_R, zw_RL, zw_I, zF_R, zw_same, zw_cell, zw_ne, zF_at, zF_ne, ↓reduceIte, zd_leT, zd_leF, zd_ltT, zd_ltF, zd_eqF, zd_n1, zd_n2, eq_self, not_true_eq_false, not_false_eq_true, zi_118, zx_118_0, zx_118_1, zx_118_2, zx_118_3, zx_118_7, zx_118_8, zx_118_9, zx_118_10, zx_118_11, zx_118_12, zx_118_13, zx_118_14, zx_118_15, zx_118_17, zx_118_18, zx_118_19, zx_118_21, zx_118_22, zx_118_24, zx_118_25, zx_118_30, zx_118_35, zx_118_36, zx_118_37, zx_118_38, zx_118_39, zx_118_41, zx_118_42, zx_118_44, zx_118_45, zx_118_46, zgI_119, zsI_119, zgI_120, zsI_120, zgI_121, zsI_121, zgI_122, zsI_122, zgI_123, zsI_123, zgI_124, zsI_124, zgI_125, zsI_125, zgI_126, zsI_126, zgI_127, zsI_127, zgI_128, zsI_128, zgI_129, zsI_129, zgI_130, zsI_130, zgI_131, zsI_131, zgI_132, zsI_132, zgI_133, zsI_133, zgI_134, zsI_134, zgI_135, zsI_135, zgI_136, zsI_136, zgI_137, zsI_137, zgI_139, zsI_139, zgI_140, zsI_140, zgI_141, zsI_141, zgI_142, zsI_142, zgI_143, zsI_143, zgI_144, zsI_144, zgI_145, zsI_145, zgI_146, zsI_146, zgI_147, zsI_147, hto']
    have h10 : (nI 1 = (0 : Int32)) = False := eq_false (by decide)
    have h00 : (nI 0 = (0 : Int32)) = True := eq_true (by decide)
    refine zW_of zg_202_98 ?_
    by_cases hb : zbe G t e
    · rw [zB_t (show zbr G t (e / G.2.1) (e % G.2.1) from hb)] at hb9
      simp only [zb_202_98, zi_118, Option.bind_some, hg1, hg2, if_neg cond1, if_neg hgz, zx_118_7 hF1, zm_opt, em, ed, key, hb9, zm_ai]
      simp only [h10, h00, ↓reduceIte, not_false_eq_true, not_true_eq_false]
      simp (disch := first | assumption | omega) only [zn0, zn1, Option.bind_some, zm_ai, zm_al, zm_av, zm_opt, zm_fw, zE_l, zE_r, nI_add, pk_mul, pk_sub, pk_div, pk_rem, zrem, zpm1, zB_i0, zB_i1, zB_ok, zB_T, zB_F, nI_toInt, zT_sub, zT_neg, if_true, if_false, zw_R, zw_RL, zw_I, zF_R, zw_same, zw_cell, zw_ne, zF_at, zF_ne, ↓reduceIte, zd_leT, zd_leF, zd_ltT, zd_ltF, zd_eqF, zd_n1, zd_n2, eq_self, not_true_eq_false, not_false_eq_true, zi_118, zx_118_0, zx_118_1, zx_118_2, zx_118_3, zx_118_7, zx_118_8, zx_118_9, zx_118_10, zx_118_11, zx_118_12, zx_118_13, zx_118_14, zx_118_15, zx_118_17, zx_118_18, zx_118_19, zx_118_21, zx_118_22, zx_118_24, zx_118_25, zx_118_30, zx_118_35, zx_118_36, zx_118_37, zx_118_38, zx_118_39, zx_118_41, zx_118_42, zx_118_44, zx_118_45, zx_118_46, zgI_119, zsI_119, zgI_120, zsI_120, zgI_121, zsI_121, zgI_122, zsI_122, zgI_123, zsI_123, zgI_124, zsI_124, zgI_125, zsI_125, zgI_126, zsI_126, zgI_127, zsI_127, zgI_128, zsI_128, zgI_129, zsI_129, zgI_130, zsI_130, zgI_131, zsI_131, zgI_132, zsI_132, zgI_133, zsI_133, zgI_134, zsI_134, zgI_135, zsI_135, zgI_136, zsI_136, zgI_137, zsI_137, zgI_139, zsI_139, zgI_140, zsI_140, zgI_141, zsI_141, zgI_142, zsI_142, zgI_143, zsI_143, zgI_144, zsI_144, zgI_145, zsI_145, zgI_146, zsI_146, zgI_147, zsI_147, hs, zadd0]
      exact ih _ ⟨i1.b hb rfl, ((hK.wI rfl).wI rfl).wI rfl⟩
    · rw [zB_f (show ¬ zbr G t (e / G.2.1) (e % G.2.1) from hb)] at hb9
      have ih := fun σ' hs' hK' => ih σ' ⟨i1.n hb hs', hK'⟩
      by_cases q1 : e / G.2.1 = zto G e
      · rw [zk2_3 q1] at ih
        have q1' : (nI (e / G.2.1) = nI (zto G e)) = True := eq_true (by rw [q1])
        simp only [zb_202_98, zi_118, Option.bind_some, hg1, hg2, if_neg cond1, if_neg hgz, zx_118_7 hF1, zm_opt, em, ed, key, hb9, zm_ai]
        simp only [h10, h00, ↓reduceIte, not_false_eq_true, not_true_eq_false, q1']
        simp (disch := first | assumption | omega) only [zn0, zn1, Option.bind_some, zm_ai, zm_al, zm_av, zm_opt, zm_fw, zE_l, zE_r, nI_add, pk_mul, pk_sub, pk_div, pk_rem, zrem, zpm1, zB_i0, zB_i1, zB_ok, zB_T, zB_F, nI_toInt, zT_sub, zT_neg, if_true, if_false, zw_R, zw_RL, zw_I, zF_R, zw_same, zw_cell, zw_ne, zF_at, zF_ne, ↓reduceIte, zd_leT, zd_leF, zd_ltT, zd_ltF, zd_eqF, zd_n1, zd_n2, eq_self, not_true_eq_false, not_false_eq_true, zi_118, zx_118_0, zx_118_1, zx_118_2, zx_118_3, zx_118_7, zx_118_8, zx_118_9, zx_118_10, zx_118_11, zx_118_12, zx_118_13, zx_118_14, zx_118_15, zx_118_17, zx_118_18, zx_118_19, zx_118_21, zx_118_22, zx_118_24, zx_118_25, zx_118_30, zx_118_35, zx_118_36, zx_118_37, zx_118_38, zx_118_39, zx_118_41, zx_118_42, zx_118_44, zx_118_45, zx_118_46, zgI_119, zsI_119, zgI_120, zsI_120, zgI_121, zsI_121, zgI_122, zsI_122, zgI_123, zsI_123, zgI_124, zsI_124, zgI_125, zsI_125, zgI_126, zsI_126, zgI_127, zsI_127, zgI_128, zsI_128, zgI_129, zsI_129, zgI_130, zsI_130, zgI_131, zsI_131, zgI_132, zsI_132, zgI_133, zsI_133, zgI_134, zsI_134, zgI_135, zsI_135, zgI_136, zsI_136, zgI_137, zsI_137, zgI_139, zsI_139, zgI_140, zsI_140, zgI_141, zsI_141, zgI_142, zsI_142, zgI_143, zsI_143, zgI_144, zsI_144, zgI_145, zsI_145, zgI_146, zsI_146, zgI_147, zsI_147, hs]
        exact ih _ rfl ((((hK.wI rfl).wI rfl).wI rfl).wI rfl)
      · by_cases q2 : zTw t (e / G.2.1) (zto G e)
        · rw [zk2_4 q1 q2] at ih
          rw [zB_t q2] at htw
          have q1' : (nI (e / G.2.1) = nI (zto G e)) = False := zd_eqF q1 (by omega) (by omega)
          simp only [zb_202_98, zi_118, Option.bind_some, hg1, hg2, if_neg cond1, if_neg hgz, zx_118_7 hF1, zm_opt, em, ed, key, hb9, zm_ai]
          simp only [h10, h00, ↓reduceIte, not_false_eq_true, not_true_eq_false, q1', htw, Option.bind_some]
          simp (disch := first | assumption | omega) only [zn0, zn1, Option.bind_some, zm_ai, zm_al, zm_av, zm_opt, zm_fw, zE_l, zE_r, nI_add, pk_mul, pk_sub, pk_div, pk_rem, zrem, zpm1, zB_i0, zB_i1, zB_ok, zB_T, zB_F, nI_toInt, zT_sub, zT_neg, if_true, if_false, zw_R, zw_RL, zw_I, zF_R, zw_same, zw_cell, zw_ne, zF_at, zF_ne, ↓reduceIte, zd_leT, zd_leF, zd_ltT, zd_ltF, zd_eqF, zd_n1, zd_n2, eq_self, not_true_eq_false, not_false_eq_true, zi_118, zx_118_0, zx_118_1, zx_118_2, zx_118_3, zx_118_7, zx_118_8, zx_118_9, zx_118_10, zx_118_11, zx_118_12, zx_118_13, zx_118_14, zx_118_15, zx_118_17, zx_118_18, zx_118_19, zx_118_21, zx_118_22, zx_118_24, zx_118_25, zx_118_30, zx_118_35, zx_118_36, zx_118_37, zx_118_38, zx_118_39, zx_118_41, zx_118_42, zx_118_44, zx_118_45, zx_118_46, zgI_119, zsI_119, zgI_120, zsI_120, zgI_121, zsI_121, zgI_122, zsI_122, zgI_123, zsI_123, zgI_124, zsI_124, zgI_125, zsI_125, zgI_126, zsI_126, zgI_127, zsI_127, zgI_128, zsI_128, zgI_129, zsI_129, zgI_130, zsI_130, zgI_131, zsI_131, zgI_132, zsI_132, zgI_133, zsI_133, zgI_134, zsI_134, zgI_135, zsI_135, zgI_136, zsI_136, zgI_137, zsI_137, zgI_139, zsI_139, zgI_140, zsI_140, zgI_141, zsI_141, zgI_142, zsI_142, zgI_143, zsI_143, zgI_144, zsI_144, zgI_145, zsI_145, zgI_146, zsI_146, zgI_147, zsI_147, hs]
          exact ih _ rfl ((((hK.wI rfl).wI rfl).wI rfl).wI rfl)
        · rw [zk2_2 q1 q2] at ih
          rw [zB_f q2] at htw
          have q1' : (nI (e / G.2.1) = nI (zto G e)) = False := zd_eqF q1 (by omega) (by omega)
          simp only [zb_202_98, zi_118, Option.bind_some, hg1, hg2, if_neg cond1, if_neg hgz, zx_118_7 hF1, zm_opt, em, ed, key, hb9, zm_ai]
          simp only [h10, h00, ↓reduceIte, not_false_eq_true, not_true_eq_false, q1', htw, Option.bind_some]
          simp (disch := first | assumption | omega) only [zn0, zn1, Option.bind_some, zm_ai, zm_al, zm_av, zm_opt, zm_fw, zE_l, zE_r, nI_add, pk_mul, pk_sub, pk_div, pk_rem, zrem, zpm1, zB_i0, zB_i1, zB_ok, zB_T, zB_F, nI_toInt, zT_sub, zT_neg, if_true, if_false, zw_R, zw_RL, zw_I, zF_R, zw_same, zw_cell, zw_ne, zF_at, zF_ne, ↓reduceIte, zd_leT, zd_leF, zd_ltT, zd_ltF, zd_eqF, zd_n1, zd_n2, eq_self, not_true_eq_false, not_false_eq_true, zi_118, zx_118_0, zx_118_1, zx_118_2, zx_118_3, zx_118_7, zx_118_8, zx_118_9, zx_118_10, zx_118_11, zx_118_12, zx_118_13, zx_118_14, zx_118_15, zx_118_17, zx_118_18, zx_118_19, zx_118_21, zx_118_22, zx_118_24, zx_118_25, zx_118_30, zx_118_35, zx_118_36, zx_118_37, zx_118_38, zx_118_39, zx_118_41, zx_118_42, zx_118_44, zx_118_45, zx_118_46, zgI_119, zsI_119, zgI_120, zsI_120, zgI_121, zsI_121, zgI_122, zsI_122, zgI_123, zsI_123, zgI_124, zsI_124, zgI_125, zsI_125, zgI_126, zsI_126, zgI_127, zsI_127, zgI_128, zsI_128, zgI_129, zsI_129, zgI_130, zsI_130, zgI_131, zsI_131, zgI_132, zsI_132, zgI_133, zsI_133, zgI_134, zsI_134, zgI_135, zsI_135, zgI_136, zsI_136, zgI_137, zsI_137, zgI_139, zsI_139, zgI_140, zsI_140, zgI_141, zsI_141, zgI_142, zsI_142, zgI_143, zsI_143, zgI_144, zsI_144, zgI_145, zsI_145, zgI_146, zsI_146, zgI_147, zsI_147, hs]
          exact ih _ rfl ((((hK.wI rfl).wI rfl).wI rfl).wI rfl)
  · obtain ⟨i1, hK⟩ := hI
    have hG1 : zMG σ1 G := hG.keep hK ⟨rfl, rfl, rfl⟩ fun k => ⟨rfl, rfl, rfl, rfl⟩
    have hg1 := hG1.1
    have hg2 := hG1.2.1
    refine zW_of zg_202_98 ?_
    simp (disch := first | assumption | omega) only [zn0, zn1, Option.bind_some, zm_ai, zm_al, zm_av, zm_opt, zm_fw, zE_l, zE_r, nI_add, pk_mul, pk_sub, pk_div, pk_rem, zrem, zpm1, zB_i0, zB_i1, zB_ok, zB_T, zB_F, nI_toInt, zT_sub, zT_neg, if_true, if_false, zw_R, zw_RL, zw_I, zF_R, zw_same, zw_cell, zw_ne, zF_at, zF_ne, ↓reduceIte, zd_leT, zd_leF, zd_ltT, zd_ltF, zd_eqF, zd_n1, zd_n2, eq_self, not_true_eq_false, not_false_eq_true, zi_118, zx_118_0, zx_118_1, zx_118_2, zx_118_3, zx_118_7, zx_118_8, zx_118_9, zx_118_10, zx_118_11, zx_118_12, zx_118_13, zx_118_14, zx_118_15, zx_118_17, zx_118_18, zx_118_19, zx_118_21, zx_118_22, zx_118_24, zx_118_25, zx_118_30, zx_118_35, zx_118_36, zx_118_37, zx_118_38, zx_118_39, zx_118_41, zx_118_42, zx_118_44, zx_118_45, zx_118_46, zgI_119, zsI_119, zgI_120, zsI_120, zgI_121, zsI_121, zgI_122, zsI_122, zgI_123, zsI_123, zgI_124, zsI_124, zgI_125, zsI_125, zgI_126, zsI_126, zgI_127, zsI_127, zgI_128, zsI_128, zgI_129, zsI_129, zgI_130, zsI_130, zgI_131, zsI_131, zgI_132, zsI_132, zgI_133, zsI_133, zgI_134, zsI_134, zgI_135, zsI_135, zgI_136, zsI_136, zgI_137, zsI_137, zgI_139, zsI_139, zgI_140, zsI_140, zgI_141, zsI_141, zgI_142, zsI_142, zgI_143, zsI_143, zgI_144, zsI_144, zgI_145, zsI_145, zgI_146, zsI_146, zgI_147, zsI_147, zb_202_98, hg1, hg2]
    exact hQ σ1 i1 hK
def zFML (a k : Nat) : Bool := (127 ≤ a && a ≤ 134) || (a == 118 && (k == 16 || k == 20))
theorem m_laysTree (hF : zFix σ) (hG : zMG σ G) (hk : zGk G) {o : Nat} (ho : o < 3) (hst : σ.1 135 0 = nI o) :
    ∃ σ', zM 202 [.ref 118] zL σ = some (none, zL, σ') ∧ zMT σ' (ztree G o) ∧ zMN σ' G (ztree G o) ∧ zKeep zFML σ σ' := by
  obtain ⟨hv, htr, hn, hg⟩ := id hk
  obtain ⟨t1, t2, t3⟩ := ztree_ok hv htr (by omega) o
  refine zS_ex (zS_of ze_202 ?_)
  simp (disch := first | assumption | omega) only [zn0, zn1, Option.bind_some, zm_ai, zm_al, zm_av, zm_opt, zm_fw, zE_l, zE_r, nI_add, pk_mul, pk_sub, pk_div, pk_rem, zrem, zpm1, zB_i0, zB_i1, zB_ok, zB_T, zB_F, nI_toInt, zT_sub, zT_neg, zT_le, zT_lt, nI_eq, zne1, zne2, zne9, ite_not, or_true, true_or, if_true, if_false, if_pos, if_neg, zw_R, zw_RL, zw_I, zF_R, zw_same, zw_cell, zw_ne, zF_at, zF_ne, zi_118, zx_118_0, zx_118_1, zx_118_2, zx_118_3, zx_118_7, zx_118_8, zx_118_9, zx_118_10, zx_118_11, zx_118_12, zx_118_13, zx_118_14, zx_118_15, zx_118_17, zx_118_18, zx_118_19, zx_118_21, zx_118_22, zx_118_24, zx_118_25, zx_118_30, zx_118_35, zx_118_36, zx_118_37, zx_118_38, zx_118_39, zx_118_41, zx_118_42, zx_118_44, zx_118_45, zx_118_46, zgI_119, zsI_119, zgI_120, zsI_120, zgI_121, zsI_121, zgI_122, zsI_122, zgI_123, zsI_123, zgI_124, zsI_124, zgI_125, zsI_125, zgI_126, zsI_126, zgI_127, zsI_127, zgI_128, zsI_128, zgI_129, zsI_129, zgI_130, zsI_130, zgI_131, zsI_131, zgI_132, zsI_132, zgI_133, zsI_133, zgI_134, zsI_134, zgI_135, zsI_135, zgI_136, zsI_136, zgI_137, zsI_137, zgI_139, zsI_139, zgI_140, zsI_140, zgI_141, zsI_141, zgI_142, zsI_142, zgI_143, zsI_143, zgI_144, zsI_144, zgI_145, zsI_145, zgI_146, zsI_146, zgI_147, zsI_147, zb_202_0]
  refine zloop (fun e σ1 => (2, [(0, .ref 118), (1, .int (nI e))], [], zL, σ1, 0, 0)) (fun e σ1 => (∀ p, p < e → σ1.1 127 p = -9 ∧ σ1.1 128 p = -9 ∧ σ1.1 129 p = nI 0) ∧ zKeep zFML σ σ1) 5 (fun e σ1 he hI ih => ?_) (fun σ1 hI => ?_) 0 σ (by omega) ⟨(fun p hp => absurd hp (Nat.not_lt_zero p)), zKeep.rf _ _⟩
  · obtain ⟨i1, hK⟩ := hI
    have hF1 := hK.fix hF rfl
    refine zW_of zg_202_2 ?_
    simp (disch := first | assumption | omega) only [zn0, zn1, Option.bind_some, zm_ai, zm_al, zm_av, zm_opt, zm_fw, zE_l, zE_r, nI_add, pk_mul, pk_sub, pk_div, pk_rem, zrem, zpm1, zB_i0, zB_i1, zB_ok, zB_T, zB_F, nI_toInt, zT_sub, zT_neg, zT_le, zT_lt, nI_eq, zne1, zne2, zne9, ite_not, or_true, true_or, if_true, if_false, if_pos, if_neg, zw_R, zw_RL, zw_I, zF_R, zw_same, zw_cell, zw_ne, zF_at, zF_ne, zi_118, zx_118_0, zx_118_1, zx_118_2, zx_118_3, zx_118_7, zx_118_8, zx_118_9, zx_118_10, zx_118_11, zx_118_12, zx_118_13, zx_118_14, zx_118_15, zx_118_17, zx_118_18, zx_118_19, zx_118_21, zx_118_22, zx_118_24, zx_118_25, zx_118_30, zx_118_35, zx_118_36, zx_118_37, zx_118_38, zx_118_39, zx_118_41, zx_118_42, zx_118_44, zx_118_45, zx_118_46, zgI_119, zsI_119, zgI_120, zsI_120, zgI_121, zsI_121, zgI_122, zsI_122, zgI_123, zsI_123, zgI_124, zsI_124, zgI_125, zsI_125, zgI_126, zsI_126, zgI_127, zsI_127, zgI_128, zsI_128, zgI_129, zsI_129, zgI_130, zsI_130, zgI_131, zsI_131, zgI_132, zsI_132, zgI_133, zsI_133, zgI_134, zsI_134, zgI_135, zsI_135, zgI_136, zsI_136, zgI_137, zsI_137, zgI_139, zsI_139, zgI_140, zsI_140, zgI_141, zsI_141, zgI_142, zsI_142, zgI_143, zsI_143, zgI_144, zsI_144, zgI_145, zsI_145, zgI_146, zsI_146, zgI_147, zsI_147, zb_202_2]
    refine ih _ ⟨fun p hp => ?_, ((hK.wI rfl).wI rfl).wI rfl⟩
    rw [zw_cell _ _ (show (127 : Nat) ≠ 128 by decide), zwx, zw_cell _ _ (show (127 : Nat) ≠ 129 by decide), zwx, zw_cell _ _ (show (128 : Nat) ≠ 127 by decide), zw_cell _ _ (show (128 : Nat) ≠ 129 by decide), zw_cell _ _ (show (129 : Nat) ≠ 128 by decide), zw_cell _ _ (show (129 : Nat) ≠ 127 by decide), zwx]
    by_cases q : p = e
    · rw [if_pos q, if_pos q, if_pos q]; exact ⟨rfl, rfl, rfl⟩
    · rw [if_neg q, if_neg q, if_neg q]; exact i1 p (by omega)
  · obtain ⟨i1, hK⟩ := hI
    have hF1 := hK.fix hF rfl
    refine zW_of zg_202_2 ?_
    have hK2 : zKeep zFML σ (zm_wI (zm_wI (zm_wI σ1 131 0 (nI 0)) 130 0 (nI 0)) 118 16 (nI 1)) := ((hK.wI rfl).wI rfl).wI rfl
    have hM2 : zMT (zm_wI (zm_wI (zm_wI σ1 131 0 (nI 0)) 130 0 (nI 0)) 118 16 (nI 1)) zt0 := by
      refine ⟨zw_same _ _ _ _, fun i hi => ?_, fun p hp => ?_⟩
      · have hi' : i < 1 := hi
        have : i = 0 := by omega
        subst this
        rw [zw_cell _ _ (by decide), zw_cell _ _ (by decide), zw_same]; rfl
      · rw [zw_cell _ _ (show (127 : Nat) ≠ 118 by decide), zw_cell _ _ (show (127 : Nat) ≠ 130 by decide), zw_cell _ _ (show (127 : Nat) ≠ 131 by decide), zw_cell _ _ (show (128 : Nat) ≠ 118 by decide), zw_cell _ _ (show (128 : Nat) ≠ 130 by decide), zw_cell _ _ (show (128 : Nat) ≠ 131 by decide), zw_cell _ _ (show (129 : Nat) ≠ 118 by decide), zw_cell _ _ (show (129 : Nat) ≠ 130 by decide), zw_cell _ _ (show (129 : Nat) ≠ 131 by decide)]
        obtain ⟨j1, j2, j3⟩ := i1 p hp
        refine ⟨j1, j2, j3, fun hm => ?_⟩
        have : p = 0 := hm.elim id (fun q => absurd q (Nat.lt_irrefl 0))
        subst this
        rw [zw_cell _ _ (by decide), zw_same]; rfl
    have hst2 : (zm_wI (zm_wI (zm_wI σ1 131 0 (nI 0)) 130 0 (nI 0)) 118 16 (nI 1)).1 135 0 = nI o := (hK2.i rfl).trans hst
    have hst3 : σ1.1 135 0 = nI o := (hK.i rfl).trans hst
    generalize hs2 : zm_wI (zm_wI (zm_wI σ1 131 0 (nI 0)) 130 0 (nI 0)) 118 16 (nI 1) = σ2 at *
    have hF2 := hK2.fix hF rfl
    have hG2 : zMG σ2 G := hG.keep hK2 ⟨rfl, rfl, rfl⟩ fun k => ⟨rfl, rfl, rfl, rfl⟩
    have fin : ∀ σ3, zMT σ3 (ztree G o) → zKeep zFMT σ2 σ3 → zW 202 (98, [(0, .ref 118), (1, .int (nI 0))], [], zL, zm_wI σ3 118 20 (nI 0), 0, 0) (fun q => ∃ σ', q = (none, zL, σ') ∧ zMT σ' (ztree G o) ∧ zMN σ' G (ztree G o) ∧ zKeep zFML σ σ') := by
      intro σ3 hM3 hK3
      have hK4 : zKeep zFML σ (zm_wI σ3 118 20 (nI 0)) := (hK2.tr (hK3.mo fun x k q => by
        simp only [zFMT, zFML, Bool.or_eq_true, Bool.and_eq_true, decide_eq_true_eq, beq_iff_eq] at q ⊢
        omega)).wI rfl
      have hF4 := hK4.fix hF rfl
      have hG4 : zMG (zm_wI σ3 118 20 (nI 0)) G := hG.keep hK4 ⟨rfl, rfl, rfl⟩ fun k => ⟨rfl, rfl, rfl, rfl⟩
      have hM4 : zMT (zm_wI σ3 118 20 (nI 0)) (ztree G o) := hM3.keep ((zKeep.rf zFMN σ3).wI (a := 118) (i := 20) (v := nI 0) rfl) rfl fun k => ⟨rfl, rfl, rfl, rfl, rfl⟩
      refine m_edges hF4 hG4 hv hM4 t1 t2 (zw_same _ _ _ _) _ fun σ5 hN hK5 => ⟨σ5, rfl, hM4.keep hK5 rfl fun k => ⟨rfl, rfl, rfl, rfl, rfl⟩, hN, hK4.tr (hK5.mo fun x k q => ?_)⟩
      simp only [zFMN, zFML, Bool.or_eq_true, Bool.and_eq_true, decide_eq_true_eq, beq_iff_eq] at q ⊢
      omega
    have ho3 : o = 0 ∨ o = 1 ∨ o = 2 := by omega
    rcases ho3 with rfl | rfl | rfl
    · obtain ⟨σ3, e3, c3, hK3⟩ := m_goesBroad (lt := 0) (Or.inl rfl) hF2 hG2 hv hM2 (zTi.zero (by omega))
      simp (disch := first | assumption | omega) only [zn0, zn1, Option.bind_some, zm_ai, zm_al, zm_av, zm_opt, zm_fw, zE_l, zE_r, nI_add, pk_mul, pk_sub, pk_div, pk_rem, zrem, zpm1, zB_i0, zB_i1, zB_ok, zB_T, zB_F, nI_toInt, zT_sub, zT_neg, zT_le, zT_lt, nI_eq, zne1, zne2, zne9, ite_not, or_true, true_or, if_true, if_false, if_pos, if_neg, zw_R, zw_RL, zw_I, zF_R, zw_same, zw_cell, zw_ne, zF_at, zF_ne, zi_118, zx_118_0, zx_118_1, zx_118_2, zx_118_3, zx_118_7, zx_118_8, zx_118_9, zx_118_10, zx_118_11, zx_118_12, zx_118_13, zx_118_14, zx_118_15, zx_118_17, zx_118_18, zx_118_19, zx_118_21, zx_118_22, zx_118_24, zx_118_25, zx_118_30, zx_118_35, zx_118_36, zx_118_37, zx_118_38, zx_118_39, zx_118_41, zx_118_42, zx_118_44, zx_118_45, zx_118_46, zgI_119, zsI_119, zgI_120, zsI_120, zgI_121, zsI_121, zgI_122, zsI_122, zgI_123, zsI_123, zgI_124, zsI_124, zgI_125, zsI_125, zgI_126, zsI_126, zgI_127, zsI_127, zgI_128, zsI_128, zgI_129, zsI_129, zgI_130, zsI_130, zgI_131, zsI_131, zgI_132, zsI_132, zgI_133, zsI_133, zgI_134, zsI_134, zgI_135, zsI_135, zgI_136, zsI_136, zgI_137, zsI_137, zgI_139, zsI_139, zgI_140, zsI_140, zgI_141, zsI_141, zgI_142, zsI_142, zgI_143, zsI_143, zgI_144, zsI_144, zgI_145, zsI_145, zgI_146, zsI_146, zgI_147, zsI_147, zb_202_2, hs2, hst2, hst3, e3, not_false, not_true]
      exact fin σ3 c3 hK3
    · obtain ⟨σ3, e3, c3, hK3⟩ := m_goesBroad (lt := 1) (Or.inr rfl) hF2 hG2 hv hM2 (zTi.zero (by omega))
      simp (disch := first | assumption | omega) only [zn0, zn1, Option.bind_some, zm_ai, zm_al, zm_av, zm_opt, zm_fw, zE_l, zE_r, nI_add, pk_mul, pk_sub, pk_div, pk_rem, zrem, zpm1, zB_i0, zB_i1, zB_ok, zB_T, zB_F, nI_toInt, zT_sub, zT_neg, zT_le, zT_lt, nI_eq, zne1, zne2, zne9, ite_not, or_true, true_or, if_true, if_false, if_pos, if_neg, zw_R, zw_RL, zw_I, zF_R, zw_same, zw_cell, zw_ne, zF_at, zF_ne, zi_118, zx_118_0, zx_118_1, zx_118_2, zx_118_3, zx_118_7, zx_118_8, zx_118_9, zx_118_10, zx_118_11, zx_118_12, zx_118_13, zx_118_14, zx_118_15, zx_118_17, zx_118_18, zx_118_19, zx_118_21, zx_118_22, zx_118_24, zx_118_25, zx_118_30, zx_118_35, zx_118_36, zx_118_37, zx_118_38, zx_118_39, zx_118_41, zx_118_42, zx_118_44, zx_118_45, zx_118_46, zgI_119, zsI_119, zgI_120, zsI_120, zgI_121, zsI_121, zgI_122, zsI_122, zgI_123, zsI_123, zgI_124, zsI_124, zgI_125, zsI_125, zgI_126, zsI_126, zgI_127, zsI_127, zgI_128, zsI_128, zgI_129, zsI_129, zgI_130, zsI_130, zgI_131, zsI_131, zgI_132, zsI_132, zgI_133, zsI_133, zgI_134, zsI_134, zgI_135, zsI_135, zgI_136, zsI_136, zgI_137, zsI_137, zgI_139, zsI_139, zgI_140, zsI_140, zgI_141, zsI_141, zgI_142, zsI_142, zgI_143, zsI_143, zgI_144, zsI_144, zgI_145, zsI_145, zgI_146, zsI_146, zgI_147, zsI_147, zb_202_2, hs2, hst2, hst3, e3, not_false, not_true]
      exact fin σ3 c3 hK3
    · obtain ⟨σ3, e3, c3, hK3⟩ := m_goesDeep hF2 hG2 hk hM2
      simp (disch := first | assumption | omega) only [zn0, zn1, Option.bind_some, zm_ai, zm_al, zm_av, zm_opt, zm_fw, zE_l, zE_r, nI_add, pk_mul, pk_sub, pk_div, pk_rem, zrem, zpm1, zB_i0, zB_i1, zB_ok, zB_T, zB_F, nI_toInt, zT_sub, zT_neg, zT_le, zT_lt, nI_eq, zne1, zne2, zne9, ite_not, or_true, true_or, if_true, if_false, if_pos, if_neg, zw_R, zw_RL, zw_I, zF_R, zw_same, zw_cell, zw_ne, zF_at, zF_ne, zi_118, zx_118_0, zx_118_1, zx_118_2, zx_118_3, zx_118_7, zx_118_8, zx_118_9, zx_118_10, zx_118_11, zx_118_12, zx_118_13, zx_118_14, zx_118_15, zx_118_17, zx_118_18, zx_118_19, zx_118_21, zx_118_22, zx_118_24, zx_118_25, zx_118_30, zx_118_35, zx_118_36, zx_118_37, zx_118_38, zx_118_39, zx_118_41, zx_118_42, zx_118_44, zx_118_45, zx_118_46, zgI_119, zsI_119, zgI_120, zsI_120, zgI_121, zsI_121, zgI_122, zsI_122, zgI_123, zsI_123, zgI_124, zsI_124, zgI_125, zsI_125, zgI_126, zsI_126, zgI_127, zsI_127, zgI_128, zsI_128, zgI_129, zsI_129, zgI_130, zsI_130, zgI_131, zsI_131, zgI_132, zsI_132, zgI_133, zsI_133, zgI_134, zsI_134, zgI_135, zsI_135, zgI_136, zsI_136, zgI_137, zsI_137, zgI_139, zsI_139, zgI_140, zsI_140, zgI_141, zsI_141, zgI_142, zsI_142, zgI_143, zsI_143, zgI_144, zsI_144, zgI_145, zsI_145, zgI_146, zsI_146, zgI_147, zsI_147, zb_202_2, hs2, hst2, hst3, e3, not_false, not_true]
      exact fin σ3 c3 hK3
end ZLT
