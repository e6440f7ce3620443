/-! calls: mark -/
def zlc (G : zG) (p : Nat) : Nat → Nat
  | 0 => 0
  | x + 1 => zlc G p x + (if G.2.2.1 x p = p then 1 else 0)
theorem zlc_le (G : zG) (p : Nat) : ∀ x, zlc G p x ≤ x
  | 0 => Nat.le_refl _
  | x + 1 => by
    have := zlc_le G p x
    show zlc G p x + (if G.2.2.1 x p = p then 1 else 0) ≤ x + 1
    split <;> omega
def zlat (t : zT) (u v : Nat) : Nat := if t.2.2.2.2.2 u ≤ t.2.2.2.2.2 v then v else u
section ZMK
variable {σ σ' : zm_Sig} {a : Nat} {G : zG} {ds : List zDd} {ks : zKs} {R T : zRo} {K : zK} {t : zT}
theorem zTi.pself (hv : zGv G) (hT : zTi G t) {p : Nat} (hp : zMet t p) (h0 : p ≠ 0) {u : Nat} (hu : u < 1000) (e : t.2.2.1 p = nI u) : zpar t p = u := by
  obtain ⟨a1, a2, a3⟩ := hT.par hv hp h0
  have := hT.lt a1
  have := hv.1
  rw [a3] at e
  have := congrArg Int32.toInt e
  rw [nI_toInt (by omega), nI_toInt (by omega)] at this
  omega
theorem zTi.wlt (hv : zGv G) (hT : zTi G t) {p : Nat} (hp : zMet t p) (h0 : p ≠ 0) : t.2.2.2.2.2 (zpar t p) < t.2.2.2.2.2 p := by
  obtain ⟨k, v, k1, k2, k3, k4, k5, k6, k7⟩ := hT.2.2.2.1 p hp h0
  have := hT.lt k1
  have := hv.1
  rw [hT.pself hv hp h0 (by omega) k2]
  exact k7
theorem zkd_3 (hv : zGv G) (hT : zTi G t) (hal : ∀ p, p < G.1 → zMet t p) {p x : Nat} (hp : p < G.1) (hx : x < G.2.1) : zkd G t (G.2.1 * p + x) = 3 ↔ G.2.2.1 x p = p := by
  obtain ⟨d1, d2⟩ := zdm (k := p) hx
  have v1 := hv.1
  have no : ∀ q, q < G.1 → q ≠ 0 → ¬ t.2.2.1 q = nI q := fun q hq h0 e => by
    have h1 := hT.pself hv (hal q hq) h0 (by omega) e
    have := hT.wlt hv (hal q hq) h0
    rw [h1] at this
    omega
  constructor
  · intro h
    have hb : ¬ zbe G t (G.2.1 * p + x) := fun q => by rw [zkd_b q] at h; omega
    rw [zkd_n hb, d1] at h
    unfold zto at h
    rw [d1, d2] at h
    by_cases e : p = G.2.2.1 x p
    · exact e.symm
    · by_cases e2 : zTw t p (G.2.2.1 x p)
      · rw [zk2_4 e e2] at h; omega
      · rw [zk2_2 e e2] at h; omega
  · intro h
    have hb : ¬ zbe G t (G.2.1 * p + x) := by
      unfold zbe zbr
      rw [d1, d2, h]
      rintro (⟨q1, q2, -⟩ | ⟨q1, q2, -⟩)
      · exact no p hp q1 q2
      · exact no p hp q1 q2
    rw [zkd_n hb]
    unfold zto
    rw [d1, d2, h]
    exact zk2_3 rfl
theorem c_loopsAt (hF : zFix σ) (ha : zGo a) (hG : zCG σ a G) (hv : zGv G) (hN : zCN σ G t) (hT : zTi G t) (hal : ∀ p, p < G.1 → zMet t p) {p : Nat} (hp : p < G.1) : zM 86 [.ref 20, .ref a, .int (nI p)] zL σ = some (some (.int (nI (zlc G p G.2.1))), zL, σ) := by
  have hai := zGo_i ha
  have gg := hG.2.1
  have v2 := hv.2.1
  have v1 := hv.1
  refine zS_eq (zS_of ze_86 ?_)
  simp (disch := first | assumption | omega) only [zn0, zn1, Option.bind_some, zm_ai, zm_al, zm_av, zm_opt, zm_fw, zE_l, zE_r, nI_add, pk_mul, pk_sub, pk_div, pk_rem, zrem, zpm1, zB_i0, zB_i1, zB_ok, zB_T, zB_F, nI_toInt, zT_sub, zT_neg, zT_le, zT_lt, nI_eq, zne1, zne2, zne9, ite_not, or_true, true_or, if_true, if_false, if_pos, if_neg, zw_R, zw_RL, zw_I, zF_R, zw_same, zw_cell, zw_ne, zF_at, zF_ne, zi_0, zi_1, zi_10, zi_17, zi_19, zi_20, zi_30, zi_48, zi_50, zi_52, zi_57, zi_59, zi_80, zi_93, zi_106, zi_110, zi_114, zx_0_0, zx_0_1, zx_0_2, zx_0_3, zx_0_4, zx_0_5, zx_0_6, zx_0_7, zx_0_8, zx_0_9, zx_0_10, zx_1_0, zx_1_1, zx_2_0, zx_2_1, zx_2_2, zx_2_3, zx_2_4, zx_2_5, zx_10_0, zx_10_1, zx_11_0, zx_11_1, zx_11_2, zx_11_3, zx_17_0, zx_19_0, zx_19_1, zx_19_2, zx_20_0, zx_20_1, zx_20_3, zx_20_4, zx_20_5, zx_20_6, zx_20_7, zx_20_8, zx_20_9, zx_30_0, zx_30_1, zx_30_4, zx_30_5, zx_48_0, zx_50_0, zx_52_0, zx_52_1, zx_52_2, zx_56_0, zx_56_1, zx_56_2, zx_57_0, zx_59_0, zx_80_3, zx_80_4, zx_80_5, zx_81_0, zx_81_1, zx_81_2, zx_81_3, zx_81_4, zx_81_5, zx_88_0, zx_88_1, zx_88_2, zx_93_3, zx_93_4, zx_93_5, zx_94_0, zx_94_1, zx_94_2, zx_94_3, zx_94_4, zx_94_5, zx_101_0, zx_101_1, zx_101_2, zx_106_0, zx_106_1, zx_106_2, zx_110_0, zx_110_1, zx_110_2, zx_114_0, zx_114_1, zx_114_2, zgI_9, zsI_9, zgI_16, zsI_16, zgI_18, zsI_18, zgI_21, zsI_21, zgI_22, zsI_22, zgI_23, zsI_23, zgI_24, zsI_24, zgI_25, zsI_25, zgI_26, zsI_26, zgI_27, zsI_27, zgI_28, zsI_28, zgI_29, zsI_29, zgI_47, zsI_47, zgI_49, zsI_49, zgI_51, zsI_51, zgI_53, zsI_53, zgI_54, zsI_54, zgI_55, zsI_55, zgI_58, zsI_58, zgI_76, zsI_76, zgI_79, zsI_79, zb_86_0]
  refine zloopP (fun k => (5, [(0, .ref 20), (1, .ref a), (2, .int (nI p)), (3, .int (nI (zlc G p k))), (4, .int (nI k))], [], zL, σ, 0, 0)) (fun _ => True) G.2.1 (fun k hk _ ih => ?_) (fun _ => ?_) trivial
  · have ih := ih trivial
    have he := zgk hp hk
    have h15 := zng hv
    have n1 := (hN.2 _ he).1
    have e1 := c_edgeOf ha hG p k
    have hl := zkd_le G t (G.2.1 * p + k)
    have hlc : zlc G p (k + 1) = zlc G p k + (if G.2.2.1 k p = p then 1 else 0) := rfl
    have h3 := zkd_3 hv hT hal hp hk
    rw [hlc] at ih
    refine zW_of zg_86_5 ?_
    by_cases q : G.2.2.1 k p = p
    · rw [if_pos q] at ih
      rw [h3.mpr q] at n1
      simp (disch := first | assumption | omega) only [zn0, zn1, Option.bind_some, zm_ai, zm_al, zm_av, zm_opt, zm_fw, zE_l, zE_r, nI_add, pk_mul, pk_sub, pk_div, pk_rem, zrem, zpm1, zB_i0, zB_i1, zB_ok, zB_T, zB_F, nI_toInt, zT_sub, zT_neg, zT_le, zT_lt, nI_eq, zne1, zne2, zne9, ite_not, or_true, true_or, if_true, if_false, if_pos, if_neg, zw_R, zw_RL, zw_I, zF_R, zw_same, zw_cell, zw_ne, zF_at, zF_ne, zi_0, zi_1, zi_10, zi_17, zi_19, zi_20, zi_30, zi_48, zi_50, zi_52, zi_57, zi_59, zi_80, zi_93, zi_106, zi_110, zi_114, zx_0_0, zx_0_1, zx_0_2, zx_0_3, zx_0_4, zx_0_5, zx_0_6, zx_0_7, zx_0_8, zx_0_9, zx_0_10, zx_1_0, zx_1_1, zx_2_0, zx_2_1, zx_2_2, zx_2_3, zx_2_4, zx_2_5, zx_10_0, zx_10_1, zx_11_0, zx_11_1, zx_11_2, zx_11_3, zx_17_0, zx_19_0, zx_19_1, zx_19_2, zx_20_0, zx_20_1, zx_20_3, zx_20_4, zx_20_5, zx_20_6, zx_20_7, zx_20_8, zx_20_9, zx_30_0, zx_30_1, zx_30_4, zx_30_5, zx_48_0, zx_50_0, zx_52_0, zx_52_1, zx_52_2, zx_56_0, zx_56_1, zx_56_2, zx_57_0, zx_59_0, zx_80_3, zx_80_4, zx_80_5, zx_81_0, zx_81_1, zx_81_2, zx_81_3, zx_81_4, zx_81_5, zx_88_0, zx_88_1, zx_88_2, zx_93_3, zx_93_4, zx_93_5, zx_94_0, zx_94_1, zx_94_2, zx_94_3, zx_94_4, zx_94_5, zx_101_0, zx_101_1, zx_101_2, zx_106_0, zx_106_1, zx_106_2, zx_110_0, zx_110_1, zx_110_2, zx_114_0, zx_114_1, zx_114_2, zgI_9, zsI_9, zgI_16, zsI_16, zgI_18, zsI_18, zgI_21, zsI_21, zgI_22, zsI_22, zgI_23, zsI_23, zgI_24, zsI_24, zgI_25, zsI_25, zgI_26, zsI_26, zgI_27, zsI_27, zgI_28, zsI_28, zgI_29, zsI_29, zgI_47, zsI_47, zgI_49, zsI_49, zgI_51, zsI_51, zgI_53, zsI_53, zgI_54, zsI_54, zgI_55, zsI_55, zgI_58, zsI_58, zgI_76, zsI_76, zgI_79, zsI_79, zb_86_5, hai, gg, e1, n1, not_true]
      exact ih
    · rw [if_neg q] at ih
      have q2 : ¬ zkd G t (G.2.1 * p + k) = 3 := fun z => q (h3.mp z)
      simp (disch := first | assumption | omega) only [zn0, zn1, Option.bind_some, zm_ai, zm_al, zm_av, zm_opt, zm_fw, zE_l, zE_r, nI_add, pk_mul, pk_sub, pk_div, pk_rem, zrem, zpm1, zB_i0, zB_i1, zB_ok, zB_T, zB_F, nI_toInt, zT_sub, zT_neg, zT_le, zT_lt, nI_eq, zne1, zne2, zne9, ite_not, or_true, true_or, if_true, if_false, if_pos, if_neg, zw_R, zw_RL, zw_I, zF_R, zw_same, zw_cell, zw_ne, zF_at, zF_ne, zi_0, zi_1, zi_10, zi_17, zi_19, zi_20, zi_30, zi_48, zi_50, zi_52, zi_57, zi_59, zi_80, zi_93, zi_106, zi_110, zi_114, zx_0_0, zx_0_1, zx_0_2, zx_0_3, zx_0_4, zx_0_5, zx_0_6, zx_0_7, zx_0_8, zx_0_9, zx_0_10, zx_1_0, zx_1_1, zx_2_0, zx_2_1, zx_2_2, zx_2_3, zx_2_4, zx_2_5, zx_10_0, zx_10_1, zx_11_0, zx_11_1, zx_11_2, zx_11_3, zx_17_0, zx_19_0, zx_19_1, zx_19_2, zx_20_0, zx_20_1, zx_20_3, zx_20_4, zx_20_5, zx_20_6, zx_20_7, zx_20_8, zx_20_9, zx_30_0, zx_30_1, zx_30_4, zx_30_5, zx_48_0, zx_50_0, zx_52_0, zx_52_1, zx_52_2, zx_56_0, zx_56_1, zx_56_2, zx_57_0, zx_59_0, zx_80_3, zx_80_4, zx_80_5, zx_81_0, zx_81_1, zx_81_2, zx_81_3, zx_81_4, zx_81_5, zx_88_0, zx_88_1, zx_88_2, zx_93_3, zx_93_4, zx_93_5, zx_94_0, zx_94_1, zx_94_2, zx_94_3, zx_94_4, zx_94_5, zx_101_0, zx_101_1, zx_101_2, zx_106_0, zx_106_1, zx_106_2, zx_110_0, zx_110_1, zx_110_2, zx_114_0, zx_114_1, zx_114_2, zgI_9, zsI_9, zgI_16, zsI_16, zgI_18, zsI_18, zgI_21, zsI_21, zgI_22, zsI_22, zgI_23, zsI_23, zgI_24, zsI_24, zgI_25, zsI_25, zgI_26, zsI_26, zgI_27, zsI_27, zgI_28, zsI_28, zgI_29, zsI_29, zgI_47, zsI_47, zgI_49, zsI_49, zgI_51, zsI_51, zgI_53, zsI_53, zgI_54, zsI_54, zgI_55, zsI_55, zgI_58, zsI_58, zgI_76, zsI_76, zgI_79, zsI_79, zb_86_5, hai, gg, e1, n1, not_false]
      exact ih
  · refine zW_of zg_86_5 ?_
    simp (disch := first | assumption | omega) only [zn0, zn1, Option.bind_some, zm_ai, zm_al, zm_av, zm_opt, zm_fw, zE_l, zE_r, nI_add, pk_mul, pk_sub, pk_div, pk_rem, zrem, zpm1, zB_i0, zB_i1, zB_ok, zB_T, zB_F, nI_toInt, zT_sub, zT_neg, zT_le, zT_lt, nI_eq, zne1, zne2, zne9, ite_not, or_true, true_or, if_true, if_false, if_pos, if_neg, zw_R, zw_RL, zw_I, zF_R, zw_same, zw_cell, zw_ne, zF_at, zF_ne, zi_0, zi_1, zi_10, zi_17, zi_19, zi_20, zi_30, zi_48, zi_50, zi_52, zi_57, zi_59, zi_80, zi_93, zi_106, zi_110, zi_114, zx_0_0, zx_0_1, zx_0_2, zx_0_3, zx_0_4, zx_0_5, zx_0_6, zx_0_7, zx_0_8, zx_0_9, zx_0_10, zx_1_0, zx_1_1, zx_2_0, zx_2_1, zx_2_2, zx_2_3, zx_2_4, zx_2_5, zx_10_0, zx_10_1, zx_11_0, zx_11_1, zx_11_2, zx_11_3, zx_17_0, zx_19_0, zx_19_1, zx_19_2, zx_20_0, zx_20_1, zx_20_3, zx_20_4, zx_20_5, zx_20_6, zx_20_7, zx_20_8, zx_20_9, zx_30_0, zx_30_1, zx_30_4, zx_30_5, zx_48_0, zx_50_0, zx_52_0, zx_52_1, zx_52_2, zx_56_0, zx_56_1, zx_56_2, zx_57_0, zx_59_0, zx_80_3, zx_80_4, zx_80_5, zx_81_0, zx_81_1, zx_81_2, zx_81_3, zx_81_4, zx_81_5, zx_88_0, zx_88_1, zx_88_2, zx_93_3, zx_93_4, zx_93_5, zx_94_0, zx_94_1, zx_94_2, zx_94_3, zx_94_4, zx_94_5, zx_101_0, zx_101_1, zx_101_2, zx_106_0, zx_106_1, zx_106_2, zx_110_0, zx_110_1, zx_110_2, zx_114_0, zx_114_1, zx_114_2, zgI_9, zsI_9, zgI_16, zsI_16, zgI_18, zsI_18, zgI_21, zsI_21, zgI_22, zsI_22, zgI_23, zsI_23, zgI_24, zsI_24, zgI_25, zsI_25, zgI_26, zsI_26, zgI_27, zsI_27, zgI_28, zsI_28, zgI_29, zsI_29, zgI_47, zsI_47, zgI_49, zsI_49, zgI_51, zsI_51, zgI_53, zsI_53, zgI_54, zsI_54, zgI_55, zsI_55, zgI_58, zsI_58, zgI_76, zsI_76, zgI_79, zsI_79, zb_86_5, hai, gg]
theorem m_loopsAt (hF : zFix σ) (hG : zMG σ G) (hv : zGv G) {p : Nat} (hp : p < G.1) : zM 227 [.ref 118, .int (nI p)] zL σ = some (some (.int (nI (zlc G p G.2.1))), zL, σ) := by
  have gg := hG.2.1
  have v2 := hv.2.1
  have v1 := hv.1
  refine zS_eq (zS_of ze_227 ?_)
  simp (disch := first | assumption | omega) only [zn0, zn1, Option.bind_some, zm_ai, zm_al, zm_av, zm_opt, zm_fw, zE_l, zE_r, nI_add, pk_mul, pk_sub, pk_div, pk_rem, zrem, zpm1, zB_i0, zB_i1, zB_ok, zB_T, zB_F, nI_toInt, zT_sub, zT_neg, zT_le, zT_lt, nI_eq, zne1, zne2, zne9, ite_not, or_true, true_or, if_true, if_false, if_pos, if_neg, zw_R, zw_RL, zw_I, zF_R, zw_same, zw_cell, zw_ne, zF_at, zF_ne, zi_118, zx_118_0, zx_118_1, zx_118_2, zx_118_3, zx_118_7, zx_118_8, zx_118_9, zx_118_10, zx_118_11, zx_118_12, zx_118_13, zx_118_14, zx_118_15, zx_118_17, zx_118_18, zx_118_19, zx_118_21, zx_118_22, zx_118_24, zx_118_25, zx_118_30, zx_118_35, zx_118_36, zx_118_37, zx_118_38, zx_118_39, zx_118_41, zx_118_42, zx_118_44, zx_118_45, zx_118_46, zgI_119, zsI_119, zgI_120, zsI_120, zgI_121, zsI_121, zgI_122, zsI_122, zgI_123, zsI_123, zgI_124, zsI_124, zgI_125, zsI_125, zgI_126, zsI_126, zgI_127, zsI_127, zgI_128, zsI_128, zgI_129, zsI_129, zgI_130, zsI_130, zgI_131, zsI_131, zgI_132, zsI_132, zgI_133, zsI_133, zgI_134, zsI_134, zgI_135, zsI_135, zgI_136, zsI_136, zgI_137, zsI_137, zgI_139, zsI_139, zgI_140, zsI_140, zgI_141, zsI_141, zgI_142, zsI_142, zgI_143, zsI_143, zgI_144, zsI_144, zgI_145, zsI_145, zgI_146, zsI_146, zgI_147, zsI_147, zb_227_0]
  refine zloopP (fun k => (4, [(0, .ref 118), (1, .int (nI p)), (2, .int (nI (zlc G p k))), (3, .int (nI k))], [], zL, σ, 0, 0)) (fun _ => True) G.2.1 (fun k hk _ ih => ?_) (fun _ => ?_) trivial
  · have ih := ih trivial
    have t1 := (hG.2.2.2.1 k p hk hp).1
    have hlc : zlc G p (k + 1) = zlc G p k + (if G.2.2.1 k p = p then 1 else 0) := rfl
    have hlt := (hv.2.2.2.1 k p hk hp).1
    rw [hlc] at ih
    refine zW_of zg_227_4 ?_
    by_cases q : G.2.2.1 k p = p
    · rw [if_pos q] at ih
      rw [q] at t1
      simp (disch := first | assumption | omega) only [zn0, zn1, Option.bind_some, zm_ai, zm_al, zm_av, zm_opt, zm_fw, zE_l, zE_r, nI_add, pk_mul, pk_sub, pk_div, pk_rem, zrem, zpm1, zB_i0, zB_i1, zB_ok, zB_T, zB_F, nI_toInt, zT_sub, zT_neg, zT_le, zT_lt, nI_eq, zne1, zne2, zne9, ite_not, or_true, true_or, if_true, if_false, if_pos, if_neg, zw_R, zw_RL, zw_I, zF_R, zw_same, zw_cell, zw_ne, zF_at, zF_ne, zi_118, zx_118_0, zx_118_1, zx_118_2, zx_118_3, zx_118_7, zx_118_8, zx_118_9, zx_118_10, zx_118_11, zx_118_12, zx_118_13, zx_118_14, zx_118_15, zx_118_17, zx_118_18, zx_118_19, zx_118_21, zx_118_22, zx_118_24, zx_118_25, zx_118_30, zx_118_35, zx_118_36, zx_118_37, zx_118_38, zx_118_39, zx_118_41, zx_118_42, zx_118_44, zx_118_45, zx_118_46, zgI_119, zsI_119, zgI_120, zsI_120, zgI_121, zsI_121, zgI_122, zsI_122, zgI_123, zsI_123, zgI_124, zsI_124, zgI_125, zsI_125, zgI_126, zsI_126, zgI_127, zsI_127, zgI_128, zsI_128, zgI_129, zsI_129, zgI_130, zsI_130, zgI_131, zsI_131, zgI_132, zsI_132, zgI_133, zsI_133, zgI_134, zsI_134, zgI_135, zsI_135, zgI_136, zsI_136, zgI_137, zsI_137, zgI_139, zsI_139, zgI_140, zsI_140, zgI_141, zsI_141, zgI_142, zsI_142, zgI_143, zsI_143, zgI_144, zsI_144, zgI_145, zsI_145, zgI_146, zsI_146, zgI_147, zsI_147, zb_227_4, gg, t1, not_true]
      exact ih
    · rw [if_neg q] at ih
      simp (disch := first | assumption | omega) only [zn0, zn1, Option.bind_some, zm_ai, zm_al, zm_av, zm_opt, zm_fw, zE_l, zE_r, nI_add, pk_mul, pk_sub, pk_div, pk_rem, zrem, zpm1, zB_i0, zB_i1, zB_ok, zB_T, zB_F, nI_toInt, zT_sub, zT_neg, zT_le, zT_lt, nI_eq, zne1, zne2, zne9, ite_not, or_true, true_or, if_true, if_false, if_pos, if_neg, zw_R, zw_RL, zw_I, zF_R, zw_same, zw_cell, zw_ne, zF_at, zF_ne, zi_118, zx_118_0, zx_118_1, zx_118_2, zx_118_3, zx_118_7, zx_118_8, zx_118_9, zx_118_10, zx_118_11, zx_118_12, zx_118_13, zx_118_14, zx_118_15, zx_118_17, zx_118_18, zx_118_19, zx_118_21, zx_118_22, zx_118_24, zx_118_25, zx_118_30, zx_118_35, zx_118_36, zx_118_37, zx_118_38, zx_118_39, zx_118_41, zx_118_42, zx_118_44, zx_118_45, zx_118_46, zgI_119, zsI_119, zgI_120, zsI_120, zgI_121, zsI_121, zgI_122, zsI_122, zgI_123, zsI_123, zgI_124, zsI_124, zgI_125, zsI_125, zgI_126, zsI_126, zgI_127, zsI_127, zgI_128, zsI_128, zgI_129, zsI_129, zgI_130, zsI_130, zgI_131, zsI_131, zgI_132, zsI_132, zgI_133, zsI_133, zgI_134, zsI_134, zgI_135, zsI_135, zgI_136, zsI_136, zgI_137, zsI_137, zgI_139, zsI_139, zgI_140, zsI_140, zgI_141, zsI_141, zgI_142, zsI_142, zgI_143, zsI_143, zgI_144, zsI_144, zgI_145, zsI_145, zgI_146, zsI_146, zgI_147, zsI_147, zb_227_4, gg, t1, not_false]
      exact ih
  · refine zW_of zg_227_4 ?_
    simp (disch := first | assumption | omega) only [zn0, zn1, Option.bind_some, zm_ai, zm_al, zm_av, zm_opt, zm_fw, zE_l, zE_r, nI_add, pk_mul, pk_sub, pk_div, pk_rem, zrem, zpm1, zB_i0, zB_i1, zB_ok, zB_T, zB_F, nI_toInt, zT_sub, zT_neg, zT_le, zT_lt, nI_eq, zne1, zne2, zne9, ite_not, or_true, true_or, if_true, if_false, if_pos, if_neg, zw_R, zw_RL, zw_I, zF_R, zw_same, zw_cell, zw_ne, zF_at, zF_ne, zi_118, zx_118_0, zx_118_1, zx_118_2, zx_118_3, zx_118_7, zx_118_8, zx_118_9, zx_118_10, zx_118_11, zx_118_12, zx_118_13, zx_118_14, zx_118_15, zx_118_17, zx_118_18, zx_118_19, zx_118_21, zx_118_22, zx_118_24, zx_118_25, zx_118_30, zx_118_35, zx_118_36, zx_118_37, zx_118_38, zx_118_39, zx_118_41, zx_118_42, zx_118_44, zx_118_45, zx_118_46, zgI_119, zsI_119, zgI_120, zsI_120, zgI_121, zsI_121, zgI_122, zsI_122, zgI_123, zsI_123, zgI_124, zsI_124, zgI_125, zsI_125, zgI_126, zsI_126, zgI_127, zsI_127, zgI_128, zsI_128, zgI_129, zsI_129, zgI_130, zsI_130, zgI_131, zsI_131, zgI_132, zsI_132, zgI_133, zsI_133, zgI_134, zsI_134, zgI_135, zsI_135, zgI_136, zsI_136, zgI_137, zsI_137, zgI_139, zsI_139, zgI_140, zsI_140, zgI_141, zsI_141, zgI_142, zsI_142, zgI_143, zsI_143, zgI_144, zsI_144, zgI_145, zsI_145, zgI_146, zsI_146, zgI_147, zsI_147, zb_227_4, gg]
/-- the branch beside a twin -/
def zPb (G : zG) (t : zT) (u v e : Nat) : Prop := zbe G t e ∧ ((u = e / G.2.1 ∧ v = zto G e) ∨ (u = zto G e ∧ v = e / G.2.1))
theorem zbo_ends (hv : zGv G) (hT : zTi G t) {p : Nat} (hp : zMet t p) (h0 : p ≠ 0) : (zbo G t p / G.2.1 = zpar t p ∧ zto G (zbo G t p) = p) ∨ (zbo G t p / G.2.1 = p ∧ zto G (zbo G t p) = zpar t p) := by
  obtain ⟨k, x, hk, hx, e1, e2, ⟨e3, e4, e5⟩ | ⟨e3, e4, e5⟩⟩ := zby hv hT hp h0
  · left
    obtain ⟨d1, d2⟩ := zdm (k := k) hx
    unfold zto
    rw [e5, d1, d2, e1]
    exact ⟨rfl, e4⟩
  · right
    obtain ⟨d1, d2⟩ := zdm (k := p) hx
    unfold zto
    rw [e5, d1, d2, e1]
    exact ⟨rfl, e4⟩
theorem zPb_iff (hv : zGv G) (hT : zTi G t) (hal : ∀ p, p < G.1 → zMet t p) {c : Nat} (hc : c < G.1) (h0 : c ≠ 0) {u v : Nat} (huv : (u = c ∧ v = zpar t c) ∨ (u = zpar t c ∧ v = c)) {e : Nat} (he : e < G.1 * G.2.1) : zPb G t u v e ↔ e = zbo G t c := by
  have hm := hal c hc
  constructor
  · rintro ⟨hb, h⟩
    obtain ⟨p, p1, p2, p3⟩ := zbo_of hv hT hal he hb
    have hpm := hal p p1
    by_cases q : p = c
    · rw [← p3, q]
    · exfalso
      have e1 := zbo_ends hv hT hpm p2
      rw [p3] at e1
      have w1 := hT.wlt hv hpm p2
      have w2 := hT.wlt hv hm h0
      have : p = zpar t c ∧ zpar t p = c := by omega
      rw [this.2] at w1
      rw [← this.1] at w2
      omega
  · rintro rfl
    refine ⟨(zbo_ok hv hT hm h0).2, ?_⟩
    have e1 := zbo_ends hv hT hm h0
    omega
theorem zfEq {a b : Nat} (h : a = b) : (nI a = nI b) = True := eq_true (by rw [h])
theorem m_branchBeside (hF : zFix σ) (hG : zMG σ G) (hv : zGv G) (hN : zMN σ G t) (hT : zTi G t) (hal : ∀ p, p < G.1 → zMet t p) {e c : Nat} (he : e < G.1 * G.2.1) (hc : c < G.1) (h0 : c ≠ 0) (huv : (e / G.2.1 = c ∧ zto G e = zpar t c) ∨ (e / G.2.1 = zpar t c ∧ zto G e = c)) : zM 228 [.ref 118, .int (nI e)] zL σ = some (some (.int (nI (zbo G t c))), zL, σ) := by
  have v1 := hv.1
  have v2 := hv.2.1
  have h15 := zng hv
  obtain ⟨a1, a2, a3⟩ := zedge he
  have gg := hG.2.1
  have gp := hG.1
  have e1 := m_endOf hF hG hv he
  have hbo := (zbo_ok hv hT (hal c hc) h0).1
  have hzt := zto_lt hv he
  have e1 : zM 224 [.ref 118, .int (nI e)] zL σ = some (some (.int (nI (zto G e))), zL, σ) := e1
  refine zS_eq (zS_of ze_228 ?_)
  have hdv : nI e / nI G.2.1 = nI (e / G.2.1) := pk_div (by omega) (by omega) (by omega)
  have hn0 : (nI G.2.1 = nI 0) = False := zd_eqF (by omega) (by omega) (by omega)
  simp only [zb_228_0, zn0, zn1, zi_118, Option.bind_some, gg, hn0, if_false, e1, zm_ai, gp, hdv, pk_mul, zE_l]
  have key : ∀ d, d ≤ G.1 * G.2.1 → zW 228 (29, [(0, .ref 118), (2, .int (nI (e / G.2.1))), (3, .int (nI (zto G e))), (4, .int (nI (if d ≤ zbo G t c then zbo G t c else 0))), (5, .int (nI d - nI 1))], [], zL, σ, 0, 0) (fun q => q = (some (.int (nI (zbo G t c))), zL, σ)) := by
    intro d
    induction d with
    | zero =>
      intro _
      rw [if_pos (Nat.zero_le _)]
      refine zW_of zg_228_29 ?_
      simp (disch := first | assumption | omega) only [zn0, zn1, Option.bind_some, zm_ai, zm_al, zm_av, zm_opt, zm_fw, zE_l, zE_r, nI_add, pk_mul, pk_sub, pk_div, pk_rem, zrem, zpm1, zB_i0, zB_i1, zB_ok, zB_T, zB_F, nI_toInt, zT_sub, zT_neg, zT_le, zT_lt, nI_eq, zne1, zne2, zne9, ite_not, or_true, true_or, if_true, if_false, if_pos, if_neg, zw_R, zw_RL, zw_I, zF_R, zw_same, zw_cell, zw_ne, zF_at, zF_ne, zi_118, zx_118_0, zx_118_1, zx_118_2, zx_118_3, zx_118_7, zx_118_8, zx_118_9, zx_118_10, zx_118_11, zx_118_12, zx_118_13, zx_118_14, zx_118_15, zx_118_17, zx_118_18, zx_118_19, zx_118_21, zx_118_22, zx_118_24, zx_118_25, zx_118_30, zx_118_35, zx_118_36, zx_118_37, zx_118_38, zx_118_39, zx_118_41, zx_118_42, zx_118_44, zx_118_45, zx_118_46, zgI_119, zsI_119, zgI_120, zsI_120, zgI_121, zsI_121, zgI_122, zsI_122, zgI_123, zsI_123, zgI_124, zsI_124, zgI_125, zsI_125, zgI_126, zsI_126, zgI_127, zsI_127, zgI_128, zsI_128, zgI_129, zsI_129, zgI_130, zsI_130, zgI_131, zsI_131, zgI_132, zsI_132, zgI_133, zsI_133, zgI_134, zsI_134, zgI_135, zsI_135, zgI_136, zsI_136, zgI_137, zsI_137, zgI_139, zsI_139, zgI_140, zsI_140, zgI_141, zsI_141, zgI_142, zsI_142, zgI_143, zsI_143, zgI_144, zsI_144, zgI_145, zsI_145, zgI_146, zsI_146, zgI_147, zsI_147, zb_228_29]
    | succ d ih =>
      intro hd
      have ih := ih (by omega)
      have hdl : d < G.1 * G.2.1 := by omega
      have es : nI (d + 1) - nI 1 = nI d := pk_sub (by omega)
      have hdd : nI d / nI G.2.1 = nI (d / G.2.1) := pk_div (by omega) (by omega) (by omega)
      have e2 : zM 224 [.ref 118, .int (nI d)] zL σ = some (some (.int (nI (zto G d))), zL, σ) := m_endOf hF hG hv hdl
      have n1 := (hN.2 d hdl).1
      have hzd := zto_lt hv hdl
      have hdg := (zedge hdl).2.1
      have hlt0 : (nI d < nI 0) = False := zd_ltF (by omega) (by omega)
      have hiff := zPb_iff hv hT hal hc h0 huv hdl
      have yes : zPb G t (e / G.2.1) (zto G e) d → (if d ≤ zbo G t c then zbo G t c else 0) = d := fun q => by
        have := hiff.mp q
        rw [if_pos (by omega)]
        omega
      have no : ¬ zPb G t (e / G.2.1) (zto G e) d → (if d ≤ zbo G t c then zbo G t c else 0) = (if d + 1 ≤ zbo G t c then zbo G t c else 0) := fun q => by
        have : ¬ d = zbo G t c := fun z => q (hiff.mpr z)
        by_cases z : d + 1 ≤ zbo G t c
        · rw [if_pos z, if_pos (by omega)]
        · rw [if_neg z, if_neg (by omega)]
      have hk1 : zkd G t d = 1 ↔ zbe G t d := zkd_1
      have hkl := zkd_le G t d
      have h5 := zsn1 d
      refine zW_of zg_228_29 ?_
      rw [es]
      generalize hU : e / G.2.1 = U at *
      generalize hW : zto G e = W at *
      generalize hX : d / G.2.1 = X at *
      generalize hY : zto G d = Y at *
      have n1t : zbe G t d → (nI (zkd G t d) = nI 1) = True := fun q => zfEq (hk1.mpr q)
      have n1f : ¬ zbe G t d → (nI (zkd G t d) = nI 1) = False := fun q => zd_eqF (fun z => q (hk1.mp z)) (by omega) (by omega)
      unfold zPb at yes no
      rw [hX, hY] at yes no
      by_cases hbr : zbe G t d
      · have nb := n1t hbr
        by_cases hA : U = X
        · have fA : (nI U = nI X) = True := zfEq hA
          by_cases hB : W = Y
          · have fB : (nI W = nI Y) = True := zfEq hB
            rw [yes ⟨hbr, Or.inl ⟨hA, hB⟩⟩] at ih
            simp (maxSteps := 500000) (disch := first | assumption | omega) only [zn0, zn1, Option.bind_some, zm_ai, zm_al, zm_av, zm_opt, zm_fw, zE_l, zE_r, nI_add, pk_mul, pk_sub, pk_div, pk_rem, zrem, zpm1, zB_i0, zB_i1, zB_ok, zB_T, zB_F, nI_toInt, zT_sub, zT_neg, if_true, if_false, zw_R, zw_RL, zw_I, zF_R, zw_same, zw_cell, zw_ne, zF_at, zF_ne, ↓reduceIte, zd_leT, zd_leF, zd_ltT, zd_ltF, zd_eqF, zd_n1, zd_n2, eq_self, not_true_eq_false, not_false_eq_true, zi_118, zx_118_0, zx_118_1, zx_118_2, zx_118_3, zx_118_7, zx_118_8, zx_118_9, zx_118_10, zx_118_11, zx_118_12, zx_118_13, zx_118_14, zx_118_15, zx_118_17, zx_118_18, zx_118_19, zx_118_21, zx_118_22, zx_118_24, zx_118_25, zx_118_30, zx_118_35, zx_118_36, zx_118_37, zx_118_38, zx_118_39, zx_118_41, zx_118_42, zx_118_44, zx_118_45, zx_118_46, zgI_119, zsI_119, zgI_120, zsI_120, zgI_121, zsI_121, zgI_122, zsI_122, zgI_123, zsI_123, zgI_124, zsI_124, zgI_125, zsI_125, zgI_126, zsI_126, zgI_127, zsI_127, zgI_128, zsI_128, zgI_129, zsI_129, zgI_130, zsI_130, zgI_131, zsI_131, zgI_132, zsI_132, zgI_133, zsI_133, zgI_134, zsI_134, zgI_135, zsI_135, zgI_136, zsI_136, zgI_137, zsI_137, zgI_139, zsI_139, zgI_140, zsI_140, zgI_141, zsI_141, zgI_142, zsI_142, zgI_143, zsI_143, zgI_144, zsI_144, zgI_145, zsI_145, zgI_146, zsI_146, zgI_147, zsI_147, zb_228_29, hlt0, gg, hn0, hdd, e2, fA, fB, n1, nb, h5]
            exact ih
          · have fB : (nI W = nI Y) = False := zd_eqF hB (by omega) (by omega)
            by_cases hC : U = Y
            · have fC : (nI U = nI Y) = True := zfEq hC
              by_cases hD : W = X
              · have fD : (nI W = nI X) = True := zfEq hD
                rw [yes ⟨hbr, Or.inr ⟨hC, hD⟩⟩] at ih
                simp (maxSteps := 500000) (disch := first | assumption | omega) only [zn0, zn1, Option.bind_some, zm_ai, zm_al, zm_av, zm_opt, zm_fw, zE_l, zE_r, nI_add, pk_mul, pk_sub, pk_div, pk_rem, zrem, zpm1, zB_i0, zB_i1, zB_ok, zB_T, zB_F, nI_toInt, zT_sub, zT_neg, if_true, if_false, zw_R, zw_RL, zw_I, zF_R, zw_same, zw_cell, zw_ne, zF_at, zF_ne, ↓reduceIte, zd_leT, zd_leF, zd_ltT, zd_ltF, zd_eqF, zd_n1, zd_n2, eq_self, not_true_eq_false, not_false_eq_true, zi_118, zx_118_0, zx_118_1, zx_118_2, zx_118_3, zx_118_7, zx_118_8, zx_118_9, zx_118_10, zx_118_11, zx_118_12, zx_118_13, zx_118_14, zx_118_15, zx_118_17, zx_118_18, zx_118_19, zx_118_21, zx_118_22, zx_118_24, zx_118_25, zx_118_30, zx_118_35, zx_118_36, zx_118_37, zx_118_38, zx_118_39, zx_118_41, zx_118_42, zx_118_44, zx_118_45, zx_118_46, zgI_119, zsI_119, zgI_120, zsI_120, zgI_121, zsI_121, zgI_122, zsI_122, zgI_123, zsI_123, zgI_124, zsI_124, zgI_125, zsI_125, zgI_126, zsI_126, zgI_127, zsI_127, zgI_128, zsI_128, zgI_129, zsI_129, zgI_130, zsI_130, zgI_131, zsI_131, zgI_132, zsI_132, zgI_133, zsI_133, zgI_134, zsI_134, zgI_135, zsI_135, zgI_136, zsI_136, zgI_137, zsI_137, zgI_139, zsI_139, zgI_140, zsI_140, zgI_141, zsI_141, zgI_142, zsI_142, zgI_143, zsI_143, zgI_144, zsI_144, zgI_145, zsI_145, zgI_146, zsI_146, zgI_147, zsI_147, zb_228_29, hlt0, gg, hn0, hdd, e2, fA, fB, fC, fD, n1, nb, h5]
                exact ih
              · have fD : (nI W = nI X) = False := zd_eqF hD (by omega) (by omega)
                rw [no (by rintro ⟨-, ⟨q1, q2⟩ | ⟨q1, q2⟩⟩; exact hB q2; exact hD q2)] at ih
                simp (maxSteps := 500000) (disch := first | assumption | omega) only [zn0, zn1, Option.bind_some, zm_ai, zm_al, zm_av, zm_opt, zm_fw, zE_l, zE_r, nI_add, pk_mul, pk_sub, pk_div, pk_rem, zrem, zpm1, zB_i0, zB_i1, zB_ok, zB_T, zB_F, nI_toInt, zT_sub, zT_neg, if_true, if_false, zw_R, zw_RL, zw_I, zF_R, zw_same, zw_cell, zw_ne, zF_at, zF_ne, ↓reduceIte, zd_leT, zd_leF, zd_ltT, zd_ltF, zd_eqF, zd_n1, zd_n2, eq_self, not_true_eq_false, not_false_eq_true, zi_118, zx_118_0, zx_118_1, zx_118_2, zx_118_3, zx_118_7, zx_118_8, zx_118_9, zx_118_10, zx_118_11, zx_118_12, zx_118_13, zx_118_14, zx_118_15, zx_118_17, zx_118_18, zx_118_19, zx_118_21, zx_118_22, zx_118_24, zx_118_25, zx_118_30, zx_118_35, zx_118_36, zx_118_37, zx_118_38, zx_118_39, zx_118_41, zx_118_42, zx_118_44, zx_118_45, zx_118_46, zgI_119, zsI_119, zgI_120, zsI_120, zgI_121, zsI_121, zgI_122, zsI_122, zgI_123, zsI_123, zgI_124, zsI_124, zgI_125, zsI_125, zgI_126, zsI_126, zgI_127, zsI_127, zgI_128, zsI_128, zgI_129, zsI_129, zgI_130, zsI_130, zgI_131, zsI_131, zgI_132, zsI_132, zgI_133, zsI_133, zgI_134, zsI_134, zgI_135, zsI_135, zgI_136, zsI_136, zgI_137, zsI_137, zgI_139, zsI_139, zgI_140, zsI_140, zgI_141, zsI_141, zgI_142, zsI_142, zgI_143, zsI_143, zgI_144, zsI_144, zgI_145, zsI_145, zgI_146, zsI_146, zgI_147, zsI_147, zb_228_29, hlt0, gg, hn0, hdd, e2, fA, fB, fC, fD, n1, nb, h5]
                exact ih
            · have fC : (nI U = nI Y) = False := zd_eqF hC (by omega) (by omega)
              rw [no (by rintro ⟨-, ⟨q1, q2⟩ | ⟨q1, q2⟩⟩; exact hB q2; exact hC q1)] at ih
              simp (maxSteps := 500000) (disch := first | assumption | omega) only [zn0, zn1, Option.bind_some, zm_ai, zm_al, zm_av, zm_opt, zm_fw, zE_l, zE_r, nI_add, pk_mul, pk_sub, pk_div, pk_rem, zrem, zpm1, zB_i0, zB_i1, zB_ok, zB_T, zB_F, nI_toInt, zT_sub, zT_neg, if_true, if_false, zw_R, zw_RL, zw_I, zF_R, zw_same, zw_cell, zw_ne, zF_at, zF_ne, ↓reduceIte, zd_leT, zd_leF, zd_ltT, zd_ltF, zd_eqF, zd_n1, zd_n2, eq_self, not_true_eq_false, not_false_eq_true, zi_118, zx_118_0, zx_118_1, zx_118_2, zx_118_3, zx_118_7, zx_118_8, zx_118_9, zx_118_10, zx_118_11, zx_118_12, zx_118_13, zx_118_14, zx_118_15, zx_118_17, zx_118_18, zx_118_19, zx_118_21, zx_118_22, zx_118_24, zx_118_25, zx_118_30, zx_118_35, zx_118_36, zx_118_37, zx_118_38, zx_118_39, zx_118_41, zx_118_42, zx_118_44, zx_118_45, zx_118_46, zgI_119, zsI_119, zgI_120, zsI_120, zgI_121, zsI_121, zgI_122, zsI_122, zgI_123, zsI_123, zgI_124, zsI_124, zgI_125, zsI_125, zgI_126, zsI_126, zgI_127, zsI_127, zgI_128, zsI_128, zgI_129, zsI_129, zgI_130, zsI_130, zgI_131, zsI_131, zgI_132, zsI_132, zgI_133, zsI_133, zgI_134, zsI_134, zgI_135, zsI_135, zgI_136, zsI_136, zgI_137, zsI_137, zgI_139, zsI_139, zgI_140, zsI_140, zgI_141, zsI_141, zgI_142, zsI_142, zgI_143, zsI_143, zgI_144, zsI_144, zgI_145, zsI_145, zgI_146, zsI_146, zgI_147, zsI_147, zb_228_29, hlt0, gg, hn0, hdd, e2, fA, fB, fC, n1, nb, h5]
              exact ih
        · have fA : (nI U = nI X) = False := zd_eqF hA (by omega) (by omega)
          by_cases hC : U = Y
          · have fC : (nI U = nI Y) = True := zfEq hC
            by_cases hD : W = X
            · have fD : (nI W = nI X) = True := zfEq hD
              rw [yes ⟨hbr, Or.inr ⟨hC, hD⟩⟩] at ih
              simp (maxSteps := 500000) (disch := first | assumption | omega) only [zn0, zn1, Option.bind_some, zm_ai, zm_al, zm_av, zm_opt, zm_fw, zE_l, zE_r, nI_add, pk_mul, pk_sub, pk_div, pk_rem, zrem, zpm1, zB_i0, zB_i1, zB_ok, zB_T, zB_F, nI_toInt, zT_sub, zT_neg, if_true, if_false, zw_R, zw_RL, zw_I, zF_R, zw_same, zw_cell, zw_ne, zF_at, zF_ne, ↓reduceIte, zd_leT, zd_leF, zd_ltT, zd_ltF, zd_eqF, zd_n1, zd_n2, eq_self, not_true_eq_false, not_false_eq_true, zi_118, zx_118_0, zx_118_1, zx_118_2, zx_118_3, zx_118_7, zx_118_8, zx_118_9, zx_118_10, zx_118_11, zx_118_12, zx_118_13, zx_118_14, zx_118_15, zx_118_17, zx_118_18, zx_118_19, zx_118_21, zx_118_22, zx_118_24, zx_118_25, zx_118_30, zx_118_35, zx_118_36, zx_118_37, zx_118_38, zx_118_39, zx_118_41, zx_118_42, zx_118_44, zx_118_45, zx_118_46, zgI_119, zsI_119, zgI_120, zsI_120, zgI_121, zsI_121, zgI_122, zsI_122, zgI_123, zsI_123, zgI_124, zsI_124, zgI_125, zsI_125, zgI_126, zsI_126, zgI_127, zsI_127, zgI_128, zsI_128, zgI_129, zsI_129, zgI_130, zsI_130, zgI_131, zsI_131, zgI_132, zsI_132, zgI_133, zsI_133, zgI_134, zsI_134, zgI_135, zsI_135, zgI_136, zsI_136, zgI_137, zsI_137, zgI_139, zsI_139, zgI_140, zsI_140, zgI_141, zsI_141, zgI_142, zsI_142, zgI_143, zsI_143, zgI_144, zsI_144, zgI_145, zsI_145, zgI_146, zsI_146, zgI_147, zsI_147, zb_228_29, hlt0, gg, hn0, hdd, e2, fA, fC, fD, n1, nb, h5]
              exact ih
            · have fD : (nI W = nI X) = False := zd_eqF hD (by omega) (by omega)
              rw [no (by rintro ⟨-, ⟨q1, q2⟩ | ⟨q1, q2⟩⟩; exact hA q1; exact hD q2)] at ih
              simp (maxSteps := 500000) (disch := first | assumption | omega) only [zn0, zn1, Option.bind_some, zm_ai, zm_al, zm_av, zm_opt, zm_fw, zE_l, zE_r, nI_add, pk_mul, pk_sub, pk_div, pk_rem, zrem, zpm1, zB_i0, zB_i1, zB_ok, zB_T, zB_F, nI_toInt, zT_sub, zT_neg, if_true, if_false, zw_R, zw_RL, zw_I, zF_R, zw_same, zw_cell, zw_ne, zF_at, zF_ne, ↓reduceIte, zd_leT, zd_leF, zd_ltT, zd_ltF, zd_eqF, zd_n1, zd_n2, eq_self, not_true_eq_false, not_false_eq_true, zi_118, zx_118_0, zx_118_1, zx_118_2, zx_118_3, zx_118_7, zx_118_8, zx_118_9, zx_118_10, zx_118_11, zx_118_12, zx_118_13, zx_118_14, zx_118_15, zx_118_17, zx_118_18, zx_118_19, zx_118_21, zx_118_22, zx_118_24, zx_118_25, zx_118_30, zx_118_35, zx_118_36, zx_118_37, zx_118_38, zx_118_39, zx_118_41, zx_118_42, zx_118_44, zx_118_45, zx_118_46, zgI_119, zsI_119, zgI_120, zsI_120, zgI_121, zsI_121, zgI_122, zsI_122, zgI_123, zsI_123, zgI_124, zsI_124, zgI_125, zsI_125, zgI_126, zsI_126, zgI_127, zsI_127, zgI_128, zsI_128, zgI_129, zsI_129, zgI_130, zsI_130, zgI_131, zsI_131, zgI_132, zsI_132, zgI_133, zsI_133, zgI_134, zsI_134, zgI_135, zsI_135, zgI_136, zsI_136, zgI_137, zsI_137, zgI_139, zsI_139, zgI_140, zsI_140, zgI_141, zsI_141, zgI_142, zsI_142, zgI_143, zsI_143, zgI_144, zsI_144, zgI_145, zsI_145, zgI_146, zsI_146, zgI_147, zsI_147, zb_228_29, hlt0, gg, hn0, hdd, e2, fA, fC, fD, n1, nb, h5]
              exact ih
          · have fC : (nI U = nI Y) = False := zd_eqF hC (by omega) (by omega)
            rw [no (by rintro ⟨-, ⟨q1, q2⟩ | ⟨q1, q2⟩⟩; exact hA q1; exact hC q1)] at ih
            simp (maxSteps := 500000) (disch := first | assumption | omega) only [zn0, zn1, Option.bind_some, zm_ai, zm_al, zm_av, zm_opt, zm_fw, zE_l, zE_r, nI_add, pk_mul, pk_sub, pk_div, pk_rem, zrem, zpm1, zB_i0, zB_i1, zB_ok, zB_T, zB_F, nI_toInt, zT_sub, zT_neg, if_true, if_false, zw_R, zw_RL, zw_I, zF_R, zw_same, zw_cell, zw_ne, zF_at, zF_ne, ↓reduceIte, zd_leT, zd_leF, zd_ltT, zd_ltF, zd_eqF, zd_n1, zd_n2, eq_self, not_true_eq_false, not_false_eq_true, zi_118, zx_118_0, zx_118_1, zx_118_2, zx_118_3, zx_118_7, zx_118_8, zx_118_9, zx_118_10, zx_118_11, zx_118_12, zx_118_13, zx_118_14, zx_118_15, zx_118_17, zx_118_18, zx_118_19, zx_118_21, zx_118_22, zx_118_24, zx_118_25, zx_118_30, zx_118_35, zx_118_36, zx_118_37, zx_118_38, zx_118_39, zx_118_41, zx_118_42, zx_118_44, zx_118_45, zx_118_46, zgI_119, zsI_119, zgI_120, zsI_120, zgI_121, zsI_121, zgI_122, zsI_122, zgI_123, zsI_123, zgI_124, zsI_124, zgI_125, zsI_125, zgI_126, zsI_126, zgI_127, zsI_127, zgI_128, zsI_128, zgI_129, zsI_129, zgI_130, zsI_130, zgI_131, zsI_131, zgI_132, zsI_132, zgI_133, zsI_133, zgI_134, zsI_134, zgI_135, zsI_135, zgI_136, zsI_136, zgI_137, zsI_137, zgI_139, zsI_139, zgI_140, zsI_140, zgI_141, zsI_141, zgI_142, zsI_142, zgI_143, zsI_143, zgI_144, zsI_144, zgI_145, zsI_145, zgI_146, zsI_146, zgI_147, zsI_147, zb_228_29, hlt0, gg, hn0, hdd, e2, fA, fC, n1, nb, h5]
            exact ih
      · have nb := n1f hbr
        rw [no (fun q => hbr q.1)] at ih
        by_cases hA : U = X
        · have fA : (nI U = nI X) = True := zfEq hA
          by_cases hB : W = Y
          · have fB : (nI W = nI Y) = True := zfEq hB
            simp (maxSteps := 500000) (disch := first | assumption | omega) only [zn0, zn1, Option.bind_some, zm_ai, zm_al, zm_av, zm_opt, zm_fw, zE_l, zE_r, nI_add, pk_mul, pk_sub, pk_div, pk_rem, zrem, zpm1, zB_i0, zB_i1, zB_ok, zB_T, zB_F, nI_toInt, zT_sub, zT_neg, if_true, if_false, zw_R, zw_RL, zw_I, zF_R, zw_same, zw_cell, zw_ne, zF_at, zF_ne, ↓reduceIte, zd_leT, zd_leF, zd_ltT, zd_ltF, zd_eqF, zd_n1, zd_n2, eq_self, not_true_eq_false, not_false_eq_true, zi_118, zx_118_0, zx_118_1, zx_118_2, zx_118_3, zx_118_7, zx_118_8, zx_118_9, zx_118_10, zx_118_11, zx_118_12, zx_118_13, zx_118_14, zx_118_15, zx_118_17, zx_118_18, zx_118_19, zx_118_21, zx_118_22, zx_118_24, zx_118_25, zx_118_30, zx_118_35, zx_118_36, zx_118_37, zx_118_38, zx_118_39, zx_118_41, zx_118_42, zx_118_44, zx_118_45, zx_118_46, zgI_119, zsI_119, zgI_120, zsI_120, zgI_121, zsI_121, zgI_122, zsI_122, zgI_123, zsI_123, zgI_124, zsI_124, zgI_125, zsI_125, zgI_126, zsI_126, zgI_127, zsI_127, zgI_128, zsI_128, zgI_129, zsI_129, zgI_130, zsI_130, zgI_131, zsI_131, zgI_132, zsI_132, zgI_133, zsI_133, zgI_134, zsI_134, zgI_135, zsI_135, zgI_136, zsI_136, zgI_137, zsI_137, zgI_139, zsI_139, zgI_140, zsI_140, zgI_141, zsI_141, zgI_142, zsI_142, zgI_143, zsI_143, zgI_144, zsI_144, zgI_145, zsI_145, zgI_146, zsI_146, zgI_147, zsI_147, zb_228_29, hlt0, gg, hn0, hdd, e2, fA, fB, n1, nb, h5]
            exact ih
          · have fB : (nI W = nI Y) = False := zd_eqF hB (by omega) (by omega)
            by_cases hC : U = Y
            · have fC : (nI U = nI Y) = True := zfEq hC
              by_cases hD : W = X
              · have fD : (nI W = nI X) = True := zfEq hD
                simp (maxSteps := 500000) (disch := first | assumption | omega) only [zn0, zn1, Option.bind_some, zm_ai, zm_al, zm_av, zm_opt, zm_fw, zE_l, zE_r, nI_add, pk_mul, pk_sub, pk_div, pk_rem, zrem, zpm1, zB_i0, zB_i1, zB_ok, zB_T, zB_F, nI_toInt, zT_sub, zT_neg, if_true, if_false, zw_R, zw_RL, zw_I, zF_R, zw_same, zw_cell, zw_ne, zF_at, zF_ne, ↓reduceIte, zd_leT, zd_leF, zd_ltT, zd_ltF, zd_eqF, zd_n1, zd_n2, eq_self, not_true_eq_false, not_false_eq_true, zi_118, zx_118_0, zx_118_1, zx_118_2, zx_118_3, zx_118_7, zx_118_8, zx_118_9, zx_118_10, zx_118_11, zx_118_12, zx_118_13, zx_118_14, zx_118_15, zx_118_17, zx_118_18, zx_118_19, zx_118_21, zx_118_22, zx_118_24, zx_118_25, zx_118_30, zx_118_35, zx_118_36, zx_118_37, zx_118_38, zx_118_39, zx_118_41, zx_118_42, zx_118_44, zx_118_45, zx_118_46, zgI_119, zsI_119, zgI_120, zsI_120, zgI_121, zsI_121, zgI_122, zsI_122, zgI_123, zsI_123, zgI_124, zsI_124, zgI_125, zsI_125, zgI_126, zsI_126, zgI_127, zsI_127, zgI_128, zsI_128, zgI_129, zsI_129, zgI_130, zsI_130, zgI_131, zsI_131, zgI_132, zsI_132, zgI_133, zsI_133, zgI_134, zsI_134, zgI_135, zsI_135, zgI_136, zsI_136, zgI_137, zsI_137, zgI_139, zsI_139, zgI_140, zsI_140, zgI_141, zsI_141, zgI_142, zsI_142, zgI_143, zsI_143, zgI_144, zsI_144, zgI_145, zsI_145, zgI_146, zsI_146, zgI_147, zsI_147, zb_228_29, hlt0, gg, hn0, hdd, e2, fA, fB, fC, fD, n1, nb, h5]
                exact ih
              · have fD : (nI W = nI X) = False := zd_eqF hD (by omega) (by omega)
                simp (maxSteps := 500000) (disch := first | assumption | omega) only [zn0, zn1, Option.bind_some, zm_ai, zm_al, zm_av, zm_opt, zm_fw, zE_l, zE_r, nI_add, pk_mul, pk_sub, pk_div, pk_rem, zrem, zpm1, zB_i0, zB_i1, zB_ok, zB_T, zB_F, nI_toInt, zT_sub, zT_neg, if_true, if_false, zw_R, zw_RL, zw_I, zF_R, zw_same, zw_cell, zw_ne, zF_at, zF_ne, ↓reduceIte, zd_leT, zd_leF, zd_ltT, zd_ltF, zd_eqF, zd_n1, zd_n2, eq_self, not_true_eq_false, not_false_eq_true, zi_118, zx_118_0, zx_118_1, zx_118_2, zx_118_3, zx_118_7, zx_118_8, zx_118_9, zx_118_10, zx_118_11, zx_118_12, zx_118_13, zx_118_14, zx_118_15, zx_118_17, zx_118_18, zx_118_19, zx_118_21, zx_118_22, zx_118_24, zx_118_25, zx_118_30, zx_118_35, zx_118_36, zx_118_37, zx_118_38, zx_118_39, zx_118_41, zx_118_42, zx_118_44, zx_118_45, zx_118_46, zgI_119, zsI_119, zgI_120, zsI_120, zgI_121, zsI_121, zgI_122, zsI_122, zgI_123, zsI_123, zgI_124, zsI_124, zgI_125, zsI_125, zgI_126, zsI_126, zgI_127, zsI_127, zgI_128, zsI_128, zgI_129, zsI_129, zgI_130, zsI_130, zgI_131, zsI_131, zgI_132, zsI_132, zgI_133, zsI_133, zgI_134, zsI_134, zgI_135, zsI_135, zgI_136, zsI_136, zgI_137, zsI_137, zgI_139, zsI_139, zgI_140, zsI_140, zgI_141, zsI_141, zgI_142, zsI_142, zgI_143, zsI_143, zgI_144, zsI_144, zgI_145, zsI_145, zgI_146, zsI_146, zgI_147, zsI_147, zb_228_29, hlt0, gg, hn0, hdd, e2, fA, fB, fC, fD, n1, nb, h5]
                exact ih
            · have fC : (nI U = nI Y) = False := zd_eqF hC (by omega) (by omega)
              simp (maxSteps := 500000) (disch := first | assumption | omega) only [zn0, zn1, Option.bind_some, zm_ai, zm_al, zm_av, zm_opt, zm_fw, zE_l, zE_r, nI_add, pk_mul, pk_sub, pk_div, pk_rem, zrem, zpm1, zB_i0, zB_i1, zB_ok, zB_T, zB_F, nI_toInt, zT_sub, zT_neg, if_true, if_false, zw_R, zw_RL, zw_I, zF_R, zw_same, zw_cell, zw_ne, zF_at, zF_ne, ↓reduceIte, zd_leT, zd_leF, zd_ltT, zd_ltF, zd_eqF, zd_n1, zd_n2, eq_self, not_true_eq_false, not_false_eq_true, zi_118, zx_118_0, zx_118_1, zx_118_2, zx_118_3, zx_118_7, zx_118_8, zx_118_9, zx_118_10, zx_118_11, zx_118_12, zx_118_13, zx_118_14, zx_118_15, zx_118_17, zx_118_18, zx_118_19, zx_118_21, zx_118_22, zx_118_24, zx_118_25, zx_118_30, zx_118_35, zx_118_36, zx_118_37, zx_118_38, zx_118_39, zx_118_41, zx_118_42, zx_118_44, zx_118_45, zx_118_46, zgI_119, zsI_119, zgI_120, zsI_120, zgI_121, zsI_121, zgI_122, zsI_122, zgI_123, zsI_123, zgI_124, zsI_124, zgI_125, zsI_125, zgI_126, zsI_126, zgI_127, zsI_127, zgI_128, zsI_128, zgI_129, zsI_129, zgI_130, zsI_130, zgI_131, zsI_131, zgI_132, zsI_132, zgI_133, zsI_133, zgI_134, zsI_134, zgI_135, zsI_135, zgI_136, zsI_136, zgI_137, zsI_137, zgI_139, zsI_139, zgI_140, zsI_140, zgI_141, zsI_141, zgI_142, zsI_142, zgI_143, zsI_143, zgI_144, zsI_144, zgI_145, zsI_145, zgI_146, zsI_146, zgI_147, zsI_147, zb_228_29, hlt0, gg, hn0, hdd, e2, fA, fB, fC, n1, nb, h5]
              exact ih
        · have fA : (nI U = nI X) = False := zd_eqF hA (by omega) (by omega)
          by_cases hC : U = Y
          · have fC : (nI U = nI Y) = True := zfEq hC
            by_cases hD : W = X
            · have fD : (nI W = nI X) = True := zfEq hD
              simp (maxSteps := 500000) (disch := first | assumption | omega) only [zn0, zn1, Option.bind_some, zm_ai, zm_al, zm_av, zm_opt, zm_fw, zE_l, zE_r, nI_add, pk_mul, pk_sub, pk_div, pk_rem, zrem, zpm1, zB_i0, zB_i1, zB_ok, zB_T, zB_F, nI_toInt, zT_sub, zT_neg, if_true, if_false, zw_R, zw_RL, zw_I, zF_R, zw_same, zw_cell, zw_ne, zF_at, zF_ne, ↓reduceIte, zd_leT, zd_leF, zd_ltT, zd_ltF, zd_eqF, zd_n1, zd_n2, eq_self, not_true_eq_false, not_false_eq_true, zi_118, zx_118_0, zx_118_1, zx_118_2, zx_118_3, zx_118_7, zx_118_8, zx_118_9, zx_118_10, zx_118_11, zx_118_12, zx_118_13, zx_118_14, zx_118_15, zx_118_17, zx_118_18, zx_118_19, zx_118_21, zx_118_22, zx_118_24, zx_118_25, zx_118_30, zx_118_35, zx_118_36, zx_118_37, zx_118_38, zx_118_39, zx_118_41, zx_118_42, zx_118_44, zx_118_45, zx_118_46, zgI_119, zsI_119, zgI_120, zsI_120, zgI_121, zsI_121, zgI_122, zsI_122, zgI_123, zsI_123, zgI_124, zsI_124, zgI_125, zsI_125, zgI_126, zsI_126, zgI_127, zsI_127, zgI_128, zsI_128, zgI_129, zsI_129, zgI_130, zsI_130, zgI_131, zsI_131, zgI_132, zsI_132, zgI_133, zsI_133, zgI_134, zsI_134, zgI_135, zsI_135, zgI_136, zsI_136, zgI_137, zsI_137, zgI_139, zsI_139, zgI_140, zsI_140, zgI_141, zsI_141, zgI_142, zsI_142, zgI_143, zsI_143, zgI_144, zsI_144, zgI_145, zsI_145, zgI_146, zsI_146, zgI_147, zsI_147, zb_228_29, hlt0, gg, hn0, hdd, e2, fA, fC, fD, n1, nb, h5]
              exact ih
            · have fD : (nI W = nI X) = False := zd_eqF hD (by omega) (by omega)
              simp (maxSteps := 500000) (disch := first | assumption | omega) only [zn0, zn1, Option.bind_some, zm_ai, zm_al, zm_av, zm_opt, zm_fw, zE_l, zE_r, nI_add, pk_mul, pk_sub, pk_div, pk_rem, zrem, zpm1, zB_i0, zB_i1, zB_ok, zB_T, zB_F, nI_toInt, zT_sub, zT_neg, if_true, if_false, zw_R, zw_RL, zw_I, zF_R, zw_same, zw_cell, zw_ne, zF_at, zF_ne, ↓reduceIte, zd_leT, zd_leF, zd_ltT, zd_ltF, zd_eqF, zd_n1, zd_n2, eq_self, not_true_eq_false, not_false_eq_true, zi_118, zx_118_0, zx_118_1, zx_118_2, zx_118_3, zx_118_7, zx_118_8, zx_118_9, zx_118_10, zx_118_11, zx_118_12, zx_118_13, zx_118_14, zx_118_15, zx_118_17, zx_118_18, zx_118_19, zx_118_21, zx_118_22, zx_118_24, zx_118_25, zx_118_30, zx_118_35, zx_118_36, zx_118_37, zx_118_38, zx_118_39, zx_118_41, zx_118_42, zx_118_44, zx_118_45, zx_118_46, zgI_119, zsI_119, zgI_120, zsI_120, zgI_121, zsI_121, zgI_122, zsI_122, zgI_123, zsI_123, zgI_124, zsI_124, zgI_125, zsI_125, zgI_126, zsI_126, zgI_127, zsI_127, zgI_128, zsI_128, zgI_129, zsI_129, zgI_130, zsI_130, zgI_131, zsI_131, zgI_132, zsI_132, zgI_133, zsI_133, zgI_134, zsI_134, zgI_135, zsI_135, zgI_136, zsI_136, zgI_137, zsI_137, zgI_139, zsI_139, zgI_140, zsI_140, zgI_141, zsI_141, zgI_142, zsI_142, zgI_143, zsI_143, zgI_144, zsI_144, zgI_145, zsI_145, zgI_146, zsI_146, zgI_147, zsI_147, zb_228_29, hlt0, gg, hn0, hdd, e2, fA, fC, fD, n1, nb, h5]
              exact ih
          · have fC : (nI U = nI Y) = False := zd_eqF hC (by omega) (by omega)
            simp (maxSteps := 500000) (disch := first | assumption | omega) only [zn0, zn1, Option.bind_some, zm_ai, zm_al, zm_av, zm_opt, zm_fw, zE_l, zE_r, nI_add, pk_mul, pk_sub, pk_div, pk_rem, zrem, zpm1, zB_i0, zB_i1, zB_ok, zB_T, zB_F, nI_toInt, zT_sub, zT_neg, if_true, if_false, zw_R, zw_RL, zw_I, zF_R, zw_same, zw_cell, zw_ne, zF_at, zF_ne, ↓reduceIte, zd_leT, zd_leF, zd_ltT, zd_ltF, zd_eqF, zd_n1, zd_n2, eq_self, not_true_eq_false, not_false_eq_true, zi_118, zx_118_0, zx_118_1, zx_118_2, zx_118_3, zx_118_7, zx_118_8, zx_118_9, zx_118_10, zx_118_11, zx_118_12, zx_118_13, zx_118_14, zx_118_15, zx_118_17, zx_118_18, zx_118_19, zx_118_21, zx_118_22, zx_118_24, zx_118_25, zx_118_30, zx_118_35, zx_118_36, zx_118_37, zx_118_38, zx_118_39, zx_118_41, zx_118_42, zx_118_44, zx_118_45, zx_118_46, zgI_119, zsI_119, zgI_120, zsI_120, zgI_121, zsI_121, zgI_122, zsI_122, zgI_123, zsI_123, zgI_124, zsI_124, zgI_125, zsI_125, zgI_126, zsI_126, zgI_127, zsI_127, zgI_128, zsI_128, zgI_129, zsI_129, zgI_130, zsI_130, zgI_131, zsI_131, zgI_132, zsI_132, zgI_133, zsI_133, zgI_134, zsI_134, zgI_135, zsI_135, zgI_136, zsI_136, zgI_137, zsI_137, zgI_139, zsI_139, zgI_140, zsI_140, zgI_141, zsI_141, zgI_142, zsI_142, zgI_143, zsI_143, zgI_144, zsI_144, zgI_145, zsI_145, zgI_146, zsI_146, zgI_147, zsI_147, zb_228_29, hlt0, gg, hn0, hdd, e2, fA, fC, n1, nb, h5]
            exact ih
  have := key (G.1 * G.2.1) (Nat.le_refl _)
  rw [if_neg (by omega)] at this
  exact this
/-- what a mark tells -/
noncomputable def zmark (G : zG) (t : zT) (e k : Nat) : Nat := if k = 1 then zlat t (e / G.2.1) (zto G e) else if k = 2 then t.2.2.2.2.1 (e / G.2.1) + t.2.2.2.2.1 (zto G e) + 1 else if k = 3 then zlc G (e / G.2.1) G.2.1 else zbo G t (zlat t (e / G.2.1) (zto G e))
theorem ztwin (hv : zGv G) (hT : zTi G t) (hal : ∀ p, p < G.1 → zMet t p) {e : Nat} (he : e < G.1 * G.2.1) (h4 : zkd G t e = 4) : zlat t (e / G.2.1) (zto G e) < G.1 ∧ zlat t (e / G.2.1) (zto G e) ≠ 0 ∧ ((e / G.2.1 = zlat t (e / G.2.1) (zto G e) ∧ zto G e = zpar t (zlat t (e / G.2.1) (zto G e))) ∨ (e / G.2.1 = zpar t (zlat t (e / G.2.1) (zto G e)) ∧ zto G e = zlat t (e / G.2.1) (zto G e))) := by
  have hzt := zto_lt hv he
  have hst := (zedge he).2.1
  have v1 := hv.1
  have hb : ¬ zbe G t e := fun q => by rw [zkd_b q] at h4; omega
  rw [zkd_n hb] at h4
  generalize e / G.2.1 = U at *
  generalize zto G e = W at *
  have hne : ¬ U = W := fun q => by rw [zk2_3 q] at h4; omega
  have htw : zTw t U W := Classical.byContradiction fun q => by rw [zk2_2 hne q] at h4; omega
  rcases htw with ⟨q1, q2⟩ | ⟨q1, q2⟩
  · have p1 := hT.pself hv (hal U hst) q1 (by omega) q2
    have p2 := hT.wlt hv (hal U hst) q1
    rw [p1] at p2
    have : zlat t U W = U := if_neg (by omega)
    rw [this, p1]
    exact ⟨hst, q1, Or.inl ⟨rfl, rfl⟩⟩
  · have p1 := hT.pself hv (hal W hzt) q1 (by omega) q2
    have p2 := hT.wlt hv (hal W hzt) q1
    rw [p1] at p2
    have : zlat t U W = W := if_pos (by omega)
    rw [this, p1]
    exact ⟨hzt, q1, Or.inr ⟨rfl, rfl⟩⟩
def zLik (n k : Nat) : Prop := n = k ∨ (k = 2 ∧ 2 < n)
theorem c_markOf (hF : zFix σ) (ha : zGo a) (hG : zCG σ a G) (hv : zGv G) (hN : zCN σ G t) (h : zCT σ t) (hT : zTi G t) (hal : ∀ p, p < G.1 → zMet t p) {e k : Nat} (he : e < G.1 * G.2.1) (hk1 : 1 ≤ k) (hk4 : k ≤ 4) (hl : zLik (zkd G t e) k) : zM 85 [.ref 20, .ref a, .int (nI e), .int (nI k)] zL σ = some (some (.int (nI (zmark G t e k))), zL, σ) := by
  have hai := zGo_i ha
  have v1 := hv.1
  have e1 := c_startOf ha hG hv he
  have e2 : zM 81 [.ref a, .int (nI e)] zL σ = some (some (.int (nI (zto G e))), zL, σ) := c_endOf hF ha hG hv he
  have hzt := zto_lt hv he
  have hst := (zedge he).2.1
  obtain ⟨s1, s2, s3, s4⟩ := (h.2.2 (e / G.2.1) (by omega)).1 (hal _ hst)
  obtain ⟨u1, u2, u3, u4⟩ := (h.2.2 (zto G e) (by omega)).1 (hal _ hzt)
  have c1 := hT.cnt
  have w1 := (hT.2.2.1 _ (hal _ hst)).1
  have w2 := (hT.2.2.1 _ (hal _ hzt)).1
  have f1 := hT.far4 hv (hal _ hst)
  have f2 := hT.far4 hv (hal _ hzt)
  refine zS_eq (zS_of ze_85 ?_)
  have : k = 1 ∨ k = 2 ∨ k = 3 ∨ k = 4 := by omega
  rcases this with rfl | rfl | rfl | rfl
  · have hm : zmark G t e 1 = zlat t (e / G.2.1) (zto G e) := rfl
    rw [hm]
    by_cases q : t.2.2.2.2.2 (e / G.2.1) ≤ t.2.2.2.2.2 (zto G e)
    · have : zlat t (e / G.2.1) (zto G e) = zto G e := if_pos q
      rw [this]
      simp (maxSteps := 500000) (disch := first | assumption | omega) only [zn0, zn1, Option.bind_some, zm_ai, zm_al, zm_av, zm_opt, zm_fw, zE_l, zE_r, nI_add, pk_mul, pk_sub, pk_div, pk_rem, zrem, zpm1, zB_i0, zB_i1, zB_ok, zB_T, zB_F, nI_toInt, zT_sub, zT_neg, if_true, if_false, zw_R, zw_RL, zw_I, zF_R, zw_same, zw_cell, zw_ne, zF_at, zF_ne, ↓reduceIte, zd_leT, zd_leF, zd_ltT, zd_ltF, zd_eqF, zd_n1, zd_n2, eq_self, not_true_eq_false, not_false_eq_true, zi_0, zi_1, zi_10, zi_17, zi_19, zi_20, zi_30, zi_48, zi_50, zi_52, zi_57, zi_59, zi_80, zi_93, zi_106, zi_110, zi_114, zx_0_0, zx_0_1, zx_0_2, zx_0_3, zx_0_4, zx_0_5, zx_0_6, zx_0_7, zx_0_8, zx_0_9, zx_0_10, zx_1_0, zx_1_1, zx_2_0, zx_2_1, zx_2_2, zx_2_3, zx_2_4, zx_2_5, zx_10_0, zx_10_1, zx_11_0, zx_11_1, zx_11_2, zx_11_3, zx_17_0, zx_19_0, zx_19_1, zx_19_2, zx_20_0, zx_20_1, zx_20_3, zx_20_4, zx_20_5, zx_20_6, zx_20_7, zx_20_8, zx_20_9, zx_30_0, zx_30_1, zx_30_4, zx_30_5, zx_48_0, zx_50_0, zx_52_0, zx_52_1, zx_52_2, zx_56_0, zx_56_1, zx_56_2, zx_57_0, zx_59_0, zx_80_3, zx_80_4, zx_80_5, zx_81_0, zx_81_1, zx_81_2, zx_81_3, zx_81_4, zx_81_5, zx_88_0, zx_88_1, zx_88_2, zx_93_3, zx_93_4, zx_93_5, zx_94_0, zx_94_1, zx_94_2, zx_94_3, zx_94_4, zx_94_5, zx_101_0, zx_101_1, zx_101_2, zx_106_0, zx_106_1, zx_106_2, zx_110_0, zx_110_1, zx_110_2, zx_114_0, zx_114_1, zx_114_2, zgI_9, zsI_9, zgI_16, zsI_16, zgI_18, zsI_18, zgI_21, zsI_21, zgI_22, zsI_22, zgI_23, zsI_23, zgI_24, zsI_24, zgI_25, zsI_25, zgI_26, zsI_26, zgI_27, zsI_27, zgI_28, zsI_28, zgI_29, zsI_29, zgI_47, zsI_47, zgI_49, zsI_49, zgI_51, zsI_51, zgI_53, zsI_53, zgI_54, zsI_54, zgI_55, zsI_55, zgI_58, zsI_58, zgI_76, zsI_76, zgI_79, zsI_79, zb_85_0, hai, e1, e2, s4, u4]
    · have : zlat t (e / G.2.1) (zto G e) = e / G.2.1 := if_neg q
      rw [this]
      simp (maxSteps := 500000) (disch := first | assumption | omega) only [zn0, zn1, Option.bind_some, zm_ai, zm_al, zm_av, zm_opt, zm_fw, zE_l, zE_r, nI_add, pk_mul, pk_sub, pk_div, pk_rem, zrem, zpm1, zB_i0, zB_i1, zB_ok, zB_T, zB_F, nI_toInt, zT_sub, zT_neg, if_true, if_false, zw_R, zw_RL, zw_I, zF_R, zw_same, zw_cell, zw_ne, zF_at, zF_ne, ↓reduceIte, zd_leT, zd_leF, zd_ltT, zd_ltF, zd_eqF, zd_n1, zd_n2, eq_self, not_true_eq_false, not_false_eq_true, zi_0, zi_1, zi_10, zi_17, zi_19, zi_20, zi_30, zi_48, zi_50, zi_52, zi_57, zi_59, zi_80, zi_93, zi_106, zi_110, zi_114, zx_0_0, zx_0_1, zx_0_2, zx_0_3, zx_0_4, zx_0_5, zx_0_6, zx_0_7, zx_0_8, zx_0_9, zx_0_10, zx_1_0, zx_1_1, zx_2_0, zx_2_1, zx_2_2, zx_2_3, zx_2_4, zx_2_5, zx_10_0, zx_10_1, zx_11_0, zx_11_1, zx_11_2, zx_11_3, zx_17_0, zx_19_0, zx_19_1, zx_19_2, zx_20_0, zx_20_1, zx_20_3, zx_20_4, zx_20_5, zx_20_6, zx_20_7, zx_20_8, zx_20_9, zx_30_0, zx_30_1, zx_30_4, zx_30_5, zx_48_0, zx_50_0, zx_52_0, zx_52_1, zx_52_2, zx_56_0, zx_56_1, zx_56_2, zx_57_0, zx_59_0, zx_80_3, zx_80_4, zx_80_5, zx_81_0, zx_81_1, zx_81_2, zx_81_3, zx_81_4, zx_81_5, zx_88_0, zx_88_1, zx_88_2, zx_93_3, zx_93_4, zx_93_5, zx_94_0, zx_94_1, zx_94_2, zx_94_3, zx_94_4, zx_94_5, zx_101_0, zx_101_1, zx_101_2, zx_106_0, zx_106_1, zx_106_2, zx_110_0, zx_110_1, zx_110_2, zx_114_0, zx_114_1, zx_114_2, zgI_9, zsI_9, zgI_16, zsI_16, zgI_18, zsI_18, zgI_21, zsI_21, zgI_22, zsI_22, zgI_23, zsI_23, zgI_24, zsI_24, zgI_25, zsI_25, zgI_26, zsI_26, zgI_27, zsI_27, zgI_28, zsI_28, zgI_29, zsI_29, zgI_47, zsI_47, zgI_49, zsI_49, zgI_51, zsI_51, zgI_53, zsI_53, zgI_54, zsI_54, zgI_55, zsI_55, zgI_58, zsI_58, zgI_76, zsI_76, zgI_79, zsI_79, zb_85_0, hai, e1, e2, s4, u4]
  · simp (maxSteps := 500000) (disch := first | assumption | omega) only [zn0, zn1, Option.bind_some, zm_ai, zm_al, zm_av, zm_opt, zm_fw, zE_l, zE_r, nI_add, pk_mul, pk_sub, pk_div, pk_rem, zrem, zpm1, zB_i0, zB_i1, zB_ok, zB_T, zB_F, nI_toInt, zT_sub, zT_neg, if_true, if_false, zw_R, zw_RL, zw_I, zF_R, zw_same, zw_cell, zw_ne, zF_at, zF_ne, ↓reduceIte, zd_leT, zd_leF, zd_ltT, zd_ltF, zd_eqF, zd_n1, zd_n2, eq_self, not_true_eq_false, not_false_eq_true, zi_0, zi_1, zi_10, zi_17, zi_19, zi_20, zi_30, zi_48, zi_50, zi_52, zi_57, zi_59, zi_80, zi_93, zi_106, zi_110, zi_114, zx_0_0, zx_0_1, zx_0_2, zx_0_3, zx_0_4, zx_0_5, zx_0_6, zx_0_7, zx_0_8, zx_0_9, zx_0_10, zx_1_0, zx_1_1, zx_2_0, zx_2_1, zx_2_2, zx_2_3, zx_2_4, zx_2_5, zx_10_0, zx_10_1, zx_11_0, zx_11_1, zx_11_2, zx_11_3, zx_17_0, zx_19_0, zx_19_1, zx_19_2, zx_20_0, zx_20_1, zx_20_3, zx_20_4, zx_20_5, zx_20_6, zx_20_7, zx_20_8, zx_20_9, zx_30_0, zx_30_1, zx_30_4, zx_30_5, zx_48_0, zx_50_0, zx_52_0, zx_52_1, zx_52_2, zx_56_0, zx_56_1, zx_56_2, zx_57_0, zx_59_0, zx_80_3, zx_80_4, zx_80_5, zx_81_0, zx_81_1, zx_81_2, zx_81_3, zx_81_4, zx_81_5, zx_88_0, zx_88_1, zx_88_2, zx_93_3, zx_93_4, zx_93_5, zx_94_0, zx_94_1, zx_94_2, zx_94_3, zx_94_4, zx_94_5, zx_101_0, zx_101_1, zx_101_2, zx_106_0, zx_106_1, zx_106_2, zx_110_0, zx_110_1, zx_110_2, zx_114_0, zx_114_1, zx_114_2, zgI_9, zsI_9, zgI_16, zsI_16, zgI_18, zsI_18, zgI_21, zsI_21, zgI_22, zsI_22, zgI_23, zsI_23, zgI_24, zsI_24, zgI_25, zsI_25, zgI_26, zsI_26, zgI_27, zsI_27, zgI_28, zsI_28, zgI_29, zsI_29, zgI_47, zsI_47, zgI_49, zsI_49, zgI_51, zsI_51, zgI_53, zsI_53, zgI_54, zsI_54, zgI_55, zsI_55, zgI_58, zsI_58, zgI_76, zsI_76, zgI_79, zsI_79, zb_85_0, hai, e1, e2, s3, u3]
    rfl
  · have e3 := c_loopsAt hF ha hG hv hN hT hal hst
    simp (maxSteps := 500000) (disch := first | assumption | omega) only [zn0, zn1, Option.bind_some, zm_ai, zm_al, zm_av, zm_opt, zm_fw, zE_l, zE_r, nI_add, pk_mul, pk_sub, pk_div, pk_rem, zrem, zpm1, zB_i0, zB_i1, zB_ok, zB_T, zB_F, nI_toInt, zT_sub, zT_neg, if_true, if_false, zw_R, zw_RL, zw_I, zF_R, zw_same, zw_cell, zw_ne, zF_at, zF_ne, ↓reduceIte, zd_leT, zd_leF, zd_ltT, zd_ltF, zd_eqF, zd_n1, zd_n2, eq_self, not_true_eq_false, not_false_eq_true, zi_0, zi_1, zi_10, zi_17, zi_19, zi_20, zi_30, zi_48, zi_50, zi_52, zi_57, zi_59, zi_80, zi_93, zi_106, zi_110, zi_114, zx_0_0, zx_0_1, zx_0_2, zx_0_3, zx_0_4, zx_0_5, zx_0_6, zx_0_7, zx_0_8, zx_0_9, zx_0_10, zx_1_0, zx_1_1, zx_2_0, zx_2_1, zx_2_2, zx_2_3, zx_2_4, zx_2_5, zx_10_0, zx_10_1, zx_11_0, zx_11_1, zx_11_2, zx_11_3, zx_17_0, zx_19_0, zx_19_1, zx_19_2, zx_20_0, zx_20_1, zx_20_3, zx_20_4, zx_20_5, zx_20_6, zx_20_7, zx_20_8, zx_20_9, zx_30_0, zx_30_1, zx_30_4, zx_30_5, zx_48_0, zx_50_0, zx_52_0, zx_52_1, zx_52_2, zx_56_0, zx_56_1, zx_56_2, zx_57_0, zx_59_0, zx_80_3, zx_80_4, zx_80_5, zx_81_0, zx_81_1, zx_81_2, zx_81_3, zx_81_4, zx_81_5, zx_88_0, zx_88_1, zx_88_2, zx_93_3, zx_93_4, zx_93_5, zx_94_0, zx_94_1, zx_94_2, zx_94_3, zx_94_4, zx_94_5, zx_101_0, zx_101_1, zx_101_2, zx_106_0, zx_106_1, zx_106_2, zx_110_0, zx_110_1, zx_110_2, zx_114_0, zx_114_1, zx_114_2, zgI_9, zsI_9, zgI_16, zsI_16, zgI_18, zsI_18, zgI_21, zsI_21, zgI_22, zsI_22, zgI_23, zsI_23, zgI_24, zsI_24, zgI_25, zsI_25, zgI_26, zsI_26, zgI_27, zsI_27, zgI_28, zsI_28, zgI_29, zsI_29, zgI_47, zsI_47, zgI_49, zsI_49, zgI_51, zsI_51, zgI_53, zsI_53, zgI_54, zsI_54, zgI_55, zsI_55, zgI_58, zsI_58, zgI_76, zsI_76, zgI_79, zsI_79, zb_85_0, hai, e1, e2, e3]
    rfl
  · have h4 : zkd G t e = 4 := by
      rcases hl with q | q
      · exact q
      · omega
    obtain ⟨p1, p2, p3⟩ := ztwin hv hT hal he h4
    have e3 := c_branchOf hF ha hG hv h hT (hal _ p1) p2
    have hm : zmark G t e 4 = zbo G t (zlat t (e / G.2.1) (zto G e)) := rfl
    rw [hm]
    by_cases q : t.2.2.2.2.2 (e / G.2.1) ≤ t.2.2.2.2.2 (zto G e)
    · have : zlat t (e / G.2.1) (zto G e) = zto G e := if_pos q
      rw [this] at e3 ⊢
      simp (maxSteps := 500000) (disch := first | assumption | omega) only [zn0, zn1, Option.bind_some, zm_ai, zm_al, zm_av, zm_opt, zm_fw, zE_l, zE_r, nI_add, pk_mul, pk_sub, pk_div, pk_rem, zrem, zpm1, zB_i0, zB_i1, zB_ok, zB_T, zB_F, nI_toInt, zT_sub, zT_neg, if_true, if_false, zw_R, zw_RL, zw_I, zF_R, zw_same, zw_cell, zw_ne, zF_at, zF_ne, ↓reduceIte, zd_leT, zd_leF, zd_ltT, zd_ltF, zd_eqF, zd_n1, zd_n2, eq_self, not_true_eq_false, not_false_eq_true, zi_0, zi_1, zi_10, zi_17, zi_19, zi_20, zi_30, zi_48, zi_50, zi_52, zi_57, zi_59, zi_80, zi_93, zi_106, zi_110, zi_114, zx_0_0, zx_0_1, zx_0_2, zx_0_3, zx_0_4, zx_0_5, zx_0_6, zx_0_7, zx_0_8, zx_0_9, zx_0_10, zx_1_0, zx_1_1, zx_2_0, zx_2_1, zx_2_2, zx_2_3, zx_2_4, zx_2_5, zx_10_0, zx_10_1, zx_11_0, zx_11_1, zx_11_2, zx_11_3, zx_17_0, zx_19_0, zx_19_1, zx_19_2, zx_20_0, zx_20_1, zx_20_3, zx_20_4, zx_20_5, zx_20_6, zx_20_7, zx_20_8, zx_20_9, zx_30_0, zx_30_1, zx_30_4, zx_30_5, zx_48_0, zx_50_0, zx_52_0, zx_52_1, zx_52_2, zx_56_0, zx_56_1, zx_56_2, zx_57_0, zx_59_0, zx_80_3, zx_80_4, zx_80_5, zx_81_0, zx_81_1, zx_81_2, zx_81_3, zx_81_4, zx_81_5, zx_88_0, zx_88_1, zx_88_2, zx_93_3, zx_93_4, zx_93_5, zx_94_0, zx_94_1, zx_94_2, zx_94_3, zx_94_4, zx_94_5, zx_101_0, zx_101_1, zx_101_2, zx_106_0, zx_106_1, zx_106_2, zx_110_0, zx_110_1, zx_110_2, zx_114_0, zx_114_1, zx_114_2, zgI_9, zsI_9, zgI_16, zsI_16, zgI_18, zsI_18, zgI_21, zsI_21, zgI_22, zsI_22, zgI_23, zsI_23, zgI_24, zsI_24, zgI_25, zsI_25, zgI_26, zsI_26, zgI_27, zsI_27, zgI_28, zsI_28, zgI_29, zsI_29, zgI_47, zsI_47, zgI_49, zsI_49, zgI_51, zsI_51, zgI_53, zsI_53, zgI_54, zsI_54, zgI_55, zsI_55, zgI_58, zsI_58, zgI_76, zsI_76, zgI_79, zsI_79, zb_85_0, hai, e1, e2, s4, u4, e3]
    · have : zlat t (e / G.2.1) (zto G e) = e / G.2.1 := if_neg q
      rw [this] at e3 ⊢
      simp (maxSteps := 500000) (disch := first | assumption | omega) only [zn0, zn1, Option.bind_some, zm_ai, zm_al, zm_av, zm_opt, zm_fw, zE_l, zE_r, nI_add, pk_mul, pk_sub, pk_div, pk_rem, zrem, zpm1, zB_i0, zB_i1, zB_ok, zB_T, zB_F, nI_toInt, zT_sub, zT_neg, if_true, if_false, zw_R, zw_RL, zw_I, zF_R, zw_same, zw_cell, zw_ne, zF_at, zF_ne, ↓reduceIte, zd_leT, zd_leF, zd_ltT, zd_ltF, zd_eqF, zd_n1, zd_n2, eq_self, not_true_eq_false, not_false_eq_true, zi_0, zi_1, zi_10, zi_17, zi_19, zi_20, zi_30, zi_48, zi_50, zi_52, zi_57, zi_59, zi_80, zi_93, zi_106, zi_110, zi_114, zx_0_0, zx_0_1, zx_0_2, zx_0_3, zx_0_4, zx_0_5, zx_0_6, zx_0_7, zx_0_8, zx_0_9, zx_0_10, zx_1_0, zx_1_1, zx_2_0, zx_2_1, zx_2_2, zx_2_3, zx_2_4, zx_2_5, zx_10_0, zx_10_1, zx_11_0, zx_11_1, zx_11_2, zx_11_3, zx_17_0, zx_19_0, zx_19_1, zx_19_2, zx_20_0, zx_20_1, zx_20_3, zx_20_4, zx_20_5, zx_20_6, zx_20_7, zx_20_8, zx_20_9, zx_30_0, zx_30_1, zx_30_4, zx_30_5, zx_48_0, zx_50_0, zx_52_0, zx_52_1, zx_52_2, zx_56_0, zx_56_1, zx_56_2, zx_57_0, zx_59_0, zx_80_3, zx_80_4, zx_80_5, zx_81_0, zx_81_1, zx_81_2, zx_81_3, zx_81_4, zx_81_5, zx_88_0, zx_88_1, zx_88_2, zx_93_3, zx_93_4, zx_93_5, zx_94_0, zx_94_1, zx_94_2, zx_94_3, zx_94_4, zx_94_5, zx_101_0, zx_101_1, zx_101_2, zx_106_0, zx_106_1, zx_106_2, zx_110_0, zx_110_1, zx_110_2, zx_114_0, zx_114_1, zx_114_2, zgI_9, zsI_9, zgI_16, zsI_16, zgI_18, zsI_18, zgI_21, zsI_21, zgI_22, zsI_22, zgI_23, zsI_23, zgI_24, zsI_24, zgI_25, zsI_25, zgI_26, zsI_26, zgI_27, zsI_27, zgI_28, zsI_28, zgI_29, zsI_29, zgI_47, zsI_47, zgI_49, zsI_49, zgI_51, zsI_51, zgI_53, zsI_53, zgI_54, zsI_54, zgI_55, zsI_55, zgI_58, zsI_58, zgI_76, zsI_76, zgI_79, zsI_79, zb_85_0, hai, e1, e2, s4, u4, e3]
theorem k_mark (e k : Int32) (h : zInv σ) : zCallV 84 225 [.int e, .int k] σ := by
  obtain ⟨a, R, T, K, G, ds, ks, hC, hM, hV⟩ := h
  obtain ⟨hF, hR, hTx, hKc, ha, hcu, hsp, hG, hN, ⟨π, hCR⟩, hL, hO, hTl, hks, hpos, hzero⟩ := id hC
  have hv := hV.1
  have h15 := zng hv
  have hai := zGo_i ha
  have v1 := hv.1
  have v2 := hv.2.1
  rcases z_cN e (G.1 * G.2.1) (by omega) with hb | ⟨e, he, rfl⟩
  · refine zCallV.of hV hV hM (v := .int (-nI 1)) (zCo.same hC (zS_eq (zS_of ze_84 ?_))) fun σ1 hM1 => zMo.same hM1 (zS_eq (zS_of ze_225 ?_))
    · have e1 := c_isEdge ha hG hv e
      rw [zB_f (by omega)] at e1
      simp (maxSteps := 500000) (disch := first | assumption | omega) only [zn0, zn1, Option.bind_some, zm_ai, zm_al, zm_av, zm_opt, zm_fw, zE_l, zE_r, nI_add, pk_mul, pk_sub, pk_div, pk_rem, zrem, zpm1, zB_i0, zB_i1, zB_ok, zB_T, zB_F, nI_toInt, zT_sub, zT_neg, if_true, if_false, zw_R, zw_RL, zw_I, zF_R, zw_same, zw_cell, zw_ne, zF_at, zF_ne, ↓reduceIte, zd_leT, zd_leF, zd_ltT, zd_ltF, zd_eqF, zd_n1, zd_n2, eq_self, not_true_eq_false, not_false_eq_true, zi_0, zi_1, zi_10, zi_17, zi_19, zi_20, zi_30, zi_48, zi_50, zi_52, zi_57, zi_59, zi_80, zi_93, zi_106, zi_110, zi_114, zx_0_0, zx_0_1, zx_0_2, zx_0_3, zx_0_4, zx_0_5, zx_0_6, zx_0_7, zx_0_8, zx_0_9, zx_0_10, zx_1_0, zx_1_1, zx_2_0, zx_2_1, zx_2_2, zx_2_3, zx_2_4, zx_2_5, zx_10_0, zx_10_1, zx_11_0, zx_11_1, zx_11_2, zx_11_3, zx_17_0, zx_19_0, zx_19_1, zx_19_2, zx_20_0, zx_20_1, zx_20_3, zx_20_4, zx_20_5, zx_20_6, zx_20_7, zx_20_8, zx_20_9, zx_30_0, zx_30_1, zx_30_4, zx_30_5, zx_48_0, zx_50_0, zx_52_0, zx_52_1, zx_52_2, zx_56_0, zx_56_1, zx_56_2, zx_57_0, zx_59_0, zx_80_3, zx_80_4, zx_80_5, zx_81_0, zx_81_1, zx_81_2, zx_81_3, zx_81_4, zx_81_5, zx_88_0, zx_88_1, zx_88_2, zx_93_3, zx_93_4, zx_93_5, zx_94_0, zx_94_1, zx_94_2, zx_94_3, zx_94_4, zx_94_5, zx_101_0, zx_101_1, zx_101_2, zx_106_0, zx_106_1, zx_106_2, zx_110_0, zx_110_1, zx_110_2, zx_114_0, zx_114_1, zx_114_2, zgI_9, zsI_9, zgI_16, zsI_16, zgI_18, zsI_18, zgI_21, zsI_21, zgI_22, zsI_22, zgI_23, zsI_23, zgI_24, zsI_24, zgI_25, zsI_25, zgI_26, zsI_26, zgI_27, zsI_27, zgI_28, zsI_28, zgI_29, zsI_29, zgI_47, zsI_47, zgI_49, zsI_49, zgI_51, zsI_51, zgI_53, zsI_53, zgI_54, zsI_54, zgI_55, zsI_55, zgI_58, zsI_58, zgI_76, zsI_76, zgI_79, zsI_79, zq_84_0_1, zq_84_0_2, zq_84_0_3, zq_84_0_4, zq_84_0_5, zq_84_0_6, zq_84_0_7, zh_84_0, hcu, hai, e1]
    · have gG := hM1.2.2.2.2.1
      have e1 := m_isEdge gG hv e
      rw [zB_f (by omega)] at e1
      simp (maxSteps := 500000) (disch := first | assumption | omega) only [zn0, zn1, Option.bind_some, zm_ai, zm_al, zm_av, zm_opt, zm_fw, zE_l, zE_r, nI_add, pk_mul, pk_sub, pk_div, pk_rem, zrem, zpm1, zB_i0, zB_i1, zB_ok, zB_T, zB_F, nI_toInt, zT_sub, zT_neg, if_true, if_false, zw_R, zw_RL, zw_I, zF_R, zw_same, zw_cell, zw_ne, zF_at, zF_ne, ↓reduceIte, zd_leT, zd_leF, zd_ltT, zd_ltF, zd_eqF, zd_n1, zd_n2, eq_self, not_true_eq_false, not_false_eq_true, zi_118, zx_118_0, zx_118_1, zx_118_2, zx_118_3, zx_118_7, zx_118_8, zx_118_9, zx_118_10, zx_118_11, zx_118_12, zx_118_13, zx_118_14, zx_118_15, zx_118_17, zx_118_18, zx_118_19, zx_118_21, zx_118_22, zx_118_24, zx_118_25, zx_118_30, zx_118_35, zx_118_36, zx_118_37, zx_118_38, zx_118_39, zx_118_41, zx_118_42, zx_118_44, zx_118_45, zx_118_46, zgI_119, zsI_119, zgI_120, zsI_120, zgI_121, zsI_121, zgI_122, zsI_122, zgI_123, zsI_123, zgI_124, zsI_124, zgI_125, zsI_125, zgI_126, zsI_126, zgI_127, zsI_127, zgI_128, zsI_128, zgI_129, zsI_129, zgI_130, zsI_130, zgI_131, zsI_131, zgI_132, zsI_132, zgI_133, zsI_133, zgI_134, zsI_134, zgI_135, zsI_135, zgI_136, zsI_136, zgI_137, zsI_137, zgI_139, zsI_139, zgI_140, zsI_140, zgI_141, zsI_141, zgI_142, zsI_142, zgI_143, zsI_143, zgI_144, zsI_144, zgI_145, zsI_145, zgI_146, zsI_146, zgI_147, zsI_147, zq_225_0_1, zq_225_0_2, zq_225_0_3, zq_225_0_4, zq_225_0_5, zq_225_0_6, zq_225_0_7, zq_225_0_8, zq_225_0_9, zq_225_0_10, zq_225_0_11, zq_225_0_12, zh_225_0, e1]
  · have ie : zB (0 ≤ (nI e).toInt ∧ (nI e).toInt < (G.1 * G.2.1 : Nat)) = nI 1 := zB_t (by rw [nI_toInt (by omega)]; omega)
    have i1 := c_isEdge ha hG hv (nI e)
    rw [ie] at i1
    have bad : (k.toInt < 1 ∨ (4 : Int) < k.toInt) → zCallV 84 225 [.int (nI e), .int k] σ := by
      intro hb
      refine zCallV.of hV hV hM (v := .int (-nI 1)) (zCo.same hC (zS_eq (zS_of ze_84 ?_))) fun σ1 hM1 => zMo.same hM1 (zS_eq (zS_of ze_225 ?_))
      · rcases hb with hb | hb
        · have f1 : (k < nI 1) = True := zfT_lt (by rw [nI_toInt (by omega)]; exact hb)
          simp (maxSteps := 500000) (disch := first | assumption | omega) only [zn0, zn1, Option.bind_some, zm_ai, zm_al, zm_av, zm_opt, zm_fw, zE_l, zE_r, nI_add, pk_mul, pk_sub, pk_div, pk_rem, zrem, zpm1, zB_i0, zB_i1, zB_ok, zB_T, zB_F, nI_toInt, zT_sub, zT_neg, if_true, if_false, zw_R, zw_RL, zw_I, zF_R, zw_same, zw_cell, zw_ne, zF_at, zF_ne, ↓reduceIte, zd_leT, zd_leF, zd_ltT, zd_ltF, zd_eqF, zd_n1, zd_n2, eq_self, not_true_eq_false, not_false_eq_true, zi_0, zi_1, zi_10, zi_17, zi_19, zi_20, zi_30, zi_48, zi_50, zi_52, zi_57, zi_59, zi_80, zi_93, zi_106, zi_110, zi_114, zx_0_0, zx_0_1, zx_0_2, zx_0_3, zx_0_4, zx_0_5, zx_0_6, zx_0_7, zx_0_8, zx_0_9, zx_0_10, zx_1_0, zx_1_1, zx_2_0, zx_2_1, zx_2_2, zx_2_3, zx_2_4, zx_2_5, zx_10_0, zx_10_1, zx_11_0, zx_11_1, zx_11_2, zx_11_3, zx_17_0, zx_19_0, zx_19_1, zx_19_2, zx_20_0, zx_20_1, zx_20_3, zx_20_4, zx_20_5, zx_20_6, zx_20_7, zx_20_8, zx_20_9, zx_30_0, zx_30_1, zx_30_4, zx_30_5, zx_48_0, zx_50_0, zx_52_0, zx_52_1, zx_52_2, zx_56_0, zx_56_1, zx_56_2, zx_57_0, zx_59_0, zx_80_3, zx_80_4, zx_80_5, zx_81_0, zx_81_1, zx_81_2, zx_81_3, zx_81_4, zx_81_5, zx_88_0, zx_88_1, zx_88_2, zx_93_3, zx_93_4, zx_93_5, zx_94_0, zx_94_1, zx_94_2, zx_94_3, zx_94_4, zx_94_5, zx_101_0, zx_101_1, zx_101_2, zx_106_0, zx_106_1, zx_106_2, zx_110_0, zx_110_1, zx_110_2, zx_114_0, zx_114_1, zx_114_2, zgI_9, zsI_9, zgI_16, zsI_16, zgI_18, zsI_18, zgI_21, zsI_21, zgI_22, zsI_22, zgI_23, zsI_23, zgI_24, zsI_24, zgI_25, zsI_25, zgI_26, zsI_26, zgI_27, zsI_27, zgI_28, zsI_28, zgI_29, zsI_29, zgI_47, zsI_47, zgI_49, zsI_49, zgI_51, zsI_51, zgI_53, zsI_53, zgI_54, zsI_54, zgI_55, zsI_55, zgI_58, zsI_58, zgI_76, zsI_76, zgI_79, zsI_79, zq_84_0_1, zq_84_0_2, zq_84_0_3, zq_84_0_4, zq_84_0_5, zq_84_0_6, zq_84_0_7, zh_84_0, hcu, hai, i1, f1]
        · have f1 : (k < nI 1) = False := zfF_lt (by rw [nI_toInt (by omega)]; omega)
          have f2 : (k ≤ nI 4) = False := zfF_le (by rw [nI_toInt (by omega)]; exact hb)
          simp (maxSteps := 500000) (disch := first | assumption | omega) only [zn0, zn1, Option.bind_some, zm_ai, zm_al, zm_av, zm_opt, zm_fw, zE_l, zE_r, nI_add, pk_mul, pk_sub, pk_div, pk_rem, zrem, zpm1, zB_i0, zB_i1, zB_ok, zB_T, zB_F, nI_toInt, zT_sub, zT_neg, if_true, if_false, zw_R, zw_RL, zw_I, zF_R, zw_same, zw_cell, zw_ne, zF_at, zF_ne, ↓reduceIte, zd_leT, zd_leF, zd_ltT, zd_ltF, zd_eqF, zd_n1, zd_n2, eq_self, not_true_eq_false, not_false_eq_true, zi_0, zi_1, zi_10, zi_17, zi_19, zi_20, zi_30, zi_48, zi_50, zi_52, zi_57, zi_59, zi_80, zi_93, zi_106, zi_110, zi_114, zx_0_0, zx_0_1, zx_0_2, zx_0_3, zx_0_4, zx_0_5, zx_0_6, zx_0_7, zx_0_8, zx_0_9, zx_0_10, zx_1_0, zx_1_1, zx_2_0, zx_2_1, zx_2_2, zx_2_3, zx_2_4, zx_2_5, zx_10_0, zx_10_1, zx_11_0, zx_11_1, zx_11_2, zx_11_3, zx_17_0, zx_19_0, zx_19_1, zx_19_2, zx_20_0, zx_20_1, zx_20_3, zx_20_4, zx_20_5, zx_20_6, zx_20_7, zx_20_8, zx_20_9, zx_30_0, zx_30_1, zx_30_4, zx_30_5, zx_48_0, zx_50_0, zx_52_0, zx_52_1, zx_52_2, zx_56_0, zx_56_1, zx_56_2, zx_57_0, zx_59_0, zx_80_3, zx_80_4, zx_80_5, zx_81_0, zx_81_1, zx_81_2, zx_81_3, zx_81_4, zx_81_5, zx_88_0, zx_88_1, zx_88_2, zx_93_3, zx_93_4, zx_93_5, zx_94_0, zx_94_1, zx_94_2, zx_94_3, zx_94_4, zx_94_5, zx_101_0, zx_101_1, zx_101_2, zx_106_0, zx_106_1, zx_106_2, zx_110_0, zx_110_1, zx_110_2, zx_114_0, zx_114_1, zx_114_2, zgI_9, zsI_9, zgI_16, zsI_16, zgI_18, zsI_18, zgI_21, zsI_21, zgI_22, zsI_22, zgI_23, zsI_23, zgI_24, zsI_24, zgI_25, zsI_25, zgI_26, zsI_26, zgI_27, zsI_27, zgI_28, zsI_28, zgI_29, zsI_29, zgI_47, zsI_47, zgI_49, zsI_49, zgI_51, zsI_51, zgI_53, zsI_53, zgI_54, zsI_54, zgI_55, zsI_55, zgI_58, zsI_58, zgI_76, zsI_76, zgI_79, zsI_79, zq_84_0_1, zq_84_0_2, zq_84_0_3, zq_84_0_4, zq_84_0_5, zq_84_0_6, zq_84_0_7, zh_84_0, hcu, hai, i1, f1, f2]
      · have gG := hM1.2.2.2.2.1
        have e1 := m_isEdge gG hv (nI e)
        rw [ie] at e1
        have e2 := m_inI σ1 k (nI 1) (nI 4)
        rw [zB_f (by rw [nI_toInt (by omega), nI_toInt (by omega)]; omega)] at e2
        simp (maxSteps := 500000) (disch := first | assumption | omega) only [zn0, zn1, Option.bind_some, zm_ai, zm_al, zm_av, zm_opt, zm_fw, zE_l, zE_r, nI_add, pk_mul, pk_sub, pk_div, pk_rem, zrem, zpm1, zB_i0, zB_i1, zB_ok, zB_T, zB_F, nI_toInt, zT_sub, zT_neg, if_true, if_false, zw_R, zw_RL, zw_I, zF_R, zw_same, zw_cell, zw_ne, zF_at, zF_ne, ↓reduceIte, zd_leT, zd_leF, zd_ltT, zd_ltF, zd_eqF, zd_n1, zd_n2, eq_self, not_true_eq_false, not_false_eq_true, zi_118, zx_118_0, zx_118_1, zx_118_2, zx_118_3, zx_118_7, zx_118_8, zx_118_9, zx_118_10, zx_118_11, zx_118_12, zx_118_13, zx_118_14, zx_118_15, zx_118_17, zx_118_18, zx_118_19, zx_118_21, zx_118_22, zx_118_24, zx_118_25, zx_118_30, zx_118_35, zx_118_36, zx_118_37, zx_118_38, zx_118_39, zx_118_41, zx_118_42, zx_118_44, zx_118_45, zx_118_46, zgI_119, zsI_119, zgI_120, zsI_120, zgI_121, zsI_121, zgI_122, zsI_122, zgI_123, zsI_123, zgI_124, zsI_124, zgI_125, zsI_125, zgI_126, zsI_126, zgI_127, zsI_127, zgI_128, zsI_128, zgI_129, zsI_129, zgI_130, zsI_130, zgI_131, zsI_131, zgI_132, zsI_132, zgI_133, zsI_133, zgI_134, zsI_134, zgI_135, zsI_135, zgI_136, zsI_136, zgI_137, zsI_137, zgI_139, zsI_139, zgI_140, zsI_140, zgI_141, zsI_141, zgI_142, zsI_142, zgI_143, zsI_143, zgI_144, zsI_144, zgI_145, zsI_145, zgI_146, zsI_146, zgI_147, zsI_147, zq_225_0_1, zq_225_0_2, zq_225_0_3, zq_225_0_4, zq_225_0_5, zq_225_0_6, zq_225_0_7, zq_225_0_8, zq_225_0_9, zq_225_0_10, zq_225_0_11, zq_225_0_12, zh_225_0, e1, e2]
    rcases z_cN k 5 (by omega) with hb | ⟨k, hk, rfl⟩
    · exact bad (by omega)
    · by_cases k0 : k = 0
      · exact bad (by rw [k0, zi0]; omega)
      · have h0 : 0 < G.1 := by
          have := (zedge he).2.1
          omega
        obtain ⟨hTi, hal, -⟩ := hV.tr h0 (zrun G ds).1
        obtain ⟨n1, n2, n3⟩ := hN.2 e he
        have hkl := zkd_le G (ztree G (zrun G ds).1) e
        have f1 : (nI k < nI 1) = False := zd_ltF (by omega) (by omega)
        have f2 : (nI k ≤ nI 4) = True := zd_leT (by omega) (by omega)
        have mt : ∀ σ1, zMm σ1 R T K G ds ks → zM 222 [.ref 118, .int (nI e)] zL σ1 = some (some (.int (nI 1)), zL, σ1) ∧ zM 176 [.int (nI k), .int (nI 1), .int (nI 4)] zL σ1 = some (some (.int (nI 1)), zL, σ1) ∧ zM 226 [.int (nI (zkd G (ztree G (zrun G ds).1) e)), .int (nI k)] zL σ1 = some (some (.int (zB (zLik (zkd G (ztree G (zrun G ds).1) e) k))), zL, σ1) := by
          intro σ1 hM1
          have gG := hM1.2.2.2.2.1
          have e1 := m_isEdge gG hv (nI e)
          rw [ie] at e1
          have e2 := m_inI σ1 (nI k) (nI 1) (nI 4)
          rw [zB_t (by rw [nI_toInt (by omega), nI_toInt (by omega), nI_toInt (by omega)]; omega)] at e2
          refine ⟨e1, e2, zS_eq (zS_of ze_226 ?_)⟩
          unfold zLik
          by_cases q1 : zkd G (ztree G (zrun G ds).1) e = k
          · rw [zB_t (Or.inl q1), q1]
            simp (maxSteps := 500000) (disch := first | assumption | omega) only [zn0, zn1, Option.bind_some, zm_ai, zm_al, zm_av, zm_opt, zm_fw, zE_l, zE_r, nI_add, pk_mul, pk_sub, pk_div, pk_rem, zrem, zpm1, zB_i0, zB_i1, zB_ok, zB_T, zB_F, nI_toInt, zT_sub, zT_neg, if_true, if_false, zw_R, zw_RL, zw_I, zF_R, zw_same, zw_cell, zw_ne, zF_at, zF_ne, ↓reduceIte, zd_leT, zd_leF, zd_ltT, zd_ltF, zd_eqF, zd_n1, zd_n2, eq_self, not_true_eq_false, not_false_eq_true, zi_118, zx_118_0, zx_118_1, zx_118_2, zx_118_3, zx_118_7, zx_118_8, zx_118_9, zx_118_10, zx_118_11, zx_118_12, zx_118_13, zx_118_14, zx_118_15, zx_118_17, zx_118_18, zx_118_19, zx_118_21, zx_118_22, zx_118_24, zx_118_25, zx_118_30, zx_118_35, zx_118_36, zx_118_37, zx_118_38, zx_118_39, zx_118_41, zx_118_42, zx_118_44, zx_118_45, zx_118_46, zgI_119, zsI_119, zgI_120, zsI_120, zgI_121, zsI_121, zgI_122, zsI_122, zgI_123, zsI_123, zgI_124, zsI_124, zgI_125, zsI_125, zgI_126, zsI_126, zgI_127, zsI_127, zgI_128, zsI_128, zgI_129, zsI_129, zgI_130, zsI_130, zgI_131, zsI_131, zgI_132, zsI_132, zgI_133, zsI_133, zgI_134, zsI_134, zgI_135, zsI_135, zgI_136, zsI_136, zgI_137, zsI_137, zgI_139, zsI_139, zgI_140, zsI_140, zgI_141, zsI_141, zgI_142, zsI_142, zgI_143, zsI_143, zgI_144, zsI_144, zgI_145, zsI_145, zgI_146, zsI_146, zgI_147, zsI_147, zb_226_0]
          · by_cases q2 : k = 2
            · by_cases q3 : 2 < zkd G (ztree G (zrun G ds).1) e
              · rw [zB_t (Or.inr ⟨q2, q3⟩)]
                subst q2
                simp (maxSteps := 500000) (disch := first | assumption | omega) only [zn0, zn1, Option.bind_some, zm_ai, zm_al, zm_av, zm_opt, zm_fw, zE_l, zE_r, nI_add, pk_mul, pk_sub, pk_div, pk_rem, zrem, zpm1, zB_i0, zB_i1, zB_ok, zB_T, zB_F, nI_toInt, zT_sub, zT_neg, if_true, if_false, zw_R, zw_RL, zw_I, zF_R, zw_same, zw_cell, zw_ne, zF_at, zF_ne, ↓reduceIte, zd_leT, zd_leF, zd_ltT, zd_ltF, zd_eqF, zd_n1, zd_n2, eq_self, not_true_eq_false, not_false_eq_true, zi_118, zx_118_0, zx_118_1, zx_118_2, zx_118_3, zx_118_7, zx_118_8, zx_118_9, zx_118_10, zx_118_11, zx_118_12, zx_118_13, zx_118_14, zx_118_15, zx_118_17, zx_118_18, zx_118_19, zx_118_21, zx_118_22, zx_118_24, zx_118_25, zx_118_30, zx_118_35, zx_118_36, zx_118_37, zx_118_38, zx_118_39, zx_118_41, zx_118_42, zx_118_44, zx_118_45, zx_118_46, zgI_119, zsI_119, zgI_120, zsI_120, zgI_121, zsI_121, zgI_122, zsI_122, zgI_123, zsI_123, zgI_124, zsI_124, zgI_125, zsI_125, zgI_126, zsI_126, zgI_127, zsI_127, zgI_128, zsI_128, zgI_129, zsI_129, zgI_130, zsI_130, zgI_131, zsI_131, zgI_132, zsI_132, zgI_133, zsI_133, zgI_134, zsI_134, zgI_135, zsI_135, zgI_136, zsI_136, zgI_137, zsI_137, zgI_139, zsI_139, zgI_140, zsI_140, zgI_141, zsI_141, zgI_142, zsI_142, zgI_143, zsI_143, zgI_144, zsI_144, zgI_145, zsI_145, zgI_146, zsI_146, zgI_147, zsI_147, zb_226_0]
              · rw [zB_f (by omega)]
                subst q2
                simp (maxSteps := 500000) (disch := first | assumption | omega) only [zn0, zn1, Option.bind_some, zm_ai, zm_al, zm_av, zm_opt, zm_fw, zE_l, zE_r, nI_add, pk_mul, pk_sub, pk_div, pk_rem, zrem, zpm1, zB_i0, zB_i1, zB_ok, zB_T, zB_F, nI_toInt, zT_sub, zT_neg, if_true, if_false, zw_R, zw_RL, zw_I, zF_R, zw_same, zw_cell, zw_ne, zF_at, zF_ne, ↓reduceIte, zd_leT, zd_leF, zd_ltT, zd_ltF, zd_eqF, zd_n1, zd_n2, eq_self, not_true_eq_false, not_false_eq_true, zi_118, zx_118_0, zx_118_1, zx_118_2, zx_118_3, zx_118_7, zx_118_8, zx_118_9, zx_118_10, zx_118_11, zx_118_12, zx_118_13, zx_118_14, zx_118_15, zx_118_17, zx_118_18, zx_118_19, zx_118_21, zx_118_22, zx_118_24, zx_118_25, zx_118_30, zx_118_35, zx_118_36, zx_118_37, zx_118_38, zx_118_39, zx_118_41, zx_118_42, zx_118_44, zx_118_45, zx_118_46, zgI_119, zsI_119, zgI_120, zsI_120, zgI_121, zsI_121, zgI_122, zsI_122, zgI_123, zsI_123, zgI_124, zsI_124, zgI_125, zsI_125, zgI_126, zsI_126, zgI_127, zsI_127, zgI_128, zsI_128, zgI_129, zsI_129, zgI_130, zsI_130, zgI_131, zsI_131, zgI_132, zsI_132, zgI_133, zsI_133, zgI_134, zsI_134, zgI_135, zsI_135, zgI_136, zsI_136, zgI_137, zsI_137, zgI_139, zsI_139, zgI_140, zsI_140, zgI_141, zsI_141, zgI_142, zsI_142, zgI_143, zsI_143, zgI_144, zsI_144, zgI_145, zsI_145, zgI_146, zsI_146, zgI_147, zsI_147, zb_226_0]
            · rw [zB_f (by omega)]
              simp (maxSteps := 500000) (disch := first | assumption | omega) only [zn0, zn1, Option.bind_some, zm_ai, zm_al, zm_av, zm_opt, zm_fw, zE_l, zE_r, nI_add, pk_mul, pk_sub, pk_div, pk_rem, zrem, zpm1, zB_i0, zB_i1, zB_ok, zB_T, zB_F, nI_toInt, zT_sub, zT_neg, if_true, if_false, zw_R, zw_RL, zw_I, zF_R, zw_same, zw_cell, zw_ne, zF_at, zF_ne, ↓reduceIte, zd_leT, zd_leF, zd_ltT, zd_ltF, zd_eqF, zd_n1, zd_n2, eq_self, not_true_eq_false, not_false_eq_true, zi_118, zx_118_0, zx_118_1, zx_118_2, zx_118_3, zx_118_7, zx_118_8, zx_118_9, zx_118_10, zx_118_11, zx_118_12, zx_118_13, zx_118_14, zx_118_15, zx_118_17, zx_118_18, zx_118_19, zx_118_21, zx_118_22, zx_118_24, zx_118_25, zx_118_30, zx_118_35, zx_118_36, zx_118_37, zx_118_38, zx_118_39, zx_118_41, zx_118_42, zx_118_44, zx_118_45, zx_118_46, zgI_119, zsI_119, zgI_120, zsI_120, zgI_121, zsI_121, zgI_122, zsI_122, zgI_123, zsI_123, zgI_124, zsI_124, zgI_125, zsI_125, zgI_126, zsI_126, zgI_127, zsI_127, zgI_128, zsI_128, zgI_129, zsI_129, zgI_130, zsI_130, zgI_131, zsI_131, zgI_132, zsI_132, zgI_133, zsI_133, zgI_134, zsI_134, zgI_135, zsI_135, zgI_136, zsI_136, zgI_137, zsI_137, zgI_139, zsI_139, zgI_140, zsI_140, zgI_141, zsI_141, zgI_142, zsI_142, zgI_143, zsI_143, zgI_144, zsI_144, zgI_145, zsI_145, zgI_146, zsI_146, zgI_147, zsI_147, zb_226_0]
        by_cases hl : zLik (zkd G (ztree G (zrun G ds).1) e) k
        · refine zCallV.of hV hV hM (v := .int (nI 1)) (zCo.told hC hV (v := nI (zmark G (ztree G (zrun G ds).1) e k)) (zS_eq (zS_of ze_84 ?_))) fun σ1 hM1 => zMo.told hM1 hV (zS_eq (zS_of ze_225 ?_))
          · have e1 := c_markOf hF ha hG hv hN (hpos h0).1 hTi hal he (by omega) (by omega) hl
            have e2 := c_told σ (nI (zmark G (ztree G (zrun G ds).1) e k))
            by_cases q1 : zkd G (ztree G (zrun G ds).1) e = k
            · rw [q1] at n1
              simp (maxSteps := 500000) (disch := first | assumption | omega) only [zn0, zn1, Option.bind_some, zm_ai, zm_al, zm_av, zm_opt, zm_fw, zE_l, zE_r, nI_add, pk_mul, pk_sub, pk_div, pk_rem, zrem, zpm1, zB_i0, zB_i1, zB_ok, zB_T, zB_F, nI_toInt, zT_sub, zT_neg, if_true, if_false, zw_R, zw_RL, zw_I, zF_R, zw_same, zw_cell, zw_ne, zF_at, zF_ne, ↓reduceIte, zd_leT, zd_leF, zd_ltT, zd_ltF, zd_eqF, zd_n1, zd_n2, eq_self, not_true_eq_false, not_false_eq_true, zi_0, zi_1, zi_10, zi_17, zi_19, zi_20, zi_30, zi_48, zi_50, zi_52, zi_57, zi_59, zi_80, zi_93, zi_106, zi_110, zi_114, zx_0_0, zx_0_1, zx_0_2, zx_0_3, zx_0_4, zx_0_5, zx_0_6, zx_0_7, zx_0_8, zx_0_9, zx_0_10, zx_1_0, zx_1_1, zx_2_0, zx_2_1, zx_2_2, zx_2_3, zx_2_4, zx_2_5, zx_10_0, zx_10_1, zx_11_0, zx_11_1, zx_11_2, zx_11_3, zx_17_0, zx_19_0, zx_19_1, zx_19_2, zx_20_0, zx_20_1, zx_20_3, zx_20_4, zx_20_5, zx_20_6, zx_20_7, zx_20_8, zx_20_9, zx_30_0, zx_30_1, zx_30_4, zx_30_5, zx_48_0, zx_50_0, zx_52_0, zx_52_1, zx_52_2, zx_56_0, zx_56_1, zx_56_2, zx_57_0, zx_59_0, zx_80_3, zx_80_4, zx_80_5, zx_81_0, zx_81_1, zx_81_2, zx_81_3, zx_81_4, zx_81_5, zx_88_0, zx_88_1, zx_88_2, zx_93_3, zx_93_4, zx_93_5, zx_94_0, zx_94_1, zx_94_2, zx_94_3, zx_94_4, zx_94_5, zx_101_0, zx_101_1, zx_101_2, zx_106_0, zx_106_1, zx_106_2, zx_110_0, zx_110_1, zx_110_2, zx_114_0, zx_114_1, zx_114_2, zgI_9, zsI_9, zgI_16, zsI_16, zgI_18, zsI_18, zgI_21, zsI_21, zgI_22, zsI_22, zgI_23, zsI_23, zgI_24, zsI_24, zgI_25, zsI_25, zgI_26, zsI_26, zgI_27, zsI_27, zgI_28, zsI_28, zgI_29, zsI_29, zgI_47, zsI_47, zgI_49, zsI_49, zgI_51, zsI_51, zgI_53, zsI_53, zgI_54, zsI_54, zgI_55, zsI_55, zgI_58, zsI_58, zgI_76, zsI_76, zgI_79, zsI_79, zq_84_0_1, zq_84_0_2, zq_84_0_3, zq_84_0_4, zq_84_0_5, zq_84_0_6, zq_84_0_7, zh_84_0, hcu, hai, i1, f1, f2, n1, e1, e2]
            · unfold zLik at hl
              have q2 : k = 2 := by omega
              have q3 : 2 < zkd G (ztree G (zrun G ds).1) e := by omega
              subst q2
              simp (maxSteps := 500000) (disch := first | assumption | omega) only [zn0, zn1, Option.bind_some, zm_ai, zm_al, zm_av, zm_opt, zm_fw, zE_l, zE_r, nI_add, pk_mul, pk_sub, pk_div, pk_rem, zrem, zpm1, zB_i0, zB_i1, zB_ok, zB_T, zB_F, nI_toInt, zT_sub, zT_neg, if_true, if_false, zw_R, zw_RL, zw_I, zF_R, zw_same, zw_cell, zw_ne, zF_at, zF_ne, ↓reduceIte, zd_leT, zd_leF, zd_ltT, zd_ltF, zd_eqF, zd_n1, zd_n2, eq_self, not_true_eq_false, not_false_eq_true, zi_0, zi_1, zi_10, zi_17, zi_19, zi_20, zi_30, zi_48, zi_50, zi_52, zi_57, zi_59, zi_80, zi_93, zi_106, zi_110, zi_114, zx_0_0, zx_0_1, zx_0_2, zx_0_3, zx_0_4, zx_0_5, zx_0_6, zx_0_7, zx_0_8, zx_0_9, zx_0_10, zx_1_0, zx_1_1, zx_2_0, zx_2_1, zx_2_2, zx_2_3, zx_2_4, zx_2_5, zx_10_0, zx_10_1, zx_11_0, zx_11_1, zx_11_2, zx_11_3, zx_17_0, zx_19_0, zx_19_1, zx_19_2, zx_20_0, zx_20_1, zx_20_3, zx_20_4, zx_20_5, zx_20_6, zx_20_7, zx_20_8, zx_20_9, zx_30_0, zx_30_1, zx_30_4, zx_30_5, zx_48_0, zx_50_0, zx_52_0, zx_52_1, zx_52_2, zx_56_0, zx_56_1, zx_56_2, zx_57_0, zx_59_0, zx_80_3, zx_80_4, zx_80_5, zx_81_0, zx_81_1, zx_81_2, zx_81_3, zx_81_4, zx_81_5, zx_88_0, zx_88_1, zx_88_2, zx_93_3, zx_93_4, zx_93_5, zx_94_0, zx_94_1, zx_94_2, zx_94_3, zx_94_4, zx_94_5, zx_101_0, zx_101_1, zx_101_2, zx_106_0, zx_106_1, zx_106_2, zx_110_0, zx_110_1, zx_110_2, zx_114_0, zx_114_1, zx_114_2, zgI_9, zsI_9, zgI_16, zsI_16, zgI_18, zsI_18, zgI_21, zsI_21, zgI_22, zsI_22, zgI_23, zsI_23, zgI_24, zsI_24, zgI_25, zsI_25, zgI_26, zsI_26, zgI_27, zsI_27, zgI_28, zsI_28, zgI_29, zsI_29, zgI_47, zsI_47, zgI_49, zsI_49, zgI_51, zsI_51, zgI_53, zsI_53, zgI_54, zsI_54, zgI_55, zsI_55, zgI_58, zsI_58, zgI_76, zsI_76, zgI_79, zsI_79, zq_84_0_1, zq_84_0_2, zq_84_0_3, zq_84_0_4, zq_84_0_5, zq_84_0_6, zq_84_0_7, zh_84_0, hcu, hai, i1, f1, f2, n1, e1, e2]
          · obtain ⟨hF1, hR1, hT1, hKm, gG, gN, gB, gd, gb, gk, gp⟩ := id hM1
            obtain ⟨e1, e2, e3⟩ := mt σ1 hM1
            rw [zB_t hl] at e3
            obtain ⟨m1, m2, m3⟩ := gN.2 e he
            have gg := gG.2.1
            obtain ⟨a1, hst, a3⟩ := zedge he
            have hdv : nI e / nI G.2.1 = nI (e / G.2.1) := pk_div (by omega) (by omega) (by omega)
            have hn0 : (nI G.2.1 = nI 0) = False := zd_eqF (by omega) (by omega) (by omega)
            have hzt := zto_lt hv he
            have e4 : zM 224 [.ref 118, .int (nI e)] zL σ1 = some (some (.int (nI (zto G e))), zL, σ1) := m_endOf hF1 gG hv he
            obtain ⟨s1, s2, s3, s4⟩ := (gp h0).2.2 (e / G.2.1) (by omega)
            obtain ⟨u1, u2, u3, u4⟩ := (gp h0).2.2 (zto G e) (by omega)
            have s4 := s4 (hal _ hst)
            have u4 := u4 (hal _ hzt)
            have c1 := hTi.cnt
            have w1 := (hTi.2.2.1 _ (hal _ hst)).1
            have w2 := (hTi.2.2.1 _ (hal _ hzt)).1
            have f3 := hTi.far4 hv (hal _ hst)
            have f4 := hTi.far4 hv (hal _ hzt)
            have he15 : e < 15 := by omega
            have e5 := m_tells σ1 (nI (zmark G (ztree G (zrun G ds).1) e k)) (nI 1)
            have : k = 1 ∨ k = 2 ∨ k = 3 ∨ k = 4 := by omega
            rcases this with rfl | rfl | rfl | rfl
            · have hm : zmark G (ztree G (zrun G ds).1) e 1 = zlat (ztree G (zrun G ds).1) (e / G.2.1) (zto G e) := rfl
              rw [hm] at e5 ⊢
              by_cases q : (ztree G (zrun G ds).1).2.2.2.2.2 (e / G.2.1) ≤ (ztree G (zrun G ds).1).2.2.2.2.2 (zto G e)
              · have hz : zlat (ztree G (zrun G ds).1) (e / G.2.1) (zto G e) = zto G e := if_pos q
                rw [hz] at e5 ⊢
                simp (maxSteps := 500000) (disch := first | assumption | omega) only [zn0, zn1, Option.bind_some, zm_ai, zm_al, zm_av, zm_opt, zm_fw, zE_l, zE_r, nI_add, pk_mul, pk_sub, pk_div, pk_rem, zrem, zpm1, zB_i0, zB_i1, zB_ok, zB_T, zB_F, nI_toInt, zT_sub, zT_neg, if_true, if_false, zw_R, zw_RL, zw_I, zF_R, zw_same, zw_cell, zw_ne, zF_at, zF_ne, ↓reduceIte, zd_leT, zd_leF, zd_ltT, zd_ltF, zd_eqF, zd_n1, zd_n2, eq_self, not_true_eq_false, not_false_eq_true, zi_118, zx_118_0, zx_118_1, zx_118_2, zx_118_3, zx_118_7, zx_118_8, zx_118_9, zx_118_10, zx_118_11, zx_118_12, zx_118_13, zx_118_14, zx_118_15, zx_118_17, zx_118_18, zx_118_19, zx_118_21, zx_118_22, zx_118_24, zx_118_25, zx_118_30, zx_118_35, zx_118_36, zx_118_37, zx_118_38, zx_118_39, zx_118_41, zx_118_42, zx_118_44, zx_118_45, zx_118_46, zgI_119, zsI_119, zgI_120, zsI_120, zgI_121, zsI_121, zgI_122, zsI_122, zgI_123, zsI_123, zgI_124, zsI_124, zgI_125, zsI_125, zgI_126, zsI_126, zgI_127, zsI_127, zgI_128, zsI_128, zgI_129, zsI_129, zgI_130, zsI_130, zgI_131, zsI_131, zgI_132, zsI_132, zgI_133, zsI_133, zgI_134, zsI_134, zgI_135, zsI_135, zgI_136, zsI_136, zgI_137, zsI_137, zgI_139, zsI_139, zgI_140, zsI_140, zgI_141, zsI_141, zgI_142, zsI_142, zgI_143, zsI_143, zgI_144, zsI_144, zgI_145, zsI_145, zgI_146, zsI_146, zgI_147, zsI_147, zq_225_0_1, zq_225_0_2, zq_225_0_3, zq_225_0_4, zq_225_0_5, zq_225_0_6, zq_225_0_7, zq_225_0_8, zq_225_0_9, zq_225_0_10, zq_225_0_11, zq_225_0_12, zh_225_0, e1, e2, m1, e3, gg, hn0, hdv, e4, s4, u4, e5]
              · have hz : zlat (ztree G (zrun G ds).1) (e / G.2.1) (zto G e) = e / G.2.1 := if_neg q
                rw [hz] at e5 ⊢
                simp (maxSteps := 500000) (disch := first | assumption | omega) only [zn0, zn1, Option.bind_some, zm_ai, zm_al, zm_av, zm_opt, zm_fw, zE_l, zE_r, nI_add, pk_mul, pk_sub, pk_div, pk_rem, zrem, zpm1, zB_i0, zB_i1, zB_ok, zB_T, zB_F, nI_toInt, zT_sub, zT_neg, if_true, if_false, zw_R, zw_RL, zw_I, zF_R, zw_same, zw_cell, zw_ne, zF_at, zF_ne, ↓reduceIte, zd_leT, zd_leF, zd_ltT, zd_ltF, zd_eqF, zd_n1, zd_n2, eq_self, not_true_eq_false, not_false_eq_true, zi_118, zx_118_0, zx_118_1, zx_118_2, zx_118_3, zx_118_7, zx_118_8, zx_118_9, zx_118_10, zx_118_11, zx_118_12, zx_118_13, zx_118_14, zx_118_15, zx_118_17, zx_118_18, zx_118_19, zx_118_21, zx_118_22, zx_118_24, zx_118_25, zx_118_30, zx_118_35, zx_118_36, zx_118_37, zx_118_38, zx_118_39, zx_118_41, zx_118_42, zx_118_44, zx_118_45, zx_118_46, zgI_119, zsI_119, zgI_120, zsI_120, zgI_121, zsI_121, zgI_122, zsI_122, zgI_123, zsI_123, zgI_124, zsI_124, zgI_125, zsI_125, zgI_126, zsI_126, zgI_127, zsI_127, zgI_128, zsI_128, zgI_129, zsI_129, zgI_130, zsI_130, zgI_131, zsI_131, zgI_132, zsI_132, zgI_133, zsI_133, zgI_134, zsI_134, zgI_135, zsI_135, zgI_136, zsI_136, zgI_137, zsI_137, zgI_139, zsI_139, zgI_140, zsI_140, zgI_141, zsI_141, zgI_142, zsI_142, zgI_143, zsI_143, zgI_144, zsI_144, zgI_145, zsI_145, zgI_146, zsI_146, zgI_147, zsI_147, zq_225_0_1, zq_225_0_2, zq_225_0_3, zq_225_0_4, zq_225_0_5, zq_225_0_6, zq_225_0_7, zq_225_0_8, zq_225_0_9, zq_225_0_10, zq_225_0_11, zq_225_0_12, zh_225_0, e1, e2, m1, e3, gg, hn0, hdv, e4, s4, u4, e5]
            · have hm : zmark G (ztree G (zrun G ds).1) e 2 = (ztree G (zrun G ds).1).2.2.2.2.1 (e / G.2.1) + (ztree G (zrun G ds).1).2.2.2.2.1 (zto G e) + 1 := rfl
              rw [hm] at e5 ⊢
              simp (maxSteps := 500000) (disch := first | assumption | omega) only [zn0, zn1, Option.bind_some, zm_ai, zm_al, zm_av, zm_opt, zm_fw, zE_l, zE_r, nI_add, pk_mul, pk_sub, pk_div, pk_rem, zrem, zpm1, zB_i0, zB_i1, zB_ok, zB_T, zB_F, nI_toInt, zT_sub, zT_neg, if_true, if_false, zw_R, zw_RL, zw_I, zF_R, zw_same, zw_cell, zw_ne, zF_at, zF_ne, ↓reduceIte, zd_leT, zd_leF, zd_ltT, zd_ltF, zd_eqF, zd_n1, zd_n2, eq_self, not_true_eq_false, not_false_eq_true, zi_118, zx_118_0, zx_118_1, zx_118_2, zx_118_3, zx_118_7, zx_118_8, zx_118_9, zx_118_10, zx_118_11, zx_118_12, zx_118_13, zx_118_14, zx_118_15, zx_118_17, zx_118_18, zx_118_19, zx_118_21, zx_118_22, zx_118_24, zx_118_25, zx_118_30, zx_118_35, zx_118_36, zx_118_37, zx_118_38, zx_118_39, zx_118_41, zx_118_42, zx_118_44, zx_118_45, zx_118_46, zgI_119, zsI_119, zgI_120, zsI_120, zgI_121, zsI_121, zgI_122, zsI_122, zgI_123, zsI_123, zgI_124, zsI_124, zgI_125, zsI_125, zgI_126, zsI_126, zgI_127, zsI_127, zgI_128, zsI_128, zgI_129, zsI_129, zgI_130, zsI_130, zgI_131, zsI_131, zgI_132, zsI_132, zgI_133, zsI_133, zgI_134, zsI_134, zgI_135, zsI_135, zgI_136, zsI_136, zgI_137, zsI_137, zgI_139, zsI_139, zgI_140, zsI_140, zgI_141, zsI_141, zgI_142, zsI_142, zgI_143, zsI_143, zgI_144, zsI_144, zgI_145, zsI_145, zgI_146, zsI_146, zgI_147, zsI_147, zq_225_0_1, zq_225_0_2, zq_225_0_3, zq_225_0_4, zq_225_0_5, zq_225_0_6, zq_225_0_7, zq_225_0_8, zq_225_0_9, zq_225_0_10, zq_225_0_11, zq_225_0_12, zh_225_0, e1, e2, m1, e3, gg, hn0, hdv, e4, s3, u3, e5]
            · have e6 := m_loopsAt hF1 gG hv hst
              have hm : zmark G (ztree G (zrun G ds).1) e 3 = zlc G (e / G.2.1) G.2.1 := rfl
              rw [hm] at e5 ⊢
              simp (maxSteps := 500000) (disch := first | assumption | omega) only [zn0, zn1, Option.bind_some, zm_ai, zm_al, zm_av, zm_opt, zm_fw, zE_l, zE_r, nI_add, pk_mul, pk_sub, pk_div, pk_rem, zrem, zpm1, zB_i0, zB_i1, zB_ok, zB_T, zB_F, nI_toInt, zT_sub, zT_neg, if_true, if_false, zw_R, zw_RL, zw_I, zF_R, zw_same, zw_cell, zw_ne, zF_at, zF_ne, ↓reduceIte, zd_leT, zd_leF, zd_ltT, zd_ltF, zd_eqF, zd_n1, zd_n2, eq_self, not_true_eq_false, not_false_eq_true, zi_118, zx_118_0, zx_118_1, zx_118_2, zx_118_3, zx_118_7, zx_118_8, zx_118_9, zx_118_10, zx_118_11, zx_118_12, zx_118_13, zx_118_14, zx_118_15, zx_118_17, zx_118_18, zx_118_19, zx_118_21, zx_118_22, zx_118_24, zx_118_25, zx_118_30, zx_118_35, zx_118_36, zx_118_37, zx_118_38, zx_118_39, zx_118_41, zx_118_42, zx_118_44, zx_118_45, zx_118_46, zgI_119, zsI_119, zgI_120, zsI_120, zgI_121, zsI_121, zgI_122, zsI_122, zgI_123, zsI_123, zgI_124, zsI_124, zgI_125, zsI_125, zgI_126, zsI_126, zgI_127, zsI_127, zgI_128, zsI_128, zgI_129, zsI_129, zgI_130, zsI_130, zgI_131, zsI_131, zgI_132, zsI_132, zgI_133, zsI_133, zgI_134, zsI_134, zgI_135, zsI_135, zgI_136, zsI_136, zgI_137, zsI_137, zgI_139, zsI_139, zgI_140, zsI_140, zgI_141, zsI_141, zgI_142, zsI_142, zgI_143, zsI_143, zgI_144, zsI_144, zgI_145, zsI_145, zgI_146, zsI_146, zgI_147, zsI_147, zq_225_0_1, zq_225_0_2, zq_225_0_3, zq_225_0_4, zq_225_0_5, zq_225_0_6, zq_225_0_7, zq_225_0_8, zq_225_0_9, zq_225_0_10, zq_225_0_11, zq_225_0_12, zh_225_0, e1, e2, m1, e3, gg, hn0, hdv, e4, e6, e5]
            · have h4 : zkd G (ztree G (zrun G ds).1) e = 4 := by
                rcases hl with q | q
                · exact q
                · omega
              obtain ⟨p1, p2, p3⟩ := ztwin hv hTi hal he h4
              have e6 := m_branchBeside hF1 gG hv gN hTi hal he p1 p2 p3
              have hm : zmark G (ztree G (zrun G ds).1) e 4 = zbo G (ztree G (zrun G ds).1) (zlat (ztree G (zrun G ds).1) (e / G.2.1) (zto G e)) := rfl
              rw [hm] at e5 ⊢
              simp (maxSteps := 500000) (disch := first | assumption | omega) only [zn0, zn1, Option.bind_some, zm_ai, zm_al, zm_av, zm_opt, zm_fw, zE_l, zE_r, nI_add, pk_mul, pk_sub, pk_div, pk_rem, zrem, zpm1, zB_i0, zB_i1, zB_ok, zB_T, zB_F, nI_toInt, zT_sub, zT_neg, if_true, if_false, zw_R, zw_RL, zw_I, zF_R, zw_same, zw_cell, zw_ne, zF_at, zF_ne, ↓reduceIte, zd_leT, zd_leF, zd_ltT, zd_ltF, zd_eqF, zd_n1, zd_n2, eq_self, not_true_eq_false, not_false_eq_true, zi_118, zx_118_0, zx_118_1, zx_118_2, zx_118_3, zx_118_7, zx_118_8, zx_118_9, zx_118_10, zx_118_11, zx_118_12, zx_118_13, zx_118_14, zx_118_15, zx_118_17, zx_118_18, zx_118_19, zx_118_21, zx_118_22, zx_118_24, zx_118_25, zx_118_30, zx_118_35, zx_118_36, zx_118_37, zx_118_38, zx_118_39, zx_118_41, zx_118_42, zx_118_44, zx_118_45, zx_118_46, zgI_119, zsI_119, zgI_120, zsI_120, zgI_121, zsI_121, zgI_122, zsI_122, zgI_123, zsI_123, zgI_124, zsI_124, zgI_125, zsI_125, zgI_126, zsI_126, zgI_127, zsI_127, zgI_128, zsI_128, zgI_129, zsI_129, zgI_130, zsI_130, zgI_131, zsI_131, zgI_132, zsI_132, zgI_133, zsI_133, zgI_134, zsI_134, zgI_135, zsI_135, zgI_136, zsI_136, zgI_137, zsI_137, zgI_139, zsI_139, zgI_140, zsI_140, zgI_141, zsI_141, zgI_142, zsI_142, zgI_143, zsI_143, zgI_144, zsI_144, zgI_145, zsI_145, zgI_146, zsI_146, zgI_147, zsI_147, zq_225_0_1, zq_225_0_2, zq_225_0_3, zq_225_0_4, zq_225_0_5, zq_225_0_6, zq_225_0_7, zq_225_0_8, zq_225_0_9, zq_225_0_10, zq_225_0_11, zq_225_0_12, zh_225_0, e1, e2, m1, e3, gg, hn0, hdv, e4, e6, e5]
        · refine zCallV.of hV hV hM (v := .int (-3)) (zCo.found hC hV (f := 3) (by decide) (zS_eq (zS_of ze_84 ?_))) fun σ1 hM1 => zMo.found hM1 hV (by decide) (zS_eq (zS_of ze_225 ?_))
          · have e1 := c_found hF (f := 3) (by decide)
            unfold zLik at hl
            by_cases q2 : k = 2
            · subst q2
              have q1 : zkd G (ztree G (zrun G ds).1) e = 1 := by omega
              rw [q1] at n1
              simp (maxSteps := 500000) (disch := first | assumption | omega) only [zn0, zn1, Option.bind_some, zm_ai, zm_al, zm_av, zm_opt, zm_fw, zE_l, zE_r, nI_add, pk_mul, pk_sub, pk_div, pk_rem, zrem, zpm1, zB_i0, zB_i1, zB_ok, zB_T, zB_F, nI_toInt, zT_sub, zT_neg, if_true, if_false, zw_R, zw_RL, zw_I, zF_R, zw_same, zw_cell, zw_ne, zF_at, zF_ne, ↓reduceIte, zd_leT, zd_leF, zd_ltT, zd_ltF, zd_eqF, zd_n1, zd_n2, eq_self, not_true_eq_false, not_false_eq_true, zi_0, zi_1, zi_10, zi_17, zi_19, zi_20, zi_30, zi_48, zi_50, zi_52, zi_57, zi_59, zi_80, zi_93, zi_106, zi_110, zi_114, zx_0_0, zx_0_1, zx_0_2, zx_0_3, zx_0_4, zx_0_5, zx_0_6, zx_0_7, zx_0_8, zx_0_9, zx_0_10, zx_1_0, zx_1_1, zx_2_0, zx_2_1, zx_2_2, zx_2_3, zx_2_4, zx_2_5, zx_10_0, zx_10_1, zx_11_0, zx_11_1, zx_11_2, zx_11_3, zx_17_0, zx_19_0, zx_19_1, zx_19_2, zx_20_0, zx_20_1, zx_20_3, zx_20_4, zx_20_5, zx_20_6, zx_20_7, zx_20_8, zx_20_9, zx_30_0, zx_30_1, zx_30_4, zx_30_5, zx_48_0, zx_50_0, zx_52_0, zx_52_1, zx_52_2, zx_56_0, zx_56_1, zx_56_2, zx_57_0, zx_59_0, zx_80_3, zx_80_4, zx_80_5, zx_81_0, zx_81_1, zx_81_2, zx_81_3, zx_81_4, zx_81_5, zx_88_0, zx_88_1, zx_88_2, zx_93_3, zx_93_4, zx_93_5, zx_94_0, zx_94_1, zx_94_2, zx_94_3, zx_94_4, zx_94_5, zx_101_0, zx_101_1, zx_101_2, zx_106_0, zx_106_1, zx_106_2, zx_110_0, zx_110_1, zx_110_2, zx_114_0, zx_114_1, zx_114_2, zgI_9, zsI_9, zgI_16, zsI_16, zgI_18, zsI_18, zgI_21, zsI_21, zgI_22, zsI_22, zgI_23, zsI_23, zgI_24, zsI_24, zgI_25, zsI_25, zgI_26, zsI_26, zgI_27, zsI_27, zgI_28, zsI_28, zgI_29, zsI_29, zgI_47, zsI_47, zgI_49, zsI_49, zgI_51, zsI_51, zgI_53, zsI_53, zgI_54, zsI_54, zgI_55, zsI_55, zgI_58, zsI_58, zgI_76, zsI_76, zgI_79, zsI_79, zq_84_0_1, zq_84_0_2, zq_84_0_3, zq_84_0_4, zq_84_0_5, zq_84_0_6, zq_84_0_7, zh_84_0, hcu, hai, i1, f1, f2, n1, e1]
            · simp (maxSteps := 500000) (disch := first | assumption | omega) only [zn0, zn1, Option.bind_some, zm_ai, zm_al, zm_av, zm_opt, zm_fw, zE_l, zE_r, nI_add, pk_mul, pk_sub, pk_div, pk_rem, zrem, zpm1, zB_i0, zB_i1, zB_ok, zB_T, zB_F, nI_toInt, zT_sub, zT_neg, if_true, if_false, zw_R, zw_RL, zw_I, zF_R, zw_same, zw_cell, zw_ne, zF_at, zF_ne, ↓reduceIte, zd_leT, zd_leF, zd_ltT, zd_ltF, zd_eqF, zd_n1, zd_n2, eq_self, not_true_eq_false, not_false_eq_true, zi_0, zi_1, zi_10, zi_17, zi_19, zi_20, zi_30, zi_48, zi_50, zi_52, zi_57, zi_59, zi_80, zi_93, zi_106, zi_110, zi_114, zx_0_0, zx_0_1, zx_0_2, zx_0_3, zx_0_4, zx_0_5, zx_0_6, zx_0_7, zx_0_8, zx_0_9, zx_0_10, zx_1_0, zx_1_1, zx_2_0, zx_2_1, zx_2_2, zx_2_3, zx_2_4, zx_2_5, zx_10_0, zx_10_1, zx_11_0, zx_11_1, zx_11_2, zx_11_3, zx_17_0, zx_19_0, zx_19_1, zx_19_2, zx_20_0, zx_20_1, zx_20_3, zx_20_4, zx_20_5, zx_20_6, zx_20_7, zx_20_8, zx_20_9, zx_30_0, zx_30_1, zx_30_4, zx_30_5, zx_48_0, zx_50_0, zx_52_0, zx_52_1, zx_52_2, zx_56_0, zx_56_1, zx_56_2, zx_57_0, zx_59_0, zx_80_3, zx_80_4, zx_80_5, zx_81_0, zx_81_1, zx_81_2, zx_81_3, zx_81_4, zx_81_5, zx_88_0, zx_88_1, zx_88_2, zx_93_3, zx_93_4, zx_93_5, zx_94_0, zx_94_1, zx_94_2, zx_94_3, zx_94_4, zx_94_5, zx_101_0, zx_101_1, zx_101_2, zx_106_0, zx_106_1, zx_106_2, zx_110_0, zx_110_1, zx_110_2, zx_114_0, zx_114_1, zx_114_2, zgI_9, zsI_9, zgI_16, zsI_16, zgI_18, zsI_18, zgI_21, zsI_21, zgI_22, zsI_22, zgI_23, zsI_23, zgI_24, zsI_24, zgI_25, zsI_25, zgI_26, zsI_26, zgI_27, zsI_27, zgI_28, zsI_28, zgI_29, zsI_29, zgI_47, zsI_47, zgI_49, zsI_49, zgI_51, zsI_51, zgI_53, zsI_53, zgI_54, zsI_54, zgI_55, zsI_55, zgI_58, zsI_58, zgI_76, zsI_76, zgI_79, zsI_79, zq_84_0_1, zq_84_0_2, zq_84_0_3, zq_84_0_4, zq_84_0_5, zq_84_0_6, zq_84_0_7, zh_84_0, hcu, hai, i1, f1, f2, n1, e1]
          · obtain ⟨hF1, hR1, hT1, hKm, gG, gN, gB, gd, gb, gk, gp⟩ := id hM1
            obtain ⟨e1, e2, e3⟩ := mt σ1 hM1
            rw [zB_f hl] at e3
            obtain ⟨m1, m2, m3⟩ := gN.2 e he
            have he15 : e < 15 := by omega
            have e5 := m_found hF1 (f := 3) (by decide)
            simp (maxSteps := 500000) (disch := first | assumption | omega) only [zn0, zn1, Option.bind_some, zm_ai, zm_al, zm_av, zm_opt, zm_fw, zE_l, zE_r, nI_add, pk_mul, pk_sub, pk_div, pk_rem, zrem, zpm1, zB_i0, zB_i1, zB_ok, zB_T, zB_F, nI_toInt, zT_sub, zT_neg, if_true, if_false, zw_R, zw_RL, zw_I, zF_R, zw_same, zw_cell, zw_ne, zF_at, zF_ne, ↓reduceIte, zd_leT, zd_leF, zd_ltT, zd_ltF, zd_eqF, zd_n1, zd_n2, eq_self, not_true_eq_false, not_false_eq_true, zi_118, zx_118_0, zx_118_1, zx_118_2, zx_118_3, zx_118_7, zx_118_8, zx_118_9, zx_118_10, zx_118_11, zx_118_12, zx_118_13, zx_118_14, zx_118_15, zx_118_17, zx_118_18, zx_118_19, zx_118_21, zx_118_22, zx_118_24, zx_118_25, zx_118_30, zx_118_35, zx_118_36, zx_118_37, zx_118_38, zx_118_39, zx_118_41, zx_118_42, zx_118_44, zx_118_45, zx_118_46, zgI_119, zsI_119, zgI_120, zsI_120, zgI_121, zsI_121, zgI_122, zsI_122, zgI_123, zsI_123, zgI_124, zsI_124, zgI_125, zsI_125, zgI_126, zsI_126, zgI_127, zsI_127, zgI_128, zsI_128, zgI_129, zsI_129, zgI_130, zsI_130, zgI_131, zsI_131, zgI_132, zsI_132, zgI_133, zsI_133, zgI_134, zsI_134, zgI_135, zsI_135, zgI_136, zsI_136, zgI_137, zsI_137, zgI_139, zsI_139, zgI_140, zsI_140, zgI_141, zsI_141, zgI_142, zsI_142, zgI_143, zsI_143, zgI_144, zsI_144, zgI_145, zsI_145, zgI_146, zsI_146, zgI_147, zsI_147, zq_225_0_1, zq_225_0_2, zq_225_0_3, zq_225_0_4, zq_225_0_5, zq_225_0_6, zq_225_0_7, zq_225_0_8, zq_225_0_9, zq_225_0_10, zq_225_0_11, zq_225_0_12, zh_225_0, e1, e2, m1, e3, e5]
end ZMK
