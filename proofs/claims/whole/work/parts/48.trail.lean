/-! calls: undo, keep, on -/
section ZTR
variable {σ σ' : zm_Sig} {a : Nat} {G : zG} {ds : List zDd} {ks : zKs} {R T : zRo} {K : zK}
theorem zTo_i {r : Nat} (h : zTo r) : zm_is zL r 6 = some () := by rcases h with rfl | rfl | rfl | rfl <;> rfl
theorem zTo_f {r : Nat} (h : zTo r) (hF : zFix σ) : σ.2.2 r 0 = some (r + 1) ∧ σ.2.2 r 1 = some (r + 2) ∧ σ.2.2 r 2 = some (r + 3) := by
  rcases h with rfl | rfl | rfl | rfl
  · exact ⟨zx_52_0 hF, zx_52_1 hF, zx_52_2 hF⟩
  · exact ⟨zx_106_0 hF, zx_106_1 hF, zx_106_2 hF⟩
  · exact ⟨zx_110_0 hF, zx_110_1 hF, zx_110_2 hF⟩
  · exact ⟨zx_114_0 hF, zx_114_1 hF, zx_114_2 hF⟩
theorem zTo_L {r : Nat} (h : zTo r) : zL[r + 1]? = some (1, 20) ∧ zL[r + 2]? = some (1, 20) ∧ zL[r + 3]? = some (1, 20) := by
  rcases h with rfl | rfl | rfl | rfl <;> exact ⟨rfl, rfl, rfl⟩
theorem c_takeFrom {r s : Nat} (hr : zTo r) (hs : zTo s) (hrs : r ≠ s) (hF : zFix σ) (h : zTl σ s ds) (hl : ds.length ≤ 20) : ∃ σ', zM 131 [.ref r, .ref s] zL σ = some (none, zL, σ') ∧ zTl σ' r ds ∧ zKeep (zFL r) σ σ' := by
  obtain ⟨h1, h2⟩ := h
  obtain ⟨f1, f2, f3⟩ := zTo_f hr hF
  obtain ⟨f4, f5, f6⟩ := zTo_f hs hF
  obtain ⟨l1, l2, l3⟩ := zTo_L hr
  obtain ⟨l4, l5, l6⟩ := zTo_L hs
  have i1 := zTo_i hr
  have i2 := zTo_i hs
  have hsep : r + 4 ≤ s ∨ s + 4 ≤ r := by
    rcases hr with rfl | rfl | rfl | rfl <;> rcases hs with rfl | rfl | rfl | rfl <;> omega
  have c1 := zcpy_11 (σ := σ) l4 l1 (Nat.le_refl 20) (Nat.le_refl 20) (by decide)
  have c2 := fun σ' => zcpy_11 (σ := σ') l5 l2 (Nat.le_refl 20) (Nat.le_refl 20) (by decide)
  have c3 := fun σ' => zcpy_11 (σ := σ') l6 l3 (Nat.le_refl 20) (Nat.le_refl 20) (by decide)
  refine zS_ex (zS_of ze_131 ?_)
  simp (disch := first | assumption | omega) only [zn0, zn1, Option.bind_some, zm_ai, zm_al, zm_av, zm_opt, zm_fw, zE_l, zE_r, nI_add, pk_mul, pk_sub, pk_div, pk_rem, zrem, zpm1, zB_i0, zB_i1, zB_ok, zB_T, zB_F, nI_toInt, zT_sub, zT_neg, zT_le, zT_lt, nI_eq, zne1, zne2, zne9, ite_not, or_true, true_or, if_true, if_false, if_pos, if_neg, zw_R, zw_RL, zw_I, zF_R, zw_same, zw_cell, zw_ne, zF_at, zF_ne, zb_131_0, i1, i2, f1, f4, c1, f2, f5, c2, f3, f6, c3, h1]
  refine ⟨_, rfl, ⟨zw_same _ _ _ _, fun k hk => ?_⟩, ?_⟩
  · obtain ⟨g1, g2, g3⟩ := h2 k hk
    refine ⟨?_, ?_, ?_⟩
    · rw [zw_cell _ _ (by omega), zF_ne _ _ (by omega), zF_ne _ _ (by omega), zF_at]
      show (if _ then _ else _) = _
      rw [if_pos (by omega)]
      exact g1
    · rw [zw_cell _ _ (by omega), zF_ne _ _ (by omega), zF_at]
      show (if _ then _ else _) = _
      rw [if_pos (by omega), zF_ne _ _ (by omega)]
      exact g2
    · rw [zw_cell _ _ (by omega), zF_at]
      show (if _ then _ else _) = _
      rw [if_pos (by omega), zF_ne _ _ (by omega), zF_ne _ _ (by omega)]
      exact g3
  · refine ((((zKeep.rf (zFL r) σ).wF fun k => ?_).wF fun k => ?_).wF fun k => ?_).wI ?_ <;> simp [zFL]
theorem zdd_take {n k : Nat} (h : k < n) : zdd (ds.take n) k = zdd ds k := by
  unfold zdd
  rw [List.getD_eq_getElem?_getD, List.getD_eq_getElem?_getD, List.getElem?_take_of_lt h]
theorem zFB_P (hK : zKeep zFB σ σ') : zKeep zFP σ σ' := hK.mo fun x k q => by simp [zFP, q]
theorem zC.pi (h : zC σ a R T K G ds ks) : ∃ π, zPi σ π := by
  obtain ⟨hF, hR, hTx, hKc, ha, hcu, hsp, hG, hN, ⟨π, hCR⟩, -⟩ := h
  exact ⟨π, hCR.1⟩
theorem zVk.take (hV : zVk G ds ks) (n : Nat) : zVk G (ds.take n) ks := by
  obtain ⟨hv, h | h⟩ := hV
  · refine ⟨hv, Or.inl ⟨h.1, h.2.1, h.2.2.1, ?_, h.2.2.2.2⟩⟩
    rw [h.2.2.2.1, List.take_nil]
  · exact ⟨hv, Or.inr ⟨h.1, h.2.1.take n, h.2.2⟩⟩
theorem k_undo (n : Int32) (h : zInv σ) : zCallV 128 264 [.int n] σ := by
  obtain ⟨a, R, T, K, G, ds, ks, hC, hM, hV⟩ := h
  obtain ⟨hF, hR, hTx, hKc, ha, hcu, hsp, hG, hN, ⟨π, hCR⟩, hL, hO, hTl, hks, hpos, hzero, -⟩ := id hC
  have h20 := hV.len
  have t1 := hTl.1
  rcases z_cN n (ds.length + 1) (by omega) with hx | ⟨n, hn, rfl⟩
  · refine zCallV.of hV hV hM (v := .int (-nI 1)) (zCo.same hC (zS_eq (zS_of ze_128 ?_))) fun σ1 hM1 => zMo.same hM1 (zS_eq (zS_of ze_264 ?_))
    · rcases hx with hx | hx
      · simp (disch := first | assumption | omega) only [zn0, zn1, Option.bind_some, zm_ai, zm_al, zm_av, zm_opt, zm_fw, zE_l, zE_r, nI_add, pk_mul, pk_sub, pk_div, pk_rem, zrem, zpm1, zB_i0, zB_i1, zB_ok, zB_T, zB_F, nI_toInt, zT_sub, zT_neg, zT_le, zT_lt, nI_eq, zne1, zne2, zne9, ite_not, or_true, true_or, if_true, if_false, if_pos, if_neg, zw_R, zw_RL, zw_I, zF_R, zw_same, zw_cell, zw_ne, zF_at, zF_ne, zi_0, zi_1, zi_10, zi_17, zi_19, zi_20, zi_30, zi_48, zi_50, zi_52, zi_57, zi_59, zi_80, zi_93, zi_106, zi_110, zi_114, zx_0_0, zx_0_1, zx_0_2, zx_0_3, zx_0_4, zx_0_5, zx_0_6, zx_0_7, zx_0_8, zx_0_9, zx_0_10, zx_1_0, zx_1_1, zx_2_0, zx_2_1, zx_2_2, zx_2_3, zx_2_4, zx_2_5, zx_10_0, zx_10_1, zx_11_0, zx_11_1, zx_11_2, zx_11_3, zx_17_0, zx_19_0, zx_19_1, zx_19_2, zx_20_0, zx_20_1, zx_20_3, zx_20_4, zx_20_5, zx_20_6, zx_20_7, zx_20_8, zx_20_9, zx_30_0, zx_30_1, zx_30_4, zx_30_5, zx_48_0, zx_50_0, zx_52_0, zx_52_1, zx_52_2, zx_56_0, zx_56_1, zx_56_2, zx_57_0, zx_59_0, zx_80_3, zx_80_4, zx_80_5, zx_81_0, zx_81_1, zx_81_2, zx_81_3, zx_81_4, zx_81_5, zx_88_0, zx_88_1, zx_88_2, zx_93_3, zx_93_4, zx_93_5, zx_94_0, zx_94_1, zx_94_2, zx_94_3, zx_94_4, zx_94_5, zx_101_0, zx_101_1, zx_101_2, zx_106_0, zx_106_1, zx_106_2, zx_110_0, zx_110_1, zx_110_2, zx_114_0, zx_114_1, zx_114_2, zgI_9, zsI_9, zgI_16, zsI_16, zgI_18, zsI_18, zgI_21, zsI_21, zgI_22, zsI_22, zgI_23, zsI_23, zgI_24, zsI_24, zgI_25, zsI_25, zgI_26, zsI_26, zgI_27, zsI_27, zgI_28, zsI_28, zgI_29, zsI_29, zgI_47, zsI_47, zgI_49, zsI_49, zgI_51, zsI_51, zgI_53, zsI_53, zgI_54, zsI_54, zgI_55, zsI_55, zgI_58, zsI_58, zgI_76, zsI_76, zgI_79, zsI_79, zb_128_0]
      · have hx1 : (ds.length : Int) < n.toInt := by omega
        have hx2 : 0 ≤ n.toInt := by omega
        simp (disch := first | assumption | omega) only [zn0, zn1, Option.bind_some, zm_ai, zm_al, zm_av, zm_opt, zm_fw, zE_l, zE_r, nI_add, pk_mul, pk_sub, pk_div, pk_rem, zrem, zpm1, zB_i0, zB_i1, zB_ok, zB_T, zB_F, nI_toInt, zT_sub, zT_neg, zT_le, zT_lt, nI_eq, zne1, zne2, zne9, ite_not, or_true, true_or, if_true, if_false, if_pos, if_neg, zw_R, zw_RL, zw_I, zF_R, zw_same, zw_cell, zw_ne, zF_at, zF_ne, zi_0, zi_1, zi_10, zi_17, zi_19, zi_20, zi_30, zi_48, zi_50, zi_52, zi_57, zi_59, zi_80, zi_93, zi_106, zi_110, zi_114, zx_0_0, zx_0_1, zx_0_2, zx_0_3, zx_0_4, zx_0_5, zx_0_6, zx_0_7, zx_0_8, zx_0_9, zx_0_10, zx_1_0, zx_1_1, zx_2_0, zx_2_1, zx_2_2, zx_2_3, zx_2_4, zx_2_5, zx_10_0, zx_10_1, zx_11_0, zx_11_1, zx_11_2, zx_11_3, zx_17_0, zx_19_0, zx_19_1, zx_19_2, zx_20_0, zx_20_1, zx_20_3, zx_20_4, zx_20_5, zx_20_6, zx_20_7, zx_20_8, zx_20_9, zx_30_0, zx_30_1, zx_30_4, zx_30_5, zx_48_0, zx_50_0, zx_52_0, zx_52_1, zx_52_2, zx_56_0, zx_56_1, zx_56_2, zx_57_0, zx_59_0, zx_80_3, zx_80_4, zx_80_5, zx_81_0, zx_81_1, zx_81_2, zx_81_3, zx_81_4, zx_81_5, zx_88_0, zx_88_1, zx_88_2, zx_93_3, zx_93_4, zx_93_5, zx_94_0, zx_94_1, zx_94_2, zx_94_3, zx_94_4, zx_94_5, zx_101_0, zx_101_1, zx_101_2, zx_106_0, zx_106_1, zx_106_2, zx_110_0, zx_110_1, zx_110_2, zx_114_0, zx_114_1, zx_114_2, zgI_9, zsI_9, zgI_16, zsI_16, zgI_18, zsI_18, zgI_21, zsI_21, zgI_22, zsI_22, zgI_23, zsI_23, zgI_24, zsI_24, zgI_25, zsI_25, zgI_26, zsI_26, zgI_27, zsI_27, zgI_28, zsI_28, zgI_29, zsI_29, zgI_47, zsI_47, zgI_49, zsI_49, zgI_51, zsI_51, zgI_53, zsI_53, zgI_54, zsI_54, zgI_55, zsI_55, zgI_58, zsI_58, zgI_76, zsI_76, zgI_79, zsI_79, zb_128_0, t1]
    · obtain ⟨hF1, hR1, hT1, hKm, gG, gN, gB, gd, -⟩ := id hM1
      simp (disch := first | assumption | omega) only [zn0, zn1, Option.bind_some, zm_ai, zm_al, zm_av, zm_opt, zm_fw, zE_l, zE_r, nI_add, pk_mul, pk_sub, pk_div, pk_rem, zrem, zpm1, zB_i0, zB_i1, zB_ok, zB_T, zB_F, nI_toInt, zT_sub, zT_neg, zT_le, zT_lt, nI_eq, zne1, zne2, zne9, ite_not, or_true, true_or, if_true, if_false, if_pos, if_neg, zw_R, zw_RL, zw_I, zF_R, zw_same, zw_cell, zw_ne, zF_at, zF_ne, zi_118, zx_118_0, zx_118_1, zx_118_2, zx_118_3, zx_118_7, zx_118_8, zx_118_9, zx_118_10, zx_118_11, zx_118_12, zx_118_13, zx_118_14, zx_118_15, zx_118_17, zx_118_18, zx_118_19, zx_118_21, zx_118_22, zx_118_24, zx_118_25, zx_118_30, zx_118_35, zx_118_36, zx_118_37, zx_118_38, zx_118_39, zx_118_41, zx_118_42, zx_118_44, zx_118_45, zx_118_46, zgI_119, zsI_119, zgI_120, zsI_120, zgI_121, zsI_121, zgI_122, zsI_122, zgI_123, zsI_123, zgI_124, zsI_124, zgI_125, zsI_125, zgI_126, zsI_126, zgI_127, zsI_127, zgI_128, zsI_128, zgI_129, zsI_129, zgI_130, zsI_130, zgI_131, zsI_131, zgI_132, zsI_132, zgI_133, zsI_133, zgI_134, zsI_134, zgI_135, zsI_135, zgI_136, zsI_136, zgI_137, zsI_137, zgI_139, zsI_139, zgI_140, zsI_140, zgI_141, zsI_141, zgI_142, zsI_142, zgI_143, zsI_143, zgI_144, zsI_144, zgI_145, zsI_145, zgI_146, zsI_146, zgI_147, zsI_147, zb_264_0, m_inI, gd, not_true]
  · by_cases h0 : G.1 = 0
    · obtain ⟨z1, z2, z3, z4⟩ := hV.zero h0
      subst z3
      have : n = 0 := by simp at hn; exact hn
      subst this
      have h4 := hzero h0
      refine zCallV.of hV hV hM (v := .int (nI 0)) (a' := a) (R' := R) (T' := T) (K' := K) ?_ fun σ1 hM1 => ?_
      · have t1 : σ.1 52 3 = nI 0 := t1
        have ew : zm_wI σ 52 3 (nI 0) = σ := by
          rw [← t1]
          refine Prod.ext ?_ rfl
          funext x
          simp only [zm_wI, va_up, upd]
          split
          · next e => subst e; funext k; split
                      · next e2 => subst e2; rfl
                      · rfl
          · rfl
        have e1 : zM 51 [.ref 19, .int (nI 0)] zL σ = some (none, zL, σ) := by
          refine zS_eq (zS_of ze_51 ?_)
          simp (disch := first | assumption | omega) only [zn0, zn1, Option.bind_some, zm_ai, zm_al, zm_av, zm_opt, zm_fw, zE_l, zE_r, nI_add, pk_mul, pk_sub, pk_div, pk_rem, zrem, zpm1, zB_i0, zB_i1, zB_ok, zB_T, zB_F, nI_toInt, zT_sub, zT_neg, zT_le, zT_lt, nI_eq, zne1, zne2, zne9, ite_not, or_true, true_or, if_true, if_false, if_pos, if_neg, zw_R, zw_RL, zw_I, zF_R, zw_same, zw_cell, zw_ne, zF_at, zF_ne, zi_0, zi_1, zi_10, zi_17, zi_19, zi_20, zi_30, zi_48, zi_50, zi_52, zi_57, zi_59, zi_80, zi_93, zi_106, zi_110, zi_114, zx_0_0, zx_0_1, zx_0_2, zx_0_3, zx_0_4, zx_0_5, zx_0_6, zx_0_7, zx_0_8, zx_0_9, zx_0_10, zx_1_0, zx_1_1, zx_2_0, zx_2_1, zx_2_2, zx_2_3, zx_2_4, zx_2_5, zx_10_0, zx_10_1, zx_11_0, zx_11_1, zx_11_2, zx_11_3, zx_17_0, zx_19_0, zx_19_1, zx_19_2, zx_20_0, zx_20_1, zx_20_3, zx_20_4, zx_20_5, zx_20_6, zx_20_7, zx_20_8, zx_20_9, zx_30_0, zx_30_1, zx_30_4, zx_30_5, zx_48_0, zx_50_0, zx_52_0, zx_52_1, zx_52_2, zx_56_0, zx_56_1, zx_56_2, zx_57_0, zx_59_0, zx_80_3, zx_80_4, zx_80_5, zx_81_0, zx_81_1, zx_81_2, zx_81_3, zx_81_4, zx_81_5, zx_88_0, zx_88_1, zx_88_2, zx_93_3, zx_93_4, zx_93_5, zx_94_0, zx_94_1, zx_94_2, zx_94_3, zx_94_4, zx_94_5, zx_101_0, zx_101_1, zx_101_2, zx_106_0, zx_106_1, zx_106_2, zx_110_0, zx_110_1, zx_110_2, zx_114_0, zx_114_1, zx_114_2, zgI_9, zsI_9, zgI_16, zsI_16, zgI_18, zsI_18, zgI_21, zsI_21, zgI_22, zsI_22, zgI_23, zsI_23, zgI_24, zsI_24, zgI_25, zsI_25, zgI_26, zsI_26, zgI_27, zsI_27, zgI_28, zsI_28, zgI_29, zsI_29, zgI_47, zsI_47, zgI_49, zsI_49, zgI_51, zsI_51, zgI_53, zsI_53, zgI_54, zsI_54, zgI_55, zsI_55, zgI_58, zsI_58, zgI_76, zsI_76, zgI_79, zsI_79, zb_51_0, h4]
        have e2 : zM 129 [.ref 19] zL σ = some (none, zL, σ) := by
          refine zS_eq (zS_of ze_129 ?_)
          simp (disch := first | assumption | omega) only [zn0, zn1, Option.bind_some, zm_ai, zm_al, zm_av, zm_opt, zm_fw, zE_l, zE_r, nI_add, pk_mul, pk_sub, pk_div, pk_rem, zrem, zpm1, zB_i0, zB_i1, zB_ok, zB_T, zB_F, nI_toInt, zT_sub, zT_neg, zT_le, zT_lt, nI_eq, zne1, zne2, zne9, ite_not, or_true, true_or, if_true, if_false, if_pos, if_neg, zw_R, zw_RL, zw_I, zF_R, zw_same, zw_cell, zw_ne, zF_at, zF_ne, zi_0, zi_1, zi_10, zi_17, zi_19, zi_20, zi_30, zi_48, zi_50, zi_52, zi_57, zi_59, zi_80, zi_93, zi_106, zi_110, zi_114, zx_0_0, zx_0_1, zx_0_2, zx_0_3, zx_0_4, zx_0_5, zx_0_6, zx_0_7, zx_0_8, zx_0_9, zx_0_10, zx_1_0, zx_1_1, zx_2_0, zx_2_1, zx_2_2, zx_2_3, zx_2_4, zx_2_5, zx_10_0, zx_10_1, zx_11_0, zx_11_1, zx_11_2, zx_11_3, zx_17_0, zx_19_0, zx_19_1, zx_19_2, zx_20_0, zx_20_1, zx_20_3, zx_20_4, zx_20_5, zx_20_6, zx_20_7, zx_20_8, zx_20_9, zx_30_0, zx_30_1, zx_30_4, zx_30_5, zx_48_0, zx_50_0, zx_52_0, zx_52_1, zx_52_2, zx_56_0, zx_56_1, zx_56_2, zx_57_0, zx_59_0, zx_80_3, zx_80_4, zx_80_5, zx_81_0, zx_81_1, zx_81_2, zx_81_3, zx_81_4, zx_81_5, zx_88_0, zx_88_1, zx_88_2, zx_93_3, zx_93_4, zx_93_5, zx_94_0, zx_94_1, zx_94_2, zx_94_3, zx_94_4, zx_94_5, zx_101_0, zx_101_1, zx_101_2, zx_106_0, zx_106_1, zx_106_2, zx_110_0, zx_110_1, zx_110_2, zx_114_0, zx_114_1, zx_114_2, zgI_9, zsI_9, zgI_16, zsI_16, zgI_18, zsI_18, zgI_21, zsI_21, zgI_22, zsI_22, zgI_23, zsI_23, zgI_24, zsI_24, zgI_25, zsI_25, zgI_26, zsI_26, zgI_27, zsI_27, zgI_28, zsI_28, zgI_29, zsI_29, zgI_47, zsI_47, zgI_49, zsI_49, zgI_51, zsI_51, zgI_53, zsI_53, zgI_54, zsI_54, zgI_55, zsI_55, zgI_58, zsI_58, zgI_76, zsI_76, zgI_79, zsI_79, zb_129_0, e1]
          refine zW_of zg_129_7 ?_
          simp (disch := first | assumption | omega) only [zn0, zn1, Option.bind_some, zm_ai, zm_al, zm_av, zm_opt, zm_fw, zE_l, zE_r, nI_add, pk_mul, pk_sub, pk_div, pk_rem, zrem, zpm1, zB_i0, zB_i1, zB_ok, zB_T, zB_F, nI_toInt, zT_sub, zT_neg, zT_le, zT_lt, nI_eq, zne1, zne2, zne9, ite_not, or_true, true_or, if_true, if_false, if_pos, if_neg, zw_R, zw_RL, zw_I, zF_R, zw_same, zw_cell, zw_ne, zF_at, zF_ne, zi_0, zi_1, zi_10, zi_17, zi_19, zi_20, zi_30, zi_48, zi_50, zi_52, zi_57, zi_59, zi_80, zi_93, zi_106, zi_110, zi_114, zx_0_0, zx_0_1, zx_0_2, zx_0_3, zx_0_4, zx_0_5, zx_0_6, zx_0_7, zx_0_8, zx_0_9, zx_0_10, zx_1_0, zx_1_1, zx_2_0, zx_2_1, zx_2_2, zx_2_3, zx_2_4, zx_2_5, zx_10_0, zx_10_1, zx_11_0, zx_11_1, zx_11_2, zx_11_3, zx_17_0, zx_19_0, zx_19_1, zx_19_2, zx_20_0, zx_20_1, zx_20_3, zx_20_4, zx_20_5, zx_20_6, zx_20_7, zx_20_8, zx_20_9, zx_30_0, zx_30_1, zx_30_4, zx_30_5, zx_48_0, zx_50_0, zx_52_0, zx_52_1, zx_52_2, zx_56_0, zx_56_1, zx_56_2, zx_57_0, zx_59_0, zx_80_3, zx_80_4, zx_80_5, zx_81_0, zx_81_1, zx_81_2, zx_81_3, zx_81_4, zx_81_5, zx_88_0, zx_88_1, zx_88_2, zx_93_3, zx_93_4, zx_93_5, zx_94_0, zx_94_1, zx_94_2, zx_94_3, zx_94_4, zx_94_5, zx_101_0, zx_101_1, zx_101_2, zx_106_0, zx_106_1, zx_106_2, zx_110_0, zx_110_1, zx_110_2, zx_114_0, zx_114_1, zx_114_2, zgI_9, zsI_9, zgI_16, zsI_16, zgI_18, zsI_18, zgI_21, zsI_21, zgI_22, zsI_22, zgI_23, zsI_23, zgI_24, zsI_24, zgI_25, zsI_25, zgI_26, zsI_26, zgI_27, zsI_27, zgI_28, zsI_28, zgI_29, zsI_29, zgI_47, zsI_47, zgI_49, zsI_49, zgI_51, zsI_51, zgI_53, zsI_53, zgI_54, zsI_54, zgI_55, zsI_55, zgI_58, zsI_58, zgI_76, zsI_76, zgI_79, zsI_79, zb_129_7, t1]
        refine zCo.same hC (zS_eq (zS_of ze_128 ?_))
        simp (disch := first | assumption | omega) only [zn0, zn1, Option.bind_some, zm_ai, zm_al, zm_av, zm_opt, zm_fw, zE_l, zE_r, nI_add, pk_mul, pk_sub, pk_div, pk_rem, zrem, zpm1, zB_i0, zB_i1, zB_ok, zB_T, zB_F, nI_toInt, zT_sub, zT_neg, zT_le, zT_lt, nI_eq, zne1, zne2, zne9, ite_not, or_true, true_or, if_true, if_false, if_pos, if_neg, zw_R, zw_RL, zw_I, zF_R, zw_same, zw_cell, zw_ne, zF_at, zF_ne, zi_0, zi_1, zi_10, zi_17, zi_19, zi_20, zi_30, zi_48, zi_50, zi_52, zi_57, zi_59, zi_80, zi_93, zi_106, zi_110, zi_114, zx_0_0, zx_0_1, zx_0_2, zx_0_3, zx_0_4, zx_0_5, zx_0_6, zx_0_7, zx_0_8, zx_0_9, zx_0_10, zx_1_0, zx_1_1, zx_2_0, zx_2_1, zx_2_2, zx_2_3, zx_2_4, zx_2_5, zx_10_0, zx_10_1, zx_11_0, zx_11_1, zx_11_2, zx_11_3, zx_17_0, zx_19_0, zx_19_1, zx_19_2, zx_20_0, zx_20_1, zx_20_3, zx_20_4, zx_20_5, zx_20_6, zx_20_7, zx_20_8, zx_20_9, zx_30_0, zx_30_1, zx_30_4, zx_30_5, zx_48_0, zx_50_0, zx_52_0, zx_52_1, zx_52_2, zx_56_0, zx_56_1, zx_56_2, zx_57_0, zx_59_0, zx_80_3, zx_80_4, zx_80_5, zx_81_0, zx_81_1, zx_81_2, zx_81_3, zx_81_4, zx_81_5, zx_88_0, zx_88_1, zx_88_2, zx_93_3, zx_93_4, zx_93_5, zx_94_0, zx_94_1, zx_94_2, zx_94_3, zx_94_4, zx_94_5, zx_101_0, zx_101_1, zx_101_2, zx_106_0, zx_106_1, zx_106_2, zx_110_0, zx_110_1, zx_110_2, zx_114_0, zx_114_1, zx_114_2, zgI_9, zsI_9, zgI_16, zsI_16, zgI_18, zsI_18, zgI_21, zsI_21, zgI_22, zsI_22, zgI_23, zsI_23, zgI_24, zsI_24, zgI_25, zsI_25, zgI_26, zsI_26, zgI_27, zsI_27, zgI_28, zsI_28, zgI_29, zsI_29, zgI_47, zsI_47, zgI_49, zsI_49, zgI_51, zsI_51, zgI_53, zsI_53, zgI_54, zsI_54, zgI_55, zsI_55, zgI_58, zsI_58, zgI_76, zsI_76, zgI_79, zsI_79, zb_128_0, t1, ew, e2]
      · obtain ⟨hF1, hR1, hT1, hKm, gG, gN, gB, gd, -⟩ := id hM1
        have gd : σ1.1 118 23 = nI 0 := gd
        have ew : zm_wI σ1 118 23 (nI 0) = σ1 := by
          rw [← gd]
          refine Prod.ext ?_ rfl
          funext x
          simp only [zm_wI, va_up, upd]
          split
          · next e => subst e; funext k; split
                      · next e2 => subst e2; rfl
                      · rfl
          · rfl
        refine zMo.same hM1 (zS_eq (zS_of ze_264 ?_))
        simp (disch := first | assumption | omega) only [zn0, zn1, Option.bind_some, zm_ai, zm_al, zm_av, zm_opt, zm_fw, zE_l, zE_r, nI_add, pk_mul, pk_sub, pk_div, pk_rem, zrem, zpm1, zB_i0, zB_i1, zB_ok, zB_T, zB_F, nI_toInt, zT_sub, zT_neg, zT_le, zT_lt, nI_eq, zne1, zne2, zne9, ite_not, or_true, true_or, if_true, if_false, if_pos, if_neg, zw_R, zw_RL, zw_I, zF_R, zw_same, zw_cell, zw_ne, zF_at, zF_ne, zi_118, zx_118_0, zx_118_1, zx_118_2, zx_118_3, zx_118_7, zx_118_8, zx_118_9, zx_118_10, zx_118_11, zx_118_12, zx_118_13, zx_118_14, zx_118_15, zx_118_17, zx_118_18, zx_118_19, zx_118_21, zx_118_22, zx_118_24, zx_118_25, zx_118_30, zx_118_35, zx_118_36, zx_118_37, zx_118_38, zx_118_39, zx_118_41, zx_118_42, zx_118_44, zx_118_45, zx_118_46, zgI_119, zsI_119, zgI_120, zsI_120, zgI_121, zsI_121, zgI_122, zsI_122, zgI_123, zsI_123, zgI_124, zsI_124, zgI_125, zsI_125, zgI_126, zsI_126, zgI_127, zsI_127, zgI_128, zsI_128, zgI_129, zsI_129, zgI_130, zsI_130, zgI_131, zsI_131, zgI_132, zsI_132, zgI_133, zsI_133, zgI_134, zsI_134, zgI_135, zsI_135, zgI_136, zsI_136, zgI_137, zsI_137, zgI_139, zsI_139, zgI_140, zsI_140, zgI_141, zsI_141, zgI_142, zsI_142, zgI_143, zsI_143, zgI_144, zsI_144, zgI_145, zsI_145, zgI_146, zsI_146, zgI_147, zsI_147, zb_264_0, m_inI, gd, not_true, ew]
    · have h0 : 0 < G.1 := by omega
      obtain ⟨hk, hg, hgk⟩ := hV.pos h0
      have hV' := hV.take n
      refine zCallV.of hV hV' hM (v := .int (nI (ds.length - n))) (a' := a) (R' := R) (T' := T) (K' := K) ?_ fun σ1 hM1 => ?_
      · have hK0 : zKeep zFP σ (zm_wI σ 52 3 (nI n)) := (zKeep.rf _ _).wI rfl
        have hT0 : zTl (zm_wI σ 52 3 (nI n)) 52 (ds.take n) := ⟨by rw [zw_same, List.length_take, Nat.min_eq_left (by omega)], fun k hk => by
          rw [List.length_take] at hk
          rw [zdd_take (by omega), zw_cell _ _ (show (53 : Nat) ≠ 52 by decide), zw_cell _ _ (show (54 : Nat) ≠ 52 by decide), zw_cell _ _ (show (55 : Nat) ≠ 52 by decide)]
          exact hTl.2 k (by omega)⟩
        have hge := ha.ge
        obtain ⟨σ2, e2, hB2, hK2⟩ := c_replay (hK0.fix hF rfl) ha ((hK0.r rfl).trans (hpos h0).2) (hG.keep hV.1 hK0 (fun k _ => zFP_f (by omega)) (fun b k _ _ => zFP_f (by omega))) hk (hCR.1.keep hK0 (fun k => rfl)) hT0 (hg.take n)
        have hK : zKeep zFP σ σ2 := hK0.tr (zFB_P hK2)
        refine ⟨σ2, zS_eq (zS_of ze_128 ?_), hC.book hV h0 hK hB2 (hT0.keep hK2 rfl (fun b k _ _ => zFB_hi (by omega))), zFP_cls hK⟩
        have hF0 : zFix (zm_wI σ 52 3 (nI n)) := hF
        simp (disch := first | assumption | omega) only [zn0, zn1, Option.bind_some, zm_ai, zm_al, zm_av, zm_opt, zm_fw, zE_l, zE_r, nI_add, pk_mul, pk_sub, pk_div, pk_rem, zrem, zpm1, zB_i0, zB_i1, zB_ok, zB_T, zB_F, nI_toInt, zT_sub, zT_neg, zT_le, zT_lt, nI_eq, zne1, zne2, zne9, ite_not, or_true, true_or, if_true, if_false, if_pos, if_neg, zw_R, zw_RL, zw_I, zF_R, zw_same, zw_cell, zw_ne, zF_at, zF_ne, zi_0, zi_1, zi_10, zi_17, zi_19, zi_20, zi_30, zi_48, zi_50, zi_52, zi_57, zi_59, zi_80, zi_93, zi_106, zi_110, zi_114, zx_0_0, zx_0_1, zx_0_2, zx_0_3, zx_0_4, zx_0_5, zx_0_6, zx_0_7, zx_0_8, zx_0_9, zx_0_10, zx_1_0, zx_1_1, zx_2_0, zx_2_1, zx_2_2, zx_2_3, zx_2_4, zx_2_5, zx_10_0, zx_10_1, zx_11_0, zx_11_1, zx_11_2, zx_11_3, zx_17_0, zx_19_0, zx_19_1, zx_19_2, zx_20_0, zx_20_1, zx_20_3, zx_20_4, zx_20_5, zx_20_6, zx_20_7, zx_20_8, zx_20_9, zx_30_0, zx_30_1, zx_30_4, zx_30_5, zx_48_0, zx_50_0, zx_52_0, zx_52_1, zx_52_2, zx_56_0, zx_56_1, zx_56_2, zx_57_0, zx_59_0, zx_80_3, zx_80_4, zx_80_5, zx_81_0, zx_81_1, zx_81_2, zx_81_3, zx_81_4, zx_81_5, zx_88_0, zx_88_1, zx_88_2, zx_93_3, zx_93_4, zx_93_5, zx_94_0, zx_94_1, zx_94_2, zx_94_3, zx_94_4, zx_94_5, zx_101_0, zx_101_1, zx_101_2, zx_106_0, zx_106_1, zx_106_2, zx_110_0, zx_110_1, zx_110_2, zx_114_0, zx_114_1, zx_114_2, zgI_9, zsI_9, zgI_16, zsI_16, zgI_18, zsI_18, zgI_21, zsI_21, zgI_22, zsI_22, zgI_23, zsI_23, zgI_24, zsI_24, zgI_25, zsI_25, zgI_26, zsI_26, zgI_27, zsI_27, zgI_28, zsI_28, zgI_29, zsI_29, zgI_47, zsI_47, zgI_49, zsI_49, zgI_51, zsI_51, zgI_53, zsI_53, zgI_54, zsI_54, zgI_55, zsI_55, zgI_58, zsI_58, zgI_76, zsI_76, zgI_79, zsI_79, zb_128_0, t1, e2]
      · obtain ⟨hF1, hR1, hT1, hKm, gG, gN, gB, gd, gb, gk, gp⟩ := id hM1
        by_cases hnn : n = ds.length
        · subst hnn
          have ew : zm_wI σ1 118 23 (nI ds.length) = σ1 := by
            rw [← gd]
            refine Prod.ext ?_ rfl
            funext x
            simp only [zm_wI, va_up, upd]
            split
            · next e => subst e; funext k; split
                        · next e2 => subst e2; rfl
                        · rfl
            · rfl
          rw [List.take_length]
          refine zMo.same hM1 (zS_eq (zS_of ze_264 ?_))
          simp (disch := first | assumption | omega) only [zn0, zn1, Option.bind_some, zm_ai, zm_al, zm_av, zm_opt, zm_fw, zE_l, zE_r, nI_add, pk_mul, pk_sub, pk_div, pk_rem, zrem, zpm1, zB_i0, zB_i1, zB_ok, zB_T, zB_F, nI_toInt, zT_sub, zT_neg, zT_le, zT_lt, nI_eq, zne1, zne2, zne9, ite_not, or_true, true_or, if_true, if_false, if_pos, if_neg, zw_R, zw_RL, zw_I, zF_R, zw_same, zw_cell, zw_ne, zF_at, zF_ne, zi_118, zx_118_0, zx_118_1, zx_118_2, zx_118_3, zx_118_7, zx_118_8, zx_118_9, zx_118_10, zx_118_11, zx_118_12, zx_118_13, zx_118_14, zx_118_15, zx_118_17, zx_118_18, zx_118_19, zx_118_21, zx_118_22, zx_118_24, zx_118_25, zx_118_30, zx_118_35, zx_118_36, zx_118_37, zx_118_38, zx_118_39, zx_118_41, zx_118_42, zx_118_44, zx_118_45, zx_118_46, zgI_119, zsI_119, zgI_120, zsI_120, zgI_121, zsI_121, zgI_122, zsI_122, zgI_123, zsI_123, zgI_124, zsI_124, zgI_125, zsI_125, zgI_126, zsI_126, zgI_127, zsI_127, zgI_128, zsI_128, zgI_129, zsI_129, zgI_130, zsI_130, zgI_131, zsI_131, zgI_132, zsI_132, zgI_133, zsI_133, zgI_134, zsI_134, zgI_135, zsI_135, zgI_136, zsI_136, zgI_137, zsI_137, zgI_139, zsI_139, zgI_140, zsI_140, zgI_141, zsI_141, zgI_142, zsI_142, zgI_143, zsI_143, zgI_144, zsI_144, zgI_145, zsI_145, zgI_146, zsI_146, zgI_147, zsI_147, zb_264_0, m_inI, gd, not_true, ew]
        · have e1 := m_bring (σ := σ1) (s := 136) (d := 135) (ns := 5160) (nd := 258) rfl rfl (by decide) (by decide) (i := 258 * n) (j := 0) (n := 258) (by omega) (by omega) (Or.inl (by decide))
          generalize hσ2 : zm_wF σ1 135 (fun k => if 0 ≤ k ∧ k < 0 + 258 then σ1.1 136 (258 * n + (k - 0)) else σ1.1 135 k) = σ2 at e1
          have hK2 : zKeep zFMe σ1 σ2 := by
            rw [← hσ2]
            exact (zKeep.rf _ _).wF fun k => rfl
          have hok := hV'.bok
          have hb := hok.b
          have hB2 : zMB (σ2.1 135) (zrun G (ds.take n)) := (gb n (by omega)).eq hb.1 hb.2 fun i hi => by
            rw [← hσ2, zF_at]
            show (if _ then _ else _) = _
            rw [if_pos (by omega)]
            rfl
          have gG2 : zMG σ2 G := gG.keep hK2 ⟨rfl, rfl, rfl⟩ (fun k => ⟨rfl, rfl, rfl, rfl⟩)
          obtain ⟨σ3, e3, t3, n3, hK3⟩ := m_laysTree (hK2.fix hF1 rfl) gG2 hk hok.1 hB2.1
          have hK3' : zKeep zFMe σ2 σ3 := hK3.mo fun x k q => by
            simp only [zFML, zFMe, Bool.or_eq_true, Bool.and_eq_true, decide_eq_true_eq, beq_iff_eq] at q ⊢
            omega
          have hK13 := hK2.tr hK3'
          have hF3 := hK13.fix hF1 rfl
          have gd3 := (hK13.i (a := 118) (k := 23) rfl).trans gd
          have hB3 : zMB (σ3.1 135) (zrun G (ds.take n)) := hB2.eq hb.1 hb.2 fun i _ => hK3.i rfl
          generalize hσ4 : zm_wI σ3 118 23 (nI n) = σ4
          have hK4 : zKeep (fun x k => x == 118 && k == 23) σ3 σ4 := by
            rw [← hσ4]
            exact (zKeep.rf _ _).wI rfl
          have hK14 : zKeep (fun x k => zFMe x k || (x == 118 && k == 23)) σ1 σ4 := (hK13.mo fun x k q => by simp [q]).tr (hK4.mo fun x k q => by simp at q; simp [q])
          refine ⟨σ4, zS_eq (zS_of ze_264 ?_), ⟨hK14.fix hF1 rfl, hR1.keep hK14 (fun k => rfl) (fun k => rfl), hT1.keep hK14 (fun k => rfl) (fun k => rfl), hKm.keep hK14 ⟨rfl, rfl, rfl, rfl⟩ (fun k => rfl), gG.keep hK14 ⟨rfl, rfl, rfl⟩ (fun k => ⟨rfl, rfl, rfl, rfl⟩), n3.keep hK4 rfl (fun k => ⟨rfl, rfl, rfl⟩), hB3.eq hb.1 hb.2 (fun i _ => hK4.i rfl), ?_, fun j hj => ?_, fun k hk => ⟨fun q => (hK14.i rfl).trans ((gk k hk).1 q), fun l q => ?_⟩, fun _ => t3.keep hK4 rfl (fun k => ⟨rfl, rfl, rfl, rfl, rfl⟩)⟩, hK14.mo fun x k q => ?_⟩
          · simp (disch := first | assumption | omega) only [zn0, zn1, Option.bind_some, zm_ai, zm_al, zm_av, zm_opt, zm_fw, zE_l, zE_r, nI_add, pk_mul, pk_sub, pk_div, pk_rem, zrem, zpm1, zB_i0, zB_i1, zB_ok, zB_T, zB_F, nI_toInt, zT_sub, zT_neg, zT_le, zT_lt, nI_eq, zne1, zne2, zne9, ite_not, or_true, true_or, if_true, if_false, if_pos, if_neg, zw_R, zw_RL, zw_I, zF_R, zw_same, zw_cell, zw_ne, zF_at, zF_ne, zi_118, zx_118_0, zx_118_1, zx_118_2, zx_118_3, zx_118_7, zx_118_8, zx_118_9, zx_118_10, zx_118_11, zx_118_12, zx_118_13, zx_118_14, zx_118_15, zx_118_17, zx_118_18, zx_118_19, zx_118_21, zx_118_22, zx_118_24, zx_118_25, zx_118_30, zx_118_35, zx_118_36, zx_118_37, zx_118_38, zx_118_39, zx_118_41, zx_118_42, zx_118_44, zx_118_45, zx_118_46, zgI_119, zsI_119, zgI_120, zsI_120, zgI_121, zsI_121, zgI_122, zsI_122, zgI_123, zsI_123, zgI_124, zsI_124, zgI_125, zsI_125, zgI_126, zsI_126, zgI_127, zsI_127, zgI_128, zsI_128, zgI_129, zsI_129, zgI_130, zsI_130, zgI_131, zsI_131, zgI_132, zsI_132, zgI_133, zsI_133, zgI_134, zsI_134, zgI_135, zsI_135, zgI_136, zsI_136, zgI_137, zsI_137, zgI_139, zsI_139, zgI_140, zsI_140, zgI_141, zsI_141, zgI_142, zsI_142, zgI_143, zsI_143, zgI_144, zsI_144, zgI_145, zsI_145, zgI_146, zsI_146, zgI_147, zsI_147, zb_264_0, m_inI, gd, not_true, e1, e3, gd3, hσ4]
          · rw [← hσ4, zw_same, List.length_take, Nat.min_eq_left (by omega)]
          · rw [List.length_take] at hj
            rw [List.take_take, Nat.min_eq_left (by omega)]
            have hbj := (hV.tk (j := j) (by omega)).b
            exact (gb j (by omega)).eq hbj.1 hbj.2 fun i _ => hK14.i rfl
          · obtain ⟨g1, g2, g3, g4⟩ := (gk k hk).2 l q
            obtain ⟨hg, hl'⟩ := hV.kp q
            have hb := (hl'.full hg).b
            refine ⟨(hK14.i rfl).trans g1, (hK14.i rfl).trans g2, g3.eq hb.1 hb.2 (fun i _ => hK14.i rfl), fun j hj => ?_⟩
            have hb := (hl'.ok hg j (by omega)).b
            exact (g4 j hj).eq hb.1 hb.2 (fun i _ => hK14.i rfl)
          · simp only [zFMe, zRfs, Bool.or_eq_true, Bool.and_eq_true, decide_eq_true_eq, beq_iff_eq] at q ⊢
            omega
theorem zsZ_138 {j : Nat} (hj : j < 3) : zm_sZ zL σ 138 (nI j) (nI 1) = some (zm_wI σ 138 j (nI 1)) := by
  have ni : ¬ nI j < 0 := nI_pos (by omega)
  have ci : (nI j).toNatClampNeg = j := nI_clamp (by omega)
  unfold zm_sZ
  show (if nI j < 0 ∨ 3 ≤ (nI j).toNatClampNeg then none else some (zm_wI σ 138 (nI j).toNatClampNeg (vp_nar .boolean (nI 1)))) = _
  rw [ci, if_neg (by rintro (q | q); exact ni q; omega)]
  rfl
theorem zgZ_138 {j : Nat} (hj : j < 3) : zm_gZ zL σ 138 (nI j) = some (σ.1 138 j) := by
  have ni : ¬ nI j < 0 := nI_pos (by omega)
  have ci : (nI j).toNatClampNeg = j := nI_clamp (by omega)
  unfold zm_gZ
  show (if nI j < 0 ∨ 3 ≤ (nI j).toNatClampNeg then none else some (σ.1 138 (nI j).toNatClampNeg)) = _
  rw [ci, if_neg (by rintro (q | q); exact ni q; omega)]
theorem zgR_56 {j : Nat} (hF : zFix σ) (hj : j < 3) : zm_gR zL σ 56 (nI j) = some (some (106 + 4 * j)) := by
  have e : zm_gR zL σ 56 (nI j) = some (σ.2.2 56 j) := by
    have ni : ¬ nI j < 0 := nI_pos (by omega)
    have ci : (nI j).toNatClampNeg = j := nI_clamp (by omega)
    unfold zm_gR
    show (if nI j < 0 ∨ 3 ≤ (nI j).toNatClampNeg then none else some (σ.2.2 56 (nI j).toNatClampNeg)) = _
    rw [ci, if_neg (by rintro (q | q); exact ni q; omega)]
  rw [e]
  have : j = 0 ∨ j = 1 ∨ j = 2 := by omega
  rcases this with rfl | rfl | rfl
  · rw [zx_56_0 hF]
  · rw [zx_56_1 hF]
  · rw [zx_56_2 hF]
theorem zTo_k {j : Nat} (hj : j < 3) : zTo (106 + 4 * j) := by
  unfold zTo
  omega
def zks (ks : zKs) (k : Nat) (l : List zDd) : zKs := fun q => if q = k then some l else ks q
theorem zks_s (k : Nat) (l : List zDd) : zks ks k l k = some l := if_pos rfl
theorem zks_n {k q : Nat} (l : List zDd) (h : q ≠ k) : zks ks k l q = ks q := if_neg h
theorem k_keep (k : Int32) (h : zInv σ) : zCallV 130 265 [.int k] σ := by
  obtain ⟨a, R, T, K, G, ds, ks, hC, hM, hV⟩ := h
  obtain ⟨hF, hR, hTx, hKc, ha, hcu, hsp, hG, hN, ⟨π, hCR⟩, hL, hO, hTl, hks, hpos, hzero, ρ, hρ⟩ := id hC
  have h20 := hV.len
  have hai := zGo_i ha
  have hp := hG.1
  have h5 := hV.1.1
  have hge := ha.ge
  rcases z_cN k 3 (by omega) with hx | ⟨k, hk, rfl⟩
  · refine zCallV.of hV hV hM (v := .int (-nI 1)) (zCo.same hC (zS_eq (zS_of ze_130 ?_))) fun σ1 hM1 => zMo.same hM1 (zS_eq (zS_of ze_265 ?_))
    · rcases hx with hx | hx
      · simp (disch := first | assumption | omega) only [zn0, zn1, Option.bind_some, zm_ai, zm_al, zm_av, zm_opt, zm_fw, zE_l, zE_r, nI_add, pk_mul, pk_sub, pk_div, pk_rem, zrem, zpm1, zB_i0, zB_i1, zB_ok, zB_T, zB_F, nI_toInt, zT_sub, zT_neg, zT_le, zT_lt, nI_eq, zne1, zne2, zne9, ite_not, or_true, true_or, if_true, if_false, if_pos, if_neg, zw_R, zw_RL, zw_I, zF_R, zw_same, zw_cell, zw_ne, zF_at, zF_ne, zi_0, zi_1, zi_10, zi_17, zi_19, zi_20, zi_30, zi_48, zi_50, zi_52, zi_57, zi_59, zi_80, zi_93, zi_106, zi_110, zi_114, zx_0_0, zx_0_1, zx_0_2, zx_0_3, zx_0_4, zx_0_5, zx_0_6, zx_0_7, zx_0_8, zx_0_9, zx_0_10, zx_1_0, zx_1_1, zx_2_0, zx_2_1, zx_2_2, zx_2_3, zx_2_4, zx_2_5, zx_10_0, zx_10_1, zx_11_0, zx_11_1, zx_11_2, zx_11_3, zx_17_0, zx_19_0, zx_19_1, zx_19_2, zx_20_0, zx_20_1, zx_20_3, zx_20_4, zx_20_5, zx_20_6, zx_20_7, zx_20_8, zx_20_9, zx_30_0, zx_30_1, zx_30_4, zx_30_5, zx_48_0, zx_50_0, zx_52_0, zx_52_1, zx_52_2, zx_56_0, zx_56_1, zx_56_2, zx_57_0, zx_59_0, zx_80_3, zx_80_4, zx_80_5, zx_81_0, zx_81_1, zx_81_2, zx_81_3, zx_81_4, zx_81_5, zx_88_0, zx_88_1, zx_88_2, zx_93_3, zx_93_4, zx_93_5, zx_94_0, zx_94_1, zx_94_2, zx_94_3, zx_94_4, zx_94_5, zx_101_0, zx_101_1, zx_101_2, zx_106_0, zx_106_1, zx_106_2, zx_110_0, zx_110_1, zx_110_2, zx_114_0, zx_114_1, zx_114_2, zgI_9, zsI_9, zgI_16, zsI_16, zgI_18, zsI_18, zgI_21, zsI_21, zgI_22, zsI_22, zgI_23, zsI_23, zgI_24, zsI_24, zgI_25, zsI_25, zgI_26, zsI_26, zgI_27, zsI_27, zgI_28, zsI_28, zgI_29, zsI_29, zgI_47, zsI_47, zgI_49, zsI_49, zgI_51, zsI_51, zgI_53, zsI_53, zgI_54, zsI_54, zgI_55, zsI_55, zgI_58, zsI_58, zgI_76, zsI_76, zgI_79, zsI_79, zb_130_0]
      · simp (disch := first | assumption | omega) only [zn0, zn1, Option.bind_some, zm_ai, zm_al, zm_av, zm_opt, zm_fw, zE_l, zE_r, nI_add, pk_mul, pk_sub, pk_div, pk_rem, zrem, zpm1, zB_i0, zB_i1, zB_ok, zB_T, zB_F, nI_toInt, zT_sub, zT_neg, zT_le, zT_lt, nI_eq, zne1, zne2, zne9, ite_not, or_true, true_or, if_true, if_false, if_pos, if_neg, zw_R, zw_RL, zw_I, zF_R, zw_same, zw_cell, zw_ne, zF_at, zF_ne, zi_0, zi_1, zi_10, zi_17, zi_19, zi_20, zi_30, zi_48, zi_50, zi_52, zi_57, zi_59, zi_80, zi_93, zi_106, zi_110, zi_114, zx_0_0, zx_0_1, zx_0_2, zx_0_3, zx_0_4, zx_0_5, zx_0_6, zx_0_7, zx_0_8, zx_0_9, zx_0_10, zx_1_0, zx_1_1, zx_2_0, zx_2_1, zx_2_2, zx_2_3, zx_2_4, zx_2_5, zx_10_0, zx_10_1, zx_11_0, zx_11_1, zx_11_2, zx_11_3, zx_17_0, zx_19_0, zx_19_1, zx_19_2, zx_20_0, zx_20_1, zx_20_3, zx_20_4, zx_20_5, zx_20_6, zx_20_7, zx_20_8, zx_20_9, zx_30_0, zx_30_1, zx_30_4, zx_30_5, zx_48_0, zx_50_0, zx_52_0, zx_52_1, zx_52_2, zx_56_0, zx_56_1, zx_56_2, zx_57_0, zx_59_0, zx_80_3, zx_80_4, zx_80_5, zx_81_0, zx_81_1, zx_81_2, zx_81_3, zx_81_4, zx_81_5, zx_88_0, zx_88_1, zx_88_2, zx_93_3, zx_93_4, zx_93_5, zx_94_0, zx_94_1, zx_94_2, zx_94_3, zx_94_4, zx_94_5, zx_101_0, zx_101_1, zx_101_2, zx_106_0, zx_106_1, zx_106_2, zx_110_0, zx_110_1, zx_110_2, zx_114_0, zx_114_1, zx_114_2, zgI_9, zsI_9, zgI_16, zsI_16, zgI_18, zsI_18, zgI_21, zsI_21, zgI_22, zsI_22, zgI_23, zsI_23, zgI_24, zsI_24, zgI_25, zsI_25, zgI_26, zsI_26, zgI_27, zsI_27, zgI_28, zsI_28, zgI_29, zsI_29, zgI_47, zsI_47, zgI_49, zsI_49, zgI_51, zsI_51, zgI_53, zsI_53, zgI_54, zsI_54, zgI_55, zsI_55, zgI_58, zsI_58, zgI_76, zsI_76, zgI_79, zsI_79, zb_130_0]
    · simp (disch := first | assumption | omega) only [zn0, zn1, Option.bind_some, zm_ai, zm_al, zm_av, zm_opt, zm_fw, zE_l, zE_r, nI_add, pk_mul, pk_sub, pk_div, pk_rem, zrem, zpm1, zB_i0, zB_i1, zB_ok, zB_T, zB_F, nI_toInt, zT_sub, zT_neg, zT_le, zT_lt, nI_eq, zne1, zne2, zne9, ite_not, or_true, true_or, if_true, if_false, if_pos, if_neg, zw_R, zw_RL, zw_I, zF_R, zw_same, zw_cell, zw_ne, zF_at, zF_ne, zi_118, zx_118_0, zx_118_1, zx_118_2, zx_118_3, zx_118_7, zx_118_8, zx_118_9, zx_118_10, zx_118_11, zx_118_12, zx_118_13, zx_118_14, zx_118_15, zx_118_17, zx_118_18, zx_118_19, zx_118_21, zx_118_22, zx_118_24, zx_118_25, zx_118_30, zx_118_35, zx_118_36, zx_118_37, zx_118_38, zx_118_39, zx_118_41, zx_118_42, zx_118_44, zx_118_45, zx_118_46, zgI_119, zsI_119, zgI_120, zsI_120, zgI_121, zsI_121, zgI_122, zsI_122, zgI_123, zsI_123, zgI_124, zsI_124, zgI_125, zsI_125, zgI_126, zsI_126, zgI_127, zsI_127, zgI_128, zsI_128, zgI_129, zsI_129, zgI_130, zsI_130, zgI_131, zsI_131, zgI_132, zsI_132, zgI_133, zsI_133, zgI_134, zsI_134, zgI_135, zsI_135, zgI_136, zsI_136, zgI_137, zsI_137, zgI_139, zsI_139, zgI_140, zsI_140, zgI_141, zsI_141, zgI_142, zsI_142, zgI_143, zsI_143, zgI_144, zsI_144, zgI_145, zsI_145, zgI_146, zsI_146, zgI_147, zsI_147, zb_265_0, m_inI, not_true]
  · by_cases h0 : G.1 = 0
    · refine zCallV.of hV hV hM (v := .int (-4)) (zCo.same hC (zS_eq (zS_of ze_130 ?_))) fun σ1 hM1 => zMo.same hM1 (zS_eq (zS_of ze_265 ?_))
      · rw [h0] at hp
        simp (disch := first | assumption | omega) only [zn0, zn1, Option.bind_some, zm_ai, zm_al, zm_av, zm_opt, zm_fw, zE_l, zE_r, nI_add, pk_mul, pk_sub, pk_div, pk_rem, zrem, zpm1, zB_i0, zB_i1, zB_ok, zB_T, zB_F, nI_toInt, zT_sub, zT_neg, zT_le, zT_lt, nI_eq, zne1, zne2, zne9, ite_not, or_true, true_or, if_true, if_false, if_pos, if_neg, zw_R, zw_RL, zw_I, zF_R, zw_same, zw_cell, zw_ne, zF_at, zF_ne, zi_0, zi_1, zi_10, zi_17, zi_19, zi_20, zi_30, zi_48, zi_50, zi_52, zi_57, zi_59, zi_80, zi_93, zi_106, zi_110, zi_114, zx_0_0, zx_0_1, zx_0_2, zx_0_3, zx_0_4, zx_0_5, zx_0_6, zx_0_7, zx_0_8, zx_0_9, zx_0_10, zx_1_0, zx_1_1, zx_2_0, zx_2_1, zx_2_2, zx_2_3, zx_2_4, zx_2_5, zx_10_0, zx_10_1, zx_11_0, zx_11_1, zx_11_2, zx_11_3, zx_17_0, zx_19_0, zx_19_1, zx_19_2, zx_20_0, zx_20_1, zx_20_3, zx_20_4, zx_20_5, zx_20_6, zx_20_7, zx_20_8, zx_20_9, zx_30_0, zx_30_1, zx_30_4, zx_30_5, zx_48_0, zx_50_0, zx_52_0, zx_52_1, zx_52_2, zx_56_0, zx_56_1, zx_56_2, zx_57_0, zx_59_0, zx_80_3, zx_80_4, zx_80_5, zx_81_0, zx_81_1, zx_81_2, zx_81_3, zx_81_4, zx_81_5, zx_88_0, zx_88_1, zx_88_2, zx_93_3, zx_93_4, zx_93_5, zx_94_0, zx_94_1, zx_94_2, zx_94_3, zx_94_4, zx_94_5, zx_101_0, zx_101_1, zx_101_2, zx_106_0, zx_106_1, zx_106_2, zx_110_0, zx_110_1, zx_110_2, zx_114_0, zx_114_1, zx_114_2, zgI_9, zsI_9, zgI_16, zsI_16, zgI_18, zsI_18, zgI_21, zsI_21, zgI_22, zsI_22, zgI_23, zsI_23, zgI_24, zsI_24, zgI_25, zsI_25, zgI_26, zsI_26, zgI_27, zsI_27, zgI_28, zsI_28, zgI_29, zsI_29, zgI_47, zsI_47, zgI_49, zsI_49, zgI_51, zsI_51, zgI_53, zsI_53, zgI_54, zsI_54, zgI_55, zsI_55, zgI_58, zsI_58, zgI_76, zsI_76, zgI_79, zsI_79, zb_130_0, hcu, hai, hp, not_true]
      · obtain ⟨hF1, hR1, hT1, hKm, gG, gN, gB, gd, -⟩ := id hM1
        have gp := gG.1
        rw [h0] at gp
        simp (disch := first | assumption | omega) only [zn0, zn1, Option.bind_some, zm_ai, zm_al, zm_av, zm_opt, zm_fw, zE_l, zE_r, nI_add, pk_mul, pk_sub, pk_div, pk_rem, zrem, zpm1, zB_i0, zB_i1, zB_ok, zB_T, zB_F, nI_toInt, zT_sub, zT_neg, zT_le, zT_lt, nI_eq, zne1, zne2, zne9, ite_not, or_true, true_or, if_true, if_false, if_pos, if_neg, zw_R, zw_RL, zw_I, zF_R, zw_same, zw_cell, zw_ne, zF_at, zF_ne, zi_118, zx_118_0, zx_118_1, zx_118_2, zx_118_3, zx_118_7, zx_118_8, zx_118_9, zx_118_10, zx_118_11, zx_118_12, zx_118_13, zx_118_14, zx_118_15, zx_118_17, zx_118_18, zx_118_19, zx_118_21, zx_118_22, zx_118_24, zx_118_25, zx_118_30, zx_118_35, zx_118_36, zx_118_37, zx_118_38, zx_118_39, zx_118_41, zx_118_42, zx_118_44, zx_118_45, zx_118_46, zgI_119, zsI_119, zgI_120, zsI_120, zgI_121, zsI_121, zgI_122, zsI_122, zgI_123, zsI_123, zgI_124, zsI_124, zgI_125, zsI_125, zgI_126, zsI_126, zgI_127, zsI_127, zgI_128, zsI_128, zgI_129, zsI_129, zgI_130, zsI_130, zgI_131, zsI_131, zgI_132, zsI_132, zgI_133, zsI_133, zgI_134, zsI_134, zgI_135, zsI_135, zgI_136, zsI_136, zgI_137, zsI_137, zgI_139, zsI_139, zgI_140, zsI_140, zgI_141, zsI_141, zgI_142, zsI_142, zgI_143, zsI_143, zgI_144, zsI_144, zgI_145, zsI_145, zgI_146, zsI_146, zgI_147, zsI_147, zb_265_0, m_inI, not_true, gp]
    · have h0 : 0 < G.1 := by omega
      obtain ⟨hgk, hgd, hgks⟩ := hV.pos h0
      have hV' : zVk G ds (zks ks k ds) := ⟨hV.1, Or.inr ⟨hgk, hgd, fun q l e => by
        by_cases e2 : q = k
        · rw [e2, zks_s] at e
          cases e
          exact hgd
        · rw [zks_n _ e2] at e
          exact hgks q l e⟩⟩
      refine zCallV.of hV hV' hM (v := .int (nI ds.length)) (a' := a) (R' := R) (T' := T) (K' := K) ?_ fun σ1 hM1 => ?_
      · obtain ⟨σ1, e1, t1, hK1⟩ := c_takeFrom (zTo_k hk) (Or.inl rfl) (by omega) hF hTl h20
        have hS : ∀ {x q}, (x ≤ 105 ∨ 118 ≤ x ∨ (x < 106 + 4 * k) ∨ (106 + 4 * k + 3 < x) ∨ (x = 106 + 4 * k ∧ q ≠ 3)) → zFL (106 + 4 * k) x q = false := fun {x q} hb => zff fun e => by
          simp only [zFL, Bool.or_eq_true, Bool.and_eq_true, decide_eq_true_eq, beq_iff_eq] at e
          omega
        have hF1 : zFix σ1 := by
          have : k = 0 ∨ k = 1 ∨ k = 2 := by omega
          rcases this with rfl | rfl | rfl
          · exact hK1.fix hF rfl
          · exact hK1.fix hF rfl
          · exact hK1.fix hF rfl
        have s1 := t1.1
        refine ⟨σ1, zS_eq (zS_of ze_130 ?_), ⟨hF1, hR.keep hK1 (fun k => hS (by omega)) (fun r k hr => hS (by omega)), hTx.keep hK1 (fun k => hS (by omega)) (fun r k hr => hS (by omega)), hKc.keep hK1 ⟨hS (by omega), hS (by omega), hS (by omega), hS (by omega)⟩ (fun k => hS (by omega)), ha, (hK1.r (hS (by omega))).trans hcu, (hK1.r (hS (by omega))).trans hsp, hG.keep hV.1 hK1 (fun k _ => hS (by unfold zGo at ha; omega)) (fun b k _ _ => hS (by unfold zGo at ha; omega)), hN.keep hK1 (hS (by omega)) (fun k => ⟨hS (by omega), hS (by omega), hS (by omega)⟩), ⟨π, hCR.keep hV.bok.2.1.1 hK1 (fun x k _ _ => hS (by omega)) (hS (by omega))⟩, (hK1.i (hS (by omega))).trans hL, (hK1.i (hS (by omega))).trans hO, hTl.keep hK1 (hS (by omega)) (fun b k _ _ => hS (by omega)), fun q hq => ?_, fun _ => ⟨(hpos h0).1.keep hK1 (hS (by omega)) (fun k => ⟨hS (by omega), hS (by omega), hS (by omega), hS (by omega), hS (by omega)⟩), (hK1.r (hS (by omega))).trans (hpos h0).2⟩, fun q => by omega, ρ, fun i hi => (hK1.r (hS (by omega))).trans (hρ.1 i hi), hρ.2⟩, hK1.mo fun x q e => ?_⟩
        · simp (disch := first | assumption | omega) only [zn0, zn1, Option.bind_some, zm_ai, zm_al, zm_av, zm_opt, zm_fw, zE_l, zE_r, nI_add, pk_mul, pk_sub, pk_div, pk_rem, zrem, zpm1, zB_i0, zB_i1, zB_ok, zB_T, zB_F, nI_toInt, zT_sub, zT_neg, zT_le, zT_lt, nI_eq, zne1, zne2, zne9, ite_not, or_true, true_or, if_true, if_false, if_pos, if_neg, zw_R, zw_RL, zw_I, zF_R, zw_same, zw_cell, zw_ne, zF_at, zF_ne, zi_0, zi_1, zi_10, zi_17, zi_19, zi_20, zi_30, zi_48, zi_50, zi_52, zi_57, zi_59, zi_80, zi_93, zi_106, zi_110, zi_114, zx_0_0, zx_0_1, zx_0_2, zx_0_3, zx_0_4, zx_0_5, zx_0_6, zx_0_7, zx_0_8, zx_0_9, zx_0_10, zx_1_0, zx_1_1, zx_2_0, zx_2_1, zx_2_2, zx_2_3, zx_2_4, zx_2_5, zx_10_0, zx_10_1, zx_11_0, zx_11_1, zx_11_2, zx_11_3, zx_17_0, zx_19_0, zx_19_1, zx_19_2, zx_20_0, zx_20_1, zx_20_3, zx_20_4, zx_20_5, zx_20_6, zx_20_7, zx_20_8, zx_20_9, zx_30_0, zx_30_1, zx_30_4, zx_30_5, zx_48_0, zx_50_0, zx_52_0, zx_52_1, zx_52_2, zx_56_0, zx_56_1, zx_56_2, zx_57_0, zx_59_0, zx_80_3, zx_80_4, zx_80_5, zx_81_0, zx_81_1, zx_81_2, zx_81_3, zx_81_4, zx_81_5, zx_88_0, zx_88_1, zx_88_2, zx_93_3, zx_93_4, zx_93_5, zx_94_0, zx_94_1, zx_94_2, zx_94_3, zx_94_4, zx_94_5, zx_101_0, zx_101_1, zx_101_2, zx_106_0, zx_106_1, zx_106_2, zx_110_0, zx_110_1, zx_110_2, zx_114_0, zx_114_1, zx_114_2, zgI_9, zsI_9, zgI_16, zsI_16, zgI_18, zsI_18, zgI_21, zsI_21, zgI_22, zsI_22, zgI_23, zsI_23, zgI_24, zsI_24, zgI_25, zsI_25, zgI_26, zsI_26, zgI_27, zsI_27, zgI_28, zsI_28, zgI_29, zsI_29, zgI_47, zsI_47, zgI_49, zsI_49, zgI_51, zsI_51, zgI_53, zsI_53, zgI_54, zsI_54, zgI_55, zsI_55, zgI_58, zsI_58, zgI_76, zsI_76, zgI_79, zsI_79, zb_130_0, hcu, hai, hp, not_false, zgR_56, zTo_i (zTo_k hk), e1, s1]
        · by_cases e : q = k
          · subst e
            rw [zks_s]
            exact ⟨fun e => (by cases e), fun l e => (by cases e; exact t1)⟩
          · rw [zks_n _ e]
            exact ⟨fun e => (hK1.i (hS (by omega))).trans ((hks q hq).1 e), fun l e => ((hks q hq).2 l e).keep hK1 (hS (by omega)) (fun b k _ _ => hS (by omega))⟩
        · simp only [zFL, zCls, Bool.or_eq_true, Bool.and_eq_true, decide_eq_true_eq, beq_iff_eq] at e ⊢
          omega
      · obtain ⟨hF1, hR1, hT1, hKm, gG, gN, gB, gd, gb, gk, gp⟩ := id hM1
        have gp0 := gG.1
        generalize hσa : zm_wI (zm_wI σ1 138 k (nI 1)) 137 (5419 * k) (nI ds.length) = σa
        have hKa : zKeep (fun x _ => x == 137 || x == 138) σ1 σa := by
          rw [← hσa]
          exact ((zKeep.rf _ _).wI rfl).wI rfl
        have e1 := m_bring (σ := σa) (s := 135) (d := 137) (ns := 258) (nd := 16257) rfl rfl (by decide) (by decide) (i := 0) (j := 5419 * k + 1) (n := 258) (by omega) (by omega) (Or.inl (by decide))
        generalize hσb : zm_wF σa 137 (fun q => if 5419 * k + 1 ≤ q ∧ q < 5419 * k + 1 + 258 then σa.1 135 (0 + (q - (5419 * k + 1))) else σa.1 137 q) = σb at e1
        have hKb : zKeep (fun x _ => x == 137 || x == 138) σa σb := by
          rw [← hσb]
          exact (zKeep.rf _ _).wF fun k => rfl
        have e2 := m_bring (σ := σb) (s := 136) (d := 137) (ns := 5160) (nd := 16257) rfl rfl (by decide) (by decide) (i := 0) (j := 5419 * k + 1 + 258) (n := 5160) (by omega) (by omega) (Or.inl (by decide))
        generalize hσc : zm_wF σb 137 (fun q => if 5419 * k + 1 + 258 ≤ q ∧ q < 5419 * k + 1 + 258 + 5160 then σb.1 136 (0 + (q - (5419 * k + 1 + 258))) else σb.1 137 q) = σc at e2
        have hKc : zKeep (fun x _ => x == 137 || x == 138) σb σc := by
          rw [← hσc]
          exact (zKeep.rf _ _).wF fun k => rfl
        have hK := hKa.tr (hKb.tr hKc)
        have f137 : ∀ q, σc.1 137 q = if 5419 * k + 259 ≤ q ∧ q < 5419 * k + 259 + 5160 then σ1.1 136 (q - (5419 * k + 259)) else if 5419 * k + 1 ≤ q ∧ q < 5419 * k + 259 then σ1.1 135 (q - (5419 * k + 1)) else if q = 5419 * k then nI ds.length else σ1.1 137 q := by
          intro q
          rw [← hσc, zF_at]
          show (if _ then _ else _) = _
          have h136 : σb.1 136 = σ1.1 136 := (hKb.cell fun k => rfl).trans (hKa.cell fun k => rfl)
          have h135 : σa.1 135 = σ1.1 135 := hKa.cell fun k => rfl
          by_cases c1 : 5419 * k + 259 ≤ q ∧ q < 5419 * k + 259 + 5160
          · rw [if_pos (by omega), if_pos c1, h136]
            congr 1
            omega
          · rw [if_neg (by omega), if_neg c1, ← hσb, zF_at]
            show (if _ then _ else _) = _
            by_cases c2 : 5419 * k + 1 ≤ q ∧ q < 5419 * k + 259
            · rw [if_pos (by omega), if_pos c2, h135]
              congr 1
              omega
            · rw [if_neg (by omega), if_neg c2, ← hσa, zwx]
              split
              · rfl
              · rw [zw_cell _ _ (by decide)]
        have f138 : ∀ q, σc.1 138 q = if q = k then nI 1 else σ1.1 138 q := by
          intro q
          rw [← hσc, zF_ne _ _ (by decide), ← hσb, zF_ne _ _ (by decide), ← hσa, zw_cell _ _ (by decide), zwx]
        have gdc := (hK.i (a := 118) (k := 23) rfl).trans gd
        have hFa : zFix σa := hKa.fix hF1 rfl
        have hFb : zFix σb := hKb.fix hFa rfl
        have hFc := hKc.fix hFb rfl
        have hb := hV.bok.b
        refine ⟨σc, zS_eq (zS_of ze_265 ?_), ⟨hFc, hR1.keep hK (fun k => rfl) (fun k => rfl), hT1.keep hK (fun k => rfl) (fun k => rfl), hKm.keep hK ⟨rfl, rfl, rfl, rfl⟩ (fun k => rfl), gG.keep hK ⟨rfl, rfl, rfl⟩ (fun k => ⟨rfl, rfl, rfl, rfl⟩), gN.keep hK rfl (fun k => ⟨rfl, rfl, rfl⟩), gB.eq hb.1 hb.2 (fun i _ => hK.i rfl), gdc, fun j hj => ?_, fun q hq => ?_, fun q => (gp q).keep hK rfl (fun k => ⟨rfl, rfl, rfl, rfl, rfl⟩)⟩, hK.mo fun x q e => ?_⟩
        · simp (disch := first | assumption | omega) only [zn0, zn1, Option.bind_some, zm_ai, zm_al, zm_av, zm_opt, zm_fw, zE_l, zE_r, nI_add, pk_mul, pk_sub, pk_div, pk_rem, zrem, zpm1, zB_i0, zB_i1, zB_ok, zB_T, zB_F, nI_toInt, zT_sub, zT_neg, zT_le, zT_lt, nI_eq, zne1, zne2, zne9, ite_not, or_true, true_or, if_true, if_false, if_pos, if_neg, zw_R, zw_RL, zw_I, zF_R, zw_same, zw_cell, zw_ne, zF_at, zF_ne, zi_118, zx_118_0, zx_118_1, zx_118_2, zx_118_3, zx_118_7, zx_118_8, zx_118_9, zx_118_10, zx_118_11, zx_118_12, zx_118_13, zx_118_14, zx_118_15, zx_118_17, zx_118_18, zx_118_19, zx_118_21, zx_118_22, zx_118_24, zx_118_25, zx_118_30, zx_118_35, zx_118_36, zx_118_37, zx_118_38, zx_118_39, zx_118_41, zx_118_42, zx_118_44, zx_118_45, zx_118_46, zgI_119, zsI_119, zgI_120, zsI_120, zgI_121, zsI_121, zgI_122, zsI_122, zgI_123, zsI_123, zgI_124, zsI_124, zgI_125, zsI_125, zgI_126, zsI_126, zgI_127, zsI_127, zgI_128, zsI_128, zgI_129, zsI_129, zgI_130, zsI_130, zgI_131, zsI_131, zgI_132, zsI_132, zgI_133, zsI_133, zgI_134, zsI_134, zgI_135, zsI_135, zgI_136, zsI_136, zgI_137, zsI_137, zgI_139, zsI_139, zgI_140, zsI_140, zgI_141, zsI_141, zgI_142, zsI_142, zgI_143, zsI_143, zgI_144, zsI_144, zgI_145, zsI_145, zgI_146, zsI_146, zgI_147, zsI_147, zb_265_0, m_inI, not_true, not_false, gp0, zsZ_138, gd, hσa, e1, e2, gdc]
        · have hbj := (hV.tk (j := j) (by omega)).b
          exact (gb j hj).eq hbj.1 hbj.2 fun i _ => hK.i rfl
        · rw [f138]
          by_cases e : q = k
          · subst e
            rw [zks_s, if_pos rfl]
            refine ⟨fun e => (by cases e), fun l e => ?_⟩
            cases e
            refine ⟨rfl, ?_, gB.eq hb.1 hb.2 fun i hi => ?_, fun j hj => ?_⟩
            · rw [f137, if_neg (by omega), if_neg (by omega), if_pos rfl]
            · rw [f137, if_neg (by omega), if_pos (by omega)]
              congr 1
              omega
            · have hbj := (hV.tk (j := j) (by omega)).b
              refine (gb j hj).eq hbj.1 hbj.2 fun i hi => ?_
              rw [f137, if_pos (by omega)]
              congr 1
              omega
          · rw [zks_n _ e, if_neg e]
            refine ⟨(gk q hq).1, fun l el => ?_⟩
            obtain ⟨g1, g2, g3, g4⟩ := (gk q hq).2 l el
            obtain ⟨hg, hl'⟩ := hV.kp el
            have hl20 := hl'.1
            have hb := (hl'.full hg).b
            have f137' : ∀ i, i < 5419 → σc.1 137 (5419 * q + i) = σ1.1 137 (5419 * q + i) := fun i hi => by
              rw [f137, if_neg (by omega), if_neg (by omega), if_neg (by omega)]
            refine ⟨g1, by have := f137' 0 (by omega); rw [Nat.add_zero] at this; rw [this]; exact g2, g3.eq hb.1 hb.2 (fun i hi => by rw [Nat.add_assoc]; exact f137' (1 + i) (by omega)), fun j hj => ?_⟩
            have hb := (hl'.ok hg j (by omega)).b
            refine (g4 j hj).eq hb.1 hb.2 fun i hi => ?_
            rw [show 5419 * q + 259 + 258 * j + i = 5419 * q + (259 + 258 * j + i) by omega]
            exact f137' _ (by omega)
        · simp only [zRfs, Bool.or_eq_true, beq_iff_eq, decide_eq_true_eq] at e ⊢
          omega
theorem k_on (k : Int32) (h : zInv σ) : zCallV 132 266 [.int k] σ := by
  obtain ⟨a, R, T, K, G, ds, ks, hC, hM, hV⟩ := h
  obtain ⟨hF, hR, hTx, hKc, ha, hcu, hsp, hG, hN, ⟨π, hCR⟩, hL, hO, hTl, hks, hpos, hzero, ρ, hρ⟩ := id hC
  have h20 := hV.len
  have hge := ha.ge
  rcases z_cN k 3 (by omega) with hx | ⟨k, hk, rfl⟩
  · refine zCallV.of hV hV hM (v := .int (-nI 1)) (zCo.same hC (zS_eq (zS_of ze_132 ?_))) fun σ1 hM1 => zMo.same hM1 (zS_eq (zS_of ze_266 ?_))
    · rcases hx with hx | hx
      · simp (disch := first | assumption | omega) only [zn0, zn1, Option.bind_some, zm_ai, zm_al, zm_av, zm_opt, zm_fw, zE_l, zE_r, nI_add, pk_mul, pk_sub, pk_div, pk_rem, zrem, zpm1, zB_i0, zB_i1, zB_ok, zB_T, zB_F, nI_toInt, zT_sub, zT_neg, zT_le, zT_lt, nI_eq, zne1, zne2, zne9, ite_not, or_true, true_or, if_true, if_false, if_pos, if_neg, zw_R, zw_RL, zw_I, zF_R, zw_same, zw_cell, zw_ne, zF_at, zF_ne, zi_0, zi_1, zi_10, zi_17, zi_19, zi_20, zi_30, zi_48, zi_50, zi_52, zi_57, zi_59, zi_80, zi_93, zi_106, zi_110, zi_114, zx_0_0, zx_0_1, zx_0_2, zx_0_3, zx_0_4, zx_0_5, zx_0_6, zx_0_7, zx_0_8, zx_0_9, zx_0_10, zx_1_0, zx_1_1, zx_2_0, zx_2_1, zx_2_2, zx_2_3, zx_2_4, zx_2_5, zx_10_0, zx_10_1, zx_11_0, zx_11_1, zx_11_2, zx_11_3, zx_17_0, zx_19_0, zx_19_1, zx_19_2, zx_20_0, zx_20_1, zx_20_3, zx_20_4, zx_20_5, zx_20_6, zx_20_7, zx_20_8, zx_20_9, zx_30_0, zx_30_1, zx_30_4, zx_30_5, zx_48_0, zx_50_0, zx_52_0, zx_52_1, zx_52_2, zx_56_0, zx_56_1, zx_56_2, zx_57_0, zx_59_0, zx_80_3, zx_80_4, zx_80_5, zx_81_0, zx_81_1, zx_81_2, zx_81_3, zx_81_4, zx_81_5, zx_88_0, zx_88_1, zx_88_2, zx_93_3, zx_93_4, zx_93_5, zx_94_0, zx_94_1, zx_94_2, zx_94_3, zx_94_4, zx_94_5, zx_101_0, zx_101_1, zx_101_2, zx_106_0, zx_106_1, zx_106_2, zx_110_0, zx_110_1, zx_110_2, zx_114_0, zx_114_1, zx_114_2, zgI_9, zsI_9, zgI_16, zsI_16, zgI_18, zsI_18, zgI_21, zsI_21, zgI_22, zsI_22, zgI_23, zsI_23, zgI_24, zsI_24, zgI_25, zsI_25, zgI_26, zsI_26, zgI_27, zsI_27, zgI_28, zsI_28, zgI_29, zsI_29, zgI_47, zsI_47, zgI_49, zsI_49, zgI_51, zsI_51, zgI_53, zsI_53, zgI_54, zsI_54, zgI_55, zsI_55, zgI_58, zsI_58, zgI_76, zsI_76, zgI_79, zsI_79, zb_132_0]
      · simp (disch := first | assumption | omega) only [zn0, zn1, Option.bind_some, zm_ai, zm_al, zm_av, zm_opt, zm_fw, zE_l, zE_r, nI_add, pk_mul, pk_sub, pk_div, pk_rem, zrem, zpm1, zB_i0, zB_i1, zB_ok, zB_T, zB_F, nI_toInt, zT_sub, zT_neg, zT_le, zT_lt, nI_eq, zne1, zne2, zne9, ite_not, or_true, true_or, if_true, if_false, if_pos, if_neg, zw_R, zw_RL, zw_I, zF_R, zw_same, zw_cell, zw_ne, zF_at, zF_ne, zi_0, zi_1, zi_10, zi_17, zi_19, zi_20, zi_30, zi_48, zi_50, zi_52, zi_57, zi_59, zi_80, zi_93, zi_106, zi_110, zi_114, zx_0_0, zx_0_1, zx_0_2, zx_0_3, zx_0_4, zx_0_5, zx_0_6, zx_0_7, zx_0_8, zx_0_9, zx_0_10, zx_1_0, zx_1_1, zx_2_0, zx_2_1, zx_2_2, zx_2_3, zx_2_4, zx_2_5, zx_10_0, zx_10_1, zx_11_0, zx_11_1, zx_11_2, zx_11_3, zx_17_0, zx_19_0, zx_19_1, zx_19_2, zx_20_0, zx_20_1, zx_20_3, zx_20_4, zx_20_5, zx_20_6, zx_20_7, zx_20_8, zx_20_9, zx_30_0, zx_30_1, zx_30_4, zx_30_5, zx_48_0, zx_50_0, zx_52_0, zx_52_1, zx_52_2, zx_56_0, zx_56_1, zx_56_2, zx_57_0, zx_59_0, zx_80_3, zx_80_4, zx_80_5, zx_81_0, zx_81_1, zx_81_2, zx_81_3, zx_81_4, zx_81_5, zx_88_0, zx_88_1, zx_88_2, zx_93_3, zx_93_4, zx_93_5, zx_94_0, zx_94_1, zx_94_2, zx_94_3, zx_94_4, zx_94_5, zx_101_0, zx_101_1, zx_101_2, zx_106_0, zx_106_1, zx_106_2, zx_110_0, zx_110_1, zx_110_2, zx_114_0, zx_114_1, zx_114_2, zgI_9, zsI_9, zgI_16, zsI_16, zgI_18, zsI_18, zgI_21, zsI_21, zgI_22, zsI_22, zgI_23, zsI_23, zgI_24, zsI_24, zgI_25, zsI_25, zgI_26, zsI_26, zgI_27, zsI_27, zgI_28, zsI_28, zgI_29, zsI_29, zgI_47, zsI_47, zgI_49, zsI_49, zgI_51, zsI_51, zgI_53, zsI_53, zgI_54, zsI_54, zgI_55, zsI_55, zgI_58, zsI_58, zgI_76, zsI_76, zgI_79, zsI_79, zb_132_0]
    · simp (disch := first | assumption | omega) only [zn0, zn1, Option.bind_some, zm_ai, zm_al, zm_av, zm_opt, zm_fw, zE_l, zE_r, nI_add, pk_mul, pk_sub, pk_div, pk_rem, zrem, zpm1, zB_i0, zB_i1, zB_ok, zB_T, zB_F, nI_toInt, zT_sub, zT_neg, zT_le, zT_lt, nI_eq, zne1, zne2, zne9, ite_not, or_true, true_or, if_true, if_false, if_pos, if_neg, zw_R, zw_RL, zw_I, zF_R, zw_same, zw_cell, zw_ne, zF_at, zF_ne, zi_118, zx_118_0, zx_118_1, zx_118_2, zx_118_3, zx_118_7, zx_118_8, zx_118_9, zx_118_10, zx_118_11, zx_118_12, zx_118_13, zx_118_14, zx_118_15, zx_118_17, zx_118_18, zx_118_19, zx_118_21, zx_118_22, zx_118_24, zx_118_25, zx_118_30, zx_118_35, zx_118_36, zx_118_37, zx_118_38, zx_118_39, zx_118_41, zx_118_42, zx_118_44, zx_118_45, zx_118_46, zgI_119, zsI_119, zgI_120, zsI_120, zgI_121, zsI_121, zgI_122, zsI_122, zgI_123, zsI_123, zgI_124, zsI_124, zgI_125, zsI_125, zgI_126, zsI_126, zgI_127, zsI_127, zgI_128, zsI_128, zgI_129, zsI_129, zgI_130, zsI_130, zgI_131, zsI_131, zgI_132, zsI_132, zgI_133, zsI_133, zgI_134, zsI_134, zgI_135, zsI_135, zgI_136, zsI_136, zgI_137, zsI_137, zgI_139, zsI_139, zgI_140, zsI_140, zgI_141, zsI_141, zgI_142, zsI_142, zgI_143, zsI_143, zgI_144, zsI_144, zgI_145, zsI_145, zgI_146, zsI_146, zgI_147, zsI_147, zb_266_0, m_inI, not_true]
  · have hki := zTo_i (zTo_k hk)
    cases e : ks k with
    | none =>
      have s1 := (hks k hk).1 e
      refine zCallV.of hV hV hM (v := .int (-3)) (zCo.found hC hV (f := 1) (by decide) (zS_eq (zS_of ze_132 ?_))) fun σ1 hM1 => zMo.found hM1 hV (by decide) (zS_eq (zS_of ze_266 ?_))
      · have e1 := c_found hF (f := 1) (by decide)
        simp (disch := first | assumption | omega) only [zn0, zn1, Option.bind_some, zm_ai, zm_al, zm_av, zm_opt, zm_fw, zE_l, zE_r, nI_add, pk_mul, pk_sub, pk_div, pk_rem, zrem, zpm1, zB_i0, zB_i1, zB_ok, zB_T, zB_F, nI_toInt, zT_sub, zT_neg, zT_le, zT_lt, nI_eq, zne1, zne2, zne9, ite_not, or_true, true_or, if_true, if_false, if_pos, if_neg, zw_R, zw_RL, zw_I, zF_R, zw_same, zw_cell, zw_ne, zF_at, zF_ne, zi_0, zi_1, zi_10, zi_17, zi_19, zi_20, zi_30, zi_48, zi_50, zi_52, zi_57, zi_59, zi_80, zi_93, zi_106, zi_110, zi_114, zx_0_0, zx_0_1, zx_0_2, zx_0_3, zx_0_4, zx_0_5, zx_0_6, zx_0_7, zx_0_8, zx_0_9, zx_0_10, zx_1_0, zx_1_1, zx_2_0, zx_2_1, zx_2_2, zx_2_3, zx_2_4, zx_2_5, zx_10_0, zx_10_1, zx_11_0, zx_11_1, zx_11_2, zx_11_3, zx_17_0, zx_19_0, zx_19_1, zx_19_2, zx_20_0, zx_20_1, zx_20_3, zx_20_4, zx_20_5, zx_20_6, zx_20_7, zx_20_8, zx_20_9, zx_30_0, zx_30_1, zx_30_4, zx_30_5, zx_48_0, zx_50_0, zx_52_0, zx_52_1, zx_52_2, zx_56_0, zx_56_1, zx_56_2, zx_57_0, zx_59_0, zx_80_3, zx_80_4, zx_80_5, zx_81_0, zx_81_1, zx_81_2, zx_81_3, zx_81_4, zx_81_5, zx_88_0, zx_88_1, zx_88_2, zx_93_3, zx_93_4, zx_93_5, zx_94_0, zx_94_1, zx_94_2, zx_94_3, zx_94_4, zx_94_5, zx_101_0, zx_101_1, zx_101_2, zx_106_0, zx_106_1, zx_106_2, zx_110_0, zx_110_1, zx_110_2, zx_114_0, zx_114_1, zx_114_2, zgI_9, zsI_9, zgI_16, zsI_16, zgI_18, zsI_18, zgI_21, zsI_21, zgI_22, zsI_22, zgI_23, zsI_23, zgI_24, zsI_24, zgI_25, zsI_25, zgI_26, zsI_26, zgI_27, zsI_27, zgI_28, zsI_28, zgI_29, zsI_29, zgI_47, zsI_47, zgI_49, zsI_49, zgI_51, zsI_51, zgI_53, zsI_53, zgI_54, zsI_54, zgI_55, zsI_55, zgI_58, zsI_58, zgI_76, zsI_76, zgI_79, zsI_79, zb_132_0, zgR_56, hki, s1, not_true, e1]
      · obtain ⟨hF1, hR1, hT1, hKm, gG, gN, gB, gd, gb, gk, gp⟩ := id hM1
        have g1 := (gk k hk).1 e
        have e1 := m_found hF1 (f := 1) (by decide)
        simp (disch := first | assumption | omega) only [zn0, zn1, Option.bind_some, zm_ai, zm_al, zm_av, zm_opt, zm_fw, zE_l, zE_r, nI_add, pk_mul, pk_sub, pk_div, pk_rem, zrem, zpm1, zB_i0, zB_i1, zB_ok, zB_T, zB_F, nI_toInt, zT_sub, zT_neg, zT_le, zT_lt, nI_eq, zne1, zne2, zne9, ite_not, or_true, true_or, if_true, if_false, if_pos, if_neg, zw_R, zw_RL, zw_I, zF_R, zw_same, zw_cell, zw_ne, zF_at, zF_ne, zi_118, zx_118_0, zx_118_1, zx_118_2, zx_118_3, zx_118_7, zx_118_8, zx_118_9, zx_118_10, zx_118_11, zx_118_12, zx_118_13, zx_118_14, zx_118_15, zx_118_17, zx_118_18, zx_118_19, zx_118_21, zx_118_22, zx_118_24, zx_118_25, zx_118_30, zx_118_35, zx_118_36, zx_118_37, zx_118_38, zx_118_39, zx_118_41, zx_118_42, zx_118_44, zx_118_45, zx_118_46, zgI_119, zsI_119, zgI_120, zsI_120, zgI_121, zsI_121, zgI_122, zsI_122, zgI_123, zsI_123, zgI_124, zsI_124, zgI_125, zsI_125, zgI_126, zsI_126, zgI_127, zsI_127, zgI_128, zsI_128, zgI_129, zsI_129, zgI_130, zsI_130, zgI_131, zsI_131, zgI_132, zsI_132, zgI_133, zsI_133, zgI_134, zsI_134, zgI_135, zsI_135, zgI_136, zsI_136, zgI_137, zsI_137, zgI_139, zsI_139, zgI_140, zsI_140, zgI_141, zsI_141, zgI_142, zsI_142, zgI_143, zsI_143, zgI_144, zsI_144, zgI_145, zsI_145, zgI_146, zsI_146, zgI_147, zsI_147, zb_266_0, m_inI, not_true, zgZ_138, g1, e1]
    | some l =>
      obtain ⟨hgk, hgl⟩ := hV.kp e
      have h0 : 0 < G.1 := by have := hgk.2.2.1; omega
      have hl20 := hgl.1
      have t1 := (hks k hk).2 l e
      have s1 := t1.1
      have hV' : zVk G l ks := ⟨hV.1, Or.inr ⟨hgk, hgl, (hV.pos h0).2.2⟩⟩
      refine zCallV.of hV hV' hM (v := .int (nI l.length)) (a' := a) (R' := R) (T' := T) (K' := K) ?_ fun σ1 hM1 => ?_
      · obtain ⟨σ1, e1, t2, hK1⟩ := c_takeFrom (Or.inl rfl) (zTo_k hk) (by omega) hF t1 hl20
        have hK1' : zKeep zFP σ σ1 := hK1.mo fun x q e => by simp [zFP, e]
        have hF1 := hK1'.fix hF rfl
        obtain ⟨σ2, e2, hB2, hK2⟩ := c_replay hF1 ha ((hK1'.r rfl).trans (hpos h0).2) (hG.keep hV.1 hK1' (fun k _ => zFP_f (by omega)) (fun b k _ _ => zFP_f (by omega))) hgk (hCR.1.keep hK1 (fun k => rfl)) t2 hgl
        have hK : zKeep zFP σ σ2 := hK1'.tr (zFB_P hK2)
        have t3 := t2.keep hK2 rfl (fun b k _ _ => zFB_hi (by omega))
        have s3 := t3.1
        have hF2 := hK.fix hF rfl
        refine ⟨σ2, zS_eq (zS_of ze_132 ?_), hC.book hV h0 hK hB2 t3, zFP_cls hK⟩
        simp (disch := first | assumption | omega) only [zn0, zn1, Option.bind_some, zm_ai, zm_al, zm_av, zm_opt, zm_fw, zE_l, zE_r, nI_add, pk_mul, pk_sub, pk_div, pk_rem, zrem, zpm1, zB_i0, zB_i1, zB_ok, zB_T, zB_F, nI_toInt, zT_sub, zT_neg, zT_le, zT_lt, nI_eq, zne1, zne2, zne9, ite_not, or_true, true_or, if_true, if_false, if_pos, if_neg, zw_R, zw_RL, zw_I, zF_R, zw_same, zw_cell, zw_ne, zF_at, zF_ne, zi_0, zi_1, zi_10, zi_17, zi_19, zi_20, zi_30, zi_48, zi_50, zi_52, zi_57, zi_59, zi_80, zi_93, zi_106, zi_110, zi_114, zx_0_0, zx_0_1, zx_0_2, zx_0_3, zx_0_4, zx_0_5, zx_0_6, zx_0_7, zx_0_8, zx_0_9, zx_0_10, zx_1_0, zx_1_1, zx_2_0, zx_2_1, zx_2_2, zx_2_3, zx_2_4, zx_2_5, zx_10_0, zx_10_1, zx_11_0, zx_11_1, zx_11_2, zx_11_3, zx_17_0, zx_19_0, zx_19_1, zx_19_2, zx_20_0, zx_20_1, zx_20_3, zx_20_4, zx_20_5, zx_20_6, zx_20_7, zx_20_8, zx_20_9, zx_30_0, zx_30_1, zx_30_4, zx_30_5, zx_48_0, zx_50_0, zx_52_0, zx_52_1, zx_52_2, zx_56_0, zx_56_1, zx_56_2, zx_57_0, zx_59_0, zx_80_3, zx_80_4, zx_80_5, zx_81_0, zx_81_1, zx_81_2, zx_81_3, zx_81_4, zx_81_5, zx_88_0, zx_88_1, zx_88_2, zx_93_3, zx_93_4, zx_93_5, zx_94_0, zx_94_1, zx_94_2, zx_94_3, zx_94_4, zx_94_5, zx_101_0, zx_101_1, zx_101_2, zx_106_0, zx_106_1, zx_106_2, zx_110_0, zx_110_1, zx_110_2, zx_114_0, zx_114_1, zx_114_2, zgI_9, zsI_9, zgI_16, zsI_16, zgI_18, zsI_18, zgI_21, zsI_21, zgI_22, zsI_22, zgI_23, zsI_23, zgI_24, zsI_24, zgI_25, zsI_25, zgI_26, zsI_26, zgI_27, zsI_27, zgI_28, zsI_28, zgI_29, zsI_29, zgI_47, zsI_47, zgI_49, zsI_49, zgI_51, zsI_51, zgI_53, zsI_53, zgI_54, zsI_54, zgI_55, zsI_55, zgI_58, zsI_58, zgI_76, zsI_76, zgI_79, zsI_79, zb_132_0, zgR_56, hki, s1, not_false, e1, e2, s3]
      · obtain ⟨hF1, hR1, hT1, hKm, gG, gN, gB, gd, gb, gk, gp⟩ := id hM1
        obtain ⟨g1, g2, g3, g4⟩ := (gk k hk).2 l e
        generalize hσa : zm_wI σ1 118 23 (nI l.length) = σa
        have hKa : zKeep (fun x q => zFMe x q || x == 136 || (x == 118 && q == 23)) σ1 σa := by
          rw [← hσa]
          exact (zKeep.rf _ _).wI rfl
        have e1 := m_bring (σ := σa) (s := 137) (d := 135) (ns := 16257) (nd := 258) rfl rfl (by decide) (by decide) (i := 5419 * k + 1) (j := 0) (n := 258) (by omega) (by omega) (Or.inl (by decide))
        generalize hσb : zm_wF σa 135 (fun q => if 0 ≤ q ∧ q < 0 + 258 then σa.1 137 (5419 * k + 1 + (q - 0)) else σa.1 135 q) = σb at e1
        have hKb : zKeep (fun x q => zFMe x q || x == 136 || (x == 118 && q == 23)) σa σb := by
          rw [← hσb]
          exact (zKeep.rf _ _).wF fun k => rfl
        have e2 := m_bring (σ := σb) (s := 137) (d := 136) (ns := 16257) (nd := 5160) rfl rfl (by decide) (by decide) (i := 5419 * k + 1 + 258) (j := 0) (n := 5160) (by omega) (by omega) (Or.inl (by decide))
        generalize hσc : zm_wF σb 136 (fun q => if 0 ≤ q ∧ q < 0 + 5160 then σb.1 137 (5419 * k + 1 + 258 + (q - 0)) else σb.1 136 q) = σc at e2
        have hKc' : zKeep (fun x q => zFMe x q || x == 136 || (x == 118 && q == 23)) σb σc := by
          rw [← hσc]
          exact (zKeep.rf _ _).wF fun k => rfl
        have h137a : σa.1 137 = σ1.1 137 := hKa.cell fun k => rfl
        have h137b : σb.1 137 = σ1.1 137 := (hKb.cell fun k => rfl).trans h137a
        have hok := hV'.bok
        have hb := hok.b
        have hKabc := hKa.tr (hKb.tr hKc')
        have hFa : zFix σa := hKa.fix hF1 rfl
        have hFb : zFix σb := hKb.fix hFa rfl
        have hFc := hKc'.fix hFb rfl
        have hBc : zMB (σc.1 135) (zrun G l) := g3.eq hb.1 hb.2 fun i hi => by
          rw [← hσc, zF_ne _ _ (by decide), ← hσb, zF_at]
          show (if _ then _ else _) = _
          rw [if_pos (by omega), h137a]
          rfl
        have gGc : zMG σc G := gG.keep hKabc ⟨rfl, rfl, rfl⟩ (fun k => ⟨rfl, rfl, rfl, rfl⟩)
        obtain ⟨σ3, e3, t3, n3, hK3⟩ := m_laysTree hFc gGc hgk hok.1 hBc.1
        have hK3' : zKeep (fun x q => zFMe x q || x == 136 || (x == 118 && q == 23)) σc σ3 := hK3.mo fun x k q => by
          simp only [zFML, zFMe, Bool.or_eq_true, Bool.and_eq_true, decide_eq_true_eq, beq_iff_eq] at q ⊢
          omega
        have hK := hKabc.tr hK3'
        have hF3 := hK3'.fix hFc rfl
        have gd3 : σ3.1 118 23 = nI l.length := by
          rw [hK3.i rfl, ← hσc, zF_ne _ _ (by decide), ← hσb, zF_ne _ _ (by decide), ← hσa, zw_same]
        have h136 : ∀ q, q < 5160 → σ3.1 136 q = σ1.1 137 (5419 * k + 259 + q) := fun q hq => by
          rw [hK3.i rfl, ← hσc, zF_at]
          show (if _ then _ else _) = _
          rw [if_pos (by omega), h137b]
          congr 1
          omega
        refine ⟨σ3, zS_eq (zS_of ze_266 ?_), ⟨hF3, hR1.keep hK (fun k => rfl) (fun k => rfl), hT1.keep hK (fun k => rfl) (fun k => rfl), hKm.keep hK ⟨rfl, rfl, rfl, rfl⟩ (fun k => rfl), gG.keep hK ⟨rfl, rfl, rfl⟩ (fun k => ⟨rfl, rfl, rfl, rfl⟩), n3, hBc.eq hb.1 hb.2 (fun i _ => hK3.i rfl), gd3, fun j hj => ?_, fun q hq => ⟨fun el => (hK.i rfl).trans ((gk q hq).1 el), fun l' el => ?_⟩, fun _ => t3⟩, hK.mo fun x q e => ?_⟩
        · simp (disch := first | assumption | omega) only [zn0, zn1, Option.bind_some, zm_ai, zm_al, zm_av, zm_opt, zm_fw, zE_l, zE_r, nI_add, pk_mul, pk_sub, pk_div, pk_rem, zrem, zpm1, zB_i0, zB_i1, zB_ok, zB_T, zB_F, nI_toInt, zT_sub, zT_neg, zT_le, zT_lt, nI_eq, zne1, zne2, zne9, ite_not, or_true, true_or, if_true, if_false, if_pos, if_neg, zw_R, zw_RL, zw_I, zF_R, zw_same, zw_cell, zw_ne, zF_at, zF_ne, zi_118, zx_118_0, zx_118_1, zx_118_2, zx_118_3, zx_118_7, zx_118_8, zx_118_9, zx_118_10, zx_118_11, zx_118_12, zx_118_13, zx_118_14, zx_118_15, zx_118_17, zx_118_18, zx_118_19, zx_118_21, zx_118_22, zx_118_24, zx_118_25, zx_118_30, zx_118_35, zx_118_36, zx_118_37, zx_118_38, zx_118_39, zx_118_41, zx_118_42, zx_118_44, zx_118_45, zx_118_46, zgI_119, zsI_119, zgI_120, zsI_120, zgI_121, zsI_121, zgI_122, zsI_122, zgI_123, zsI_123, zgI_124, zsI_124, zgI_125, zsI_125, zgI_126, zsI_126, zgI_127, zsI_127, zgI_128, zsI_128, zgI_129, zsI_129, zgI_130, zsI_130, zgI_131, zsI_131, zgI_132, zsI_132, zgI_133, zsI_133, zgI_134, zsI_134, zgI_135, zsI_135, zgI_136, zsI_136, zgI_137, zsI_137, zgI_139, zsI_139, zgI_140, zsI_140, zgI_141, zsI_141, zgI_142, zsI_142, zgI_143, zsI_143, zgI_144, zsI_144, zgI_145, zsI_145, zgI_146, zsI_146, zgI_147, zsI_147, zb_266_0, m_inI, not_true, not_false, zgZ_138, g1, g2, hσa, e1, e2, e3, gd3]
        · have hbj := (hgl.ok hgk j (by omega)).b
          refine (g4 j hj).eq hbj.1 hbj.2 fun i hi => ?_
          rw [h136 _ (by omega)]
          congr 1
          omega
        · obtain ⟨g1, g2, g3, g4⟩ := (gk q hq).2 l' el
          obtain ⟨hg, hl'⟩ := hV.kp el
          have hb := (hl'.full hg).b
          refine ⟨(hK.i rfl).trans g1, (hK.i rfl).trans g2, g3.eq hb.1 hb.2 (fun i _ => hK.i rfl), fun j hj => ?_⟩
          have hb := (hl'.ok hg j (by omega)).b
          exact (g4 j hj).eq hb.1 hb.2 (fun i _ => hK.i rfl)
        · simp only [zFMe, zRfs, Bool.or_eq_true, Bool.and_eq_true, decide_eq_true_eq, beq_iff_eq] at e ⊢
          omega
end ZTR
