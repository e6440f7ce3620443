/-! calls: solve, shorten -/
/-- a sign that is left -/
def zlf (G : zG) (ds : List zDd) (x : Int32) : Prop := ∃ b, 1 ≤ b ∧ b ≤ zsn G (ztree G (zrun G ds).1) ∧ zbit (zrun G ds).2.1 (b - 1) ∧ x = nI b
section ZSS
variable {σ σ' : zm_Sig} {a : Nat} {G : zG} {ds : List zDd} {ks : zKs} {R T : zRo} {K : zK}
theorem zlf_b (hV : zVk G ds ks) {b : Nat} (hb : b < 1000) : zlf G ds (nI b) ↔ 1 ≤ b ∧ b ≤ zsn G (ztree G (zrun G ds).1) ∧ zbit (zrun G ds).2.1 (b - 1) := by
  have hsn := zsn_le hV.1 (ztree G (zrun G ds).1)
  constructor
  · rintro ⟨c, c1, c2, c3, c4⟩
    have : b = c := by
      have := congrArg Int32.toInt c4
      rw [nI_toInt (by omega), nI_toInt (by omega)] at this
      omega
    subst this
    exact ⟨c1, c2, c3⟩
  · exact fun h => ⟨b, h.1, h.2.1, h.2.2, rfl⟩
theorem zlf_bad (hV : zVk G ds ks) {x : Int32} (hx : x.toInt < 0 ∨ (16 : Int) ≤ x.toInt) : ¬ zlf G ds x := by
  have hsn := zsn_le hV.1 (ztree G (zrun G ds).1)
  rintro ⟨c, c1, c2, c3, rfl⟩
  rw [nI_toInt (by omega)] at hx
  omega
theorem c_lft (hC : zC σ a R T K G ds ks) (hV : zVk G ds ks) (x : Int32) : zM 83 [.ref 30, .int x] zL σ = some (some (.int (zB (zlf G ds x))), zL, σ) := by
  obtain ⟨hF, hR, hTx, hKc, ha, hcu, hsp, hG, hN, hCR, hL, hO, -⟩ := hC
  have hsn := zsn_le hV.1 (ztree G (zrun G ds).1)
  rcases z_cN x 16 (by omega) with hx | ⟨b, hb, rfl⟩
  · rw [zB_f (zlf_bad hV hx)]
    exact c_isLeft_bad (by omega)
  · by_cases b1 : 1 ≤ b
    · rw [c_isLeft b1 (by omega), hL]
      refine congrArg (fun z => some (some (Value.int z), zL, σ)) (zB_c ?_)
      rw [zlf_b hV (by omega)]
      constructor
      · intro q
        have := hV.bok.2.2 (b - 1) (by omega) q
        exact ⟨b1, by omega, q⟩
      · exact fun q => q.2.2
    · rw [zB_f (fun q => b1 ((zlf_b hV (by omega)).mp q).1)]
      exact c_isLeft_bad (by rw [nI_toInt (by omega)]; omega)
theorem m_lft (hM : zMm σ R T K G ds ks) (hV : zVk G ds ks) (h0 : 0 < G.1) (x : Int32) : zM 240 [.ref 118, .int x] zL σ = some (some (.int (zB (zlf G ds x))), zL, σ) := by
  obtain ⟨hF1, hR1, hT1, hKm, gG, gN, gB, gd, -⟩ := hM
  have hsn := zsn_le hV.1 (ztree G (zrun G ds).1)
  rcases z_cN x 16 (by omega) with hx | ⟨b, hb, rfl⟩
  · rw [zB_f (zlf_bad hV hx)]
    exact m_isLeft_bad hF1 gN.1 hsn (by omega)
  · by_cases b1 : 1 ≤ b ∧ b ≤ zsn G (ztree G (zrun G ds).1)
    · rw [m_isLeft hF1 gN.1 hsn gG.1 (by omega) hV.1.1 b1.1 b1.2, gB.2.1]
      refine congrArg (fun z => some (some (Value.int z), zL, σ)) (zB_c ?_)
      rw [zlf_b hV (by omega)]
      exact ⟨fun q => ⟨b1.1, b1.2, q⟩, fun q => q.2.2⟩
    · rw [zB_f (fun q => b1 ⟨((zlf_b hV (by omega)).mp q).1, ((zlf_b hV (by omega)).mp q).2.1⟩)]
      exact m_isLeft_bad hF1 gN.1 hsn (by rw [nI_toInt (by omega)]; omega)
theorem k_solve (i s : Int32) (h : zInv σ) : zCallV 125 256 [.int i, .int s] σ := by
  obtain ⟨a, R, T, K, G, ds, ks, hC, hM, hV⟩ := h
  obtain ⟨hF, hR, hTx, hKc, ha, hcu, hsp, hG, hN, ⟨π, hCR⟩, hL, hO, hTl, hks, hpos, hzero⟩ := id hC
  have hok := hV.bok
  have hw := hok.2.1.w
  have h15 := hw.1
  have h20 := hV.len
  have hsn := zsn_le hV.1 (ztree G (zrun G ds).1)
  rcases z_cN i (zrun G ds).2.2.length (by omega) with hx | ⟨i, hi, rfl⟩
  · refine zCallV.of hV hV hM (v := .int (-nI 1)) (zCo.same hC (zS_eq (zS_of ze_125 ?_))) fun σ1 hM1 => zMo.same hM1 (zS_eq (zS_of ze_256 ?_))
    · simp (disch := first | assumption | omega) only [zn0, zn1, Option.bind_some, zm_ai, zm_al, zm_av, zm_opt, zm_fw, zE_l, zE_r, nI_add, pk_mul, pk_sub, pk_div, pk_rem, zrem, zpm1, zB_i0, zB_i1, zB_ok, zB_T, zB_F, nI_toInt, zT_sub, zT_neg, zT_le, zT_lt, nI_eq, zne1, zne2, zne9, ite_not, or_true, true_or, if_true, if_false, if_pos, if_neg, zw_R, zw_RL, zw_I, zF_R, zw_same, zw_cell, zw_ne, zF_at, zF_ne, zi_0, zi_1, zi_10, zi_17, zi_19, zi_20, zi_30, zi_48, zi_50, zi_52, zi_57, zi_59, zi_80, zi_93, zi_106, zi_110, zi_114, zx_0_0, zx_0_1, zx_0_2, zx_0_3, zx_0_4, zx_0_5, zx_0_6, zx_0_7, zx_0_8, zx_0_9, zx_0_10, zx_1_0, zx_1_1, zx_2_0, zx_2_1, zx_2_2, zx_2_3, zx_2_4, zx_2_5, zx_10_0, zx_10_1, zx_11_0, zx_11_1, zx_11_2, zx_11_3, zx_17_0, zx_19_0, zx_19_1, zx_19_2, zx_20_0, zx_20_1, zx_20_3, zx_20_4, zx_20_5, zx_20_6, zx_20_7, zx_20_8, zx_20_9, zx_30_0, zx_30_1, zx_30_4, zx_30_5, zx_48_0, zx_50_0, zx_52_0, zx_52_1, zx_52_2, zx_56_0, zx_56_1, zx_56_2, zx_57_0, zx_59_0, zx_80_3, zx_80_4, zx_80_5, zx_81_0, zx_81_1, zx_81_2, zx_81_3, zx_81_4, zx_81_5, zx_88_0, zx_88_1, zx_88_2, zx_93_3, zx_93_4, zx_93_5, zx_94_0, zx_94_1, zx_94_2, zx_94_3, zx_94_4, zx_94_5, zx_101_0, zx_101_1, zx_101_2, zx_106_0, zx_106_1, zx_106_2, zx_110_0, zx_110_1, zx_110_2, zx_114_0, zx_114_1, zx_114_2, zgI_9, zsI_9, zgI_16, zsI_16, zgI_18, zsI_18, zgI_21, zsI_21, zgI_22, zsI_22, zgI_23, zsI_23, zgI_24, zsI_24, zgI_25, zsI_25, zgI_26, zsI_26, zgI_27, zsI_27, zgI_28, zsI_28, zgI_29, zsI_29, zgI_47, zsI_47, zgI_49, zsI_49, zgI_51, zsI_51, zgI_53, zsI_53, zgI_54, zsI_54, zgI_55, zsI_55, zgI_58, zsI_58, zgI_76, zsI_76, zgI_79, zsI_79, zq_125_0_1, zq_125_0_2, zq_125_0_3, zq_125_0_4, zq_125_0_5, zq_125_0_6, zh_125_0, c_isRule hCR h15]
    · obtain ⟨hF1, hR1, hT1, hKm, gG, gN, gB, gd, -⟩ := id hM1
      simp (disch := first | assumption | omega) only [zn0, zn1, Option.bind_some, zm_ai, zm_al, zm_av, zm_opt, zm_fw, zE_l, zE_r, nI_add, pk_mul, pk_sub, pk_div, pk_rem, zrem, zpm1, zB_i0, zB_i1, zB_ok, zB_T, zB_F, nI_toInt, zT_sub, zT_neg, zT_le, zT_lt, nI_eq, zne1, zne2, zne9, ite_not, or_true, true_or, if_true, if_false, if_pos, if_neg, zw_R, zw_RL, zw_I, zF_R, zw_same, zw_cell, zw_ne, zF_at, zF_ne, zi_118, zx_118_0, zx_118_1, zx_118_2, zx_118_3, zx_118_7, zx_118_8, zx_118_9, zx_118_10, zx_118_11, zx_118_12, zx_118_13, zx_118_14, zx_118_15, zx_118_17, zx_118_18, zx_118_19, zx_118_21, zx_118_22, zx_118_24, zx_118_25, zx_118_30, zx_118_35, zx_118_36, zx_118_37, zx_118_38, zx_118_39, zx_118_41, zx_118_42, zx_118_44, zx_118_45, zx_118_46, zgI_119, zsI_119, zgI_120, zsI_120, zgI_121, zsI_121, zgI_122, zsI_122, zgI_123, zsI_123, zgI_124, zsI_124, zgI_125, zsI_125, zgI_126, zsI_126, zgI_127, zsI_127, zgI_128, zsI_128, zgI_129, zsI_129, zgI_130, zsI_130, zgI_131, zsI_131, zgI_132, zsI_132, zgI_133, zsI_133, zgI_134, zsI_134, zgI_135, zsI_135, zgI_136, zsI_136, zgI_137, zsI_137, zgI_139, zsI_139, zgI_140, zsI_140, zgI_141, zsI_141, zgI_142, zsI_142, zgI_143, zsI_143, zgI_144, zsI_144, zgI_145, zsI_145, zgI_146, zsI_146, zgI_147, zsI_147, zb_256_0, m_isRule hF1 gB.2.2 h15]
  · have h0 := hV.p0 hi
    have l16 := (hw.2 i hi).1
    have ec := c_lft hC hV s
    by_cases hs : zlf G ds s
    · rw [zB_t hs] at ec
      obtain ⟨b, b1, b2, b3, rfl⟩ := id hs
      have et := c_timesOf hF hCR.1 (by omega) (hCR.2.2 i hi) l16 (nI b)
      have htl := ztm_le (zr (zrun G ds).2.2 i) (nI b)
      by_cases ht : ztm (zr (zrun G ds).2.2 i) (nI b) = 1
      · obtain ⟨σc, efi, hKc1⟩ := c_fits hF hCR hw hi b1 (by omega) ht
        have hCc := hC.scr hV (zFDS_scr hKc1)
        have hFc := hCc.1
        have hTlc := hTl.keep hKc1 rfl (fun b k _ _ => zff fun q => by simp only [zFDS, zFW, Bool.or_eq_true, Bool.and_eq_true, beq_iff_eq] at q; omega)
        have ef := c_isFull hFc hTlc h20 (m := 1) (by decide)
        rw [ht] at et
        by_cases hf : zfits (zrun G ds).2.2 i b
        · rw [zB_t hf] at efi
          by_cases q2 : ds.length = 20
          · rw [zB_t (by omega)] at ef
            refine zCallV.of hV hV hM (v := .int (-2)) (a' := a) (R' := R) (T' := T) (K' := K) ⟨σc, zS_eq (zS_of ze_125 ?_), hCc, zScr_cls (zFDS_scr hKc1)⟩ fun σ1 hM1 => ?_
            · simp (disch := first | assumption | omega) only [zn0, zn1, Option.bind_some, zm_ai, zm_al, zm_av, zm_opt, zm_fw, zE_l, zE_r, nI_add, pk_mul, pk_sub, pk_div, pk_rem, zrem, zpm1, zB_i0, zB_i1, zB_ok, zB_T, zB_F, nI_toInt, zT_sub, zT_neg, zT_le, zT_lt, nI_eq, zne1, zne2, zne9, ite_not, or_true, true_or, if_true, if_false, if_pos, if_neg, zw_R, zw_RL, zw_I, zF_R, zw_same, zw_cell, zw_ne, zF_at, zF_ne, zi_0, zi_1, zi_10, zi_17, zi_19, zi_20, zi_30, zi_48, zi_50, zi_52, zi_57, zi_59, zi_80, zi_93, zi_106, zi_110, zi_114, zx_0_0, zx_0_1, zx_0_2, zx_0_3, zx_0_4, zx_0_5, zx_0_6, zx_0_7, zx_0_8, zx_0_9, zx_0_10, zx_1_0, zx_1_1, zx_2_0, zx_2_1, zx_2_2, zx_2_3, zx_2_4, zx_2_5, zx_10_0, zx_10_1, zx_11_0, zx_11_1, zx_11_2, zx_11_3, zx_17_0, zx_19_0, zx_19_1, zx_19_2, zx_20_0, zx_20_1, zx_20_3, zx_20_4, zx_20_5, zx_20_6, zx_20_7, zx_20_8, zx_20_9, zx_30_0, zx_30_1, zx_30_4, zx_30_5, zx_48_0, zx_50_0, zx_52_0, zx_52_1, zx_52_2, zx_56_0, zx_56_1, zx_56_2, zx_57_0, zx_59_0, zx_80_3, zx_80_4, zx_80_5, zx_81_0, zx_81_1, zx_81_2, zx_81_3, zx_81_4, zx_81_5, zx_88_0, zx_88_1, zx_88_2, zx_93_3, zx_93_4, zx_93_5, zx_94_0, zx_94_1, zx_94_2, zx_94_3, zx_94_4, zx_94_5, zx_101_0, zx_101_1, zx_101_2, zx_106_0, zx_106_1, zx_106_2, zx_110_0, zx_110_1, zx_110_2, zx_114_0, zx_114_1, zx_114_2, zgI_9, zsI_9, zgI_16, zsI_16, zgI_18, zsI_18, zgI_21, zsI_21, zgI_22, zsI_22, zgI_23, zsI_23, zgI_24, zsI_24, zgI_25, zsI_25, zgI_26, zsI_26, zgI_27, zsI_27, zgI_28, zsI_28, zgI_29, zsI_29, zgI_47, zsI_47, zgI_49, zsI_49, zgI_51, zsI_51, zgI_53, zsI_53, zgI_54, zsI_54, zgI_55, zsI_55, zgI_58, zsI_58, zgI_76, zsI_76, zgI_79, zsI_79, zq_125_0_1, zq_125_0_2, zq_125_0_3, zq_125_0_4, zq_125_0_5, zq_125_0_6, zh_125_0, c_isRule hCR h15, not_false, ec, et, efi, ef]
            · obtain ⟨hF1, hR1, hT1, hKm, gG, gN, gB, gd, -⟩ := id hM1
              have em := m_lft hM1 hV h0 (nI b)
              rw [zB_t hs] at em
              have eo := m_oftenIn hF1 (by omega) (gB.2.2.2 i hi) l16 (nI b)
              rw [ht] at eo
              obtain ⟨σm, emf, hKm1⟩ := m_maySolve hF1 gB.2.2 hw hi b1 (by omega) ht
              rw [zB_t hf] at emf
              have gdm := (hKm1.i (a := 118) (k := 23) rfl).trans gd
              rw [q2] at gdm
              refine ⟨σm, zS_eq (zS_of ze_256 ?_), hM1.scr hV (zFMs_msc hKm1), zMsc_rfs (zFMs_msc hKm1)⟩
              simp (disch := first | assumption | omega) only [zn0, zn1, Option.bind_some, zm_ai, zm_al, zm_av, zm_opt, zm_fw, zE_l, zE_r, nI_add, pk_mul, pk_sub, pk_div, pk_rem, zrem, zpm1, zB_i0, zB_i1, zB_ok, zB_T, zB_F, nI_toInt, zT_sub, zT_neg, zT_le, zT_lt, nI_eq, zne1, zne2, zne9, ite_not, or_true, true_or, if_true, if_false, if_pos, if_neg, zw_R, zw_RL, zw_I, zF_R, zw_same, zw_cell, zw_ne, zF_at, zF_ne, zi_118, zx_118_0, zx_118_1, zx_118_2, zx_118_3, zx_118_7, zx_118_8, zx_118_9, zx_118_10, zx_118_11, zx_118_12, zx_118_13, zx_118_14, zx_118_15, zx_118_17, zx_118_18, zx_118_19, zx_118_21, zx_118_22, zx_118_24, zx_118_25, zx_118_30, zx_118_35, zx_118_36, zx_118_37, zx_118_38, zx_118_39, zx_118_41, zx_118_42, zx_118_44, zx_118_45, zx_118_46, zgI_119, zsI_119, zgI_120, zsI_120, zgI_121, zsI_121, zgI_122, zsI_122, zgI_123, zsI_123, zgI_124, zsI_124, zgI_125, zsI_125, zgI_126, zsI_126, zgI_127, zsI_127, zgI_128, zsI_128, zgI_129, zsI_129, zgI_130, zsI_130, zgI_131, zsI_131, zgI_132, zsI_132, zgI_133, zsI_133, zgI_134, zsI_134, zgI_135, zsI_135, zgI_136, zsI_136, zgI_137, zsI_137, zgI_139, zsI_139, zgI_140, zsI_140, zgI_141, zsI_141, zgI_142, zsI_142, zgI_143, zsI_143, zgI_144, zsI_144, zgI_145, zsI_145, zgI_146, zsI_146, zgI_147, zsI_147, zb_256_0, m_isRule hF1 gB.2.2 h15, not_false, not_true, em, eo, emf, gdm]
          · rw [zB_f (by omega)] at ef
            have hd : zva (4, i, b) (zrun G ds) := ⟨hi, b1, by omega, ht, hf⟩
            have hV' := hV.snoc h0 (by omega) hd
            refine zCallV.of hV hV' hM (v := .int (nI (zrun G (ds ++ [(4, i, b)])).2.2.length)) (a' := a) (R' := R) (T' := T) (K' := K) ?_ fun σ1 hM1 => ?_
            · obtain ⟨σ1, e1, hC1, hK1⟩ := hCc.perf hV h0 (by omega) hd
              obtain ⟨hF1, hR1, hTx1, hKc1', ha1, hcu1, hsp1, hG1, hN1, ⟨π1, hCR1⟩, hL1, hO1, hTl1, -⟩ := id hC1
              have hs1 := hCR1.2.1
              refine ⟨σ1, zS_eq (zS_of ze_125 ?_), hC1, (zScr_cls (zFDS_scr hKc1)).tr (zFP_cls hK1)⟩
              simp (disch := first | assumption | omega) only [zn0, zn1, Option.bind_some, zm_ai, zm_al, zm_av, zm_opt, zm_fw, zE_l, zE_r, nI_add, pk_mul, pk_sub, pk_div, pk_rem, zrem, zpm1, zB_i0, zB_i1, zB_ok, zB_T, zB_F, nI_toInt, zT_sub, zT_neg, zT_le, zT_lt, nI_eq, zne1, zne2, zne9, ite_not, or_true, true_or, if_true, if_false, if_pos, if_neg, zw_R, zw_RL, zw_I, zF_R, zw_same, zw_cell, zw_ne, zF_at, zF_ne, zi_0, zi_1, zi_10, zi_17, zi_19, zi_20, zi_30, zi_48, zi_50, zi_52, zi_57, zi_59, zi_80, zi_93, zi_106, zi_110, zi_114, zx_0_0, zx_0_1, zx_0_2, zx_0_3, zx_0_4, zx_0_5, zx_0_6, zx_0_7, zx_0_8, zx_0_9, zx_0_10, zx_1_0, zx_1_1, zx_2_0, zx_2_1, zx_2_2, zx_2_3, zx_2_4, zx_2_5, zx_10_0, zx_10_1, zx_11_0, zx_11_1, zx_11_2, zx_11_3, zx_17_0, zx_19_0, zx_19_1, zx_19_2, zx_20_0, zx_20_1, zx_20_3, zx_20_4, zx_20_5, zx_20_6, zx_20_7, zx_20_8, zx_20_9, zx_30_0, zx_30_1, zx_30_4, zx_30_5, zx_48_0, zx_50_0, zx_52_0, zx_52_1, zx_52_2, zx_56_0, zx_56_1, zx_56_2, zx_57_0, zx_59_0, zx_80_3, zx_80_4, zx_80_5, zx_81_0, zx_81_1, zx_81_2, zx_81_3, zx_81_4, zx_81_5, zx_88_0, zx_88_1, zx_88_2, zx_93_3, zx_93_4, zx_93_5, zx_94_0, zx_94_1, zx_94_2, zx_94_3, zx_94_4, zx_94_5, zx_101_0, zx_101_1, zx_101_2, zx_106_0, zx_106_1, zx_106_2, zx_110_0, zx_110_1, zx_110_2, zx_114_0, zx_114_1, zx_114_2, zgI_9, zsI_9, zgI_16, zsI_16, zgI_18, zsI_18, zgI_21, zsI_21, zgI_22, zsI_22, zgI_23, zsI_23, zgI_24, zsI_24, zgI_25, zsI_25, zgI_26, zsI_26, zgI_27, zsI_27, zgI_28, zsI_28, zgI_29, zsI_29, zgI_47, zsI_47, zgI_49, zsI_49, zgI_51, zsI_51, zgI_53, zsI_53, zgI_54, zsI_54, zgI_55, zsI_55, zgI_58, zsI_58, zgI_76, zsI_76, zgI_79, zsI_79, zq_125_0_1, zq_125_0_2, zq_125_0_3, zq_125_0_4, zq_125_0_5, zq_125_0_6, zh_125_0, c_isRule hCR h15, not_false, ec, et, efi, ef, e1, hs1]
            · obtain ⟨hF1, hR1, hT1, hKm, gG, gN, gB, gd, -⟩ := id hM1
              have em := m_lft hM1 hV h0 (nI b)
              rw [zB_t hs] at em
              have eo := m_oftenIn hF1 (by omega) (gB.2.2.2 i hi) l16 (nI b)
              rw [ht] at eo
              obtain ⟨σm, emf, hKm1⟩ := m_maySolve hF1 gB.2.2 hw hi b1 (by omega) ht
              rw [zB_t hf] at emf
              have gdm := (hKm1.i (a := 118) (k := 23) rfl).trans gd
              have hMm := hM1.scr hV (zFMs_msc hKm1)
              obtain ⟨σ2, e1, hN2, hK2⟩ := m_notes hMm hV (by omega)
              obtain ⟨hF2, -, -, -, -, -, gB2, -⟩ := id hN2
              obtain ⟨σ3, e3, p1, p2, p3, hK3⟩ := m_solves hF2 gB2.2.2 gB2.2.1 hw hi b1 (by omega) ht hf
              have hK3' : zKeep zFMr σ2 σ3 := hK3.mo fun x k q => zFMr_of (by simp [q])
              have hM3 : zMm σ3 R T K G (ds ++ [(4, i, b)]) ks := hN2.done hV (zFMr_e hK3') (hN2.rules h0 hK3' p1 p2 p3)
              have hF3 := hM3.1
              have g3 := hM3.2.2.2.2.2.2.1.2.2.1
              refine ⟨σ3, zS_eq (zS_of ze_256 ?_), hM3, (zMsc_rfs (zFMs_msc hKm1)).tr ((zFMn_rfs hK2).tr (zFMe_rfs (zFMr_e hK3')))⟩
              simp (disch := first | assumption | omega) only [zn0, zn1, Option.bind_some, zm_ai, zm_al, zm_av, zm_opt, zm_fw, zE_l, zE_r, nI_add, pk_mul, pk_sub, pk_div, pk_rem, zrem, zpm1, zB_i0, zB_i1, zB_ok, zB_T, zB_F, nI_toInt, zT_sub, zT_neg, zT_le, zT_lt, nI_eq, zne1, zne2, zne9, ite_not, or_true, true_or, if_true, if_false, if_pos, if_neg, zw_R, zw_RL, zw_I, zF_R, zw_same, zw_cell, zw_ne, zF_at, zF_ne, zi_118, zx_118_0, zx_118_1, zx_118_2, zx_118_3, zx_118_7, zx_118_8, zx_118_9, zx_118_10, zx_118_11, zx_118_12, zx_118_13, zx_118_14, zx_118_15, zx_118_17, zx_118_18, zx_118_19, zx_118_21, zx_118_22, zx_118_24, zx_118_25, zx_118_30, zx_118_35, zx_118_36, zx_118_37, zx_118_38, zx_118_39, zx_118_41, zx_118_42, zx_118_44, zx_118_45, zx_118_46, zgI_119, zsI_119, zgI_120, zsI_120, zgI_121, zsI_121, zgI_122, zsI_122, zgI_123, zsI_123, zgI_124, zsI_124, zgI_125, zsI_125, zgI_126, zsI_126, zgI_127, zsI_127, zgI_128, zsI_128, zgI_129, zsI_129, zgI_130, zsI_130, zgI_131, zsI_131, zgI_132, zsI_132, zgI_133, zsI_133, zgI_134, zsI_134, zgI_135, zsI_135, zgI_136, zsI_136, zgI_137, zsI_137, zgI_139, zsI_139, zgI_140, zsI_140, zgI_141, zsI_141, zgI_142, zsI_142, zgI_143, zsI_143, zgI_144, zsI_144, zgI_145, zsI_145, zgI_146, zsI_146, zgI_147, zsI_147, zb_256_0, m_isRule hF1 gB.2.2 h15, not_false, not_true, em, eo, emf, gdm, e1, e3, g3]
        · rw [zB_f hf] at efi
          refine zCallV.of hV hV hM (v := .int (-6)) (a' := a) (R' := R) (T' := T) (K' := K) ⟨σc, zS_eq (zS_of ze_125 ?_), hCc, zScr_cls (zFDS_scr hKc1)⟩ fun σ1 hM1 => ?_
          · simp (disch := first | assumption | omega) only [zn0, zn1, Option.bind_some, zm_ai, zm_al, zm_av, zm_opt, zm_fw, zE_l, zE_r, nI_add, pk_mul, pk_sub, pk_div, pk_rem, zrem, zpm1, zB_i0, zB_i1, zB_ok, zB_T, zB_F, nI_toInt, zT_sub, zT_neg, zT_le, zT_lt, nI_eq, zne1, zne2, zne9, ite_not, or_true, true_or, if_true, if_false, if_pos, if_neg, zw_R, zw_RL, zw_I, zF_R, zw_same, zw_cell, zw_ne, zF_at, zF_ne, zi_0, zi_1, zi_10, zi_17, zi_19, zi_20, zi_30, zi_48, zi_50, zi_52, zi_57, zi_59, zi_80, zi_93, zi_106, zi_110, zi_114, zx_0_0, zx_0_1, zx_0_2, zx_0_3, zx_0_4, zx_0_5, zx_0_6, zx_0_7, zx_0_8, zx_0_9, zx_0_10, zx_1_0, zx_1_1, zx_2_0, zx_2_1, zx_2_2, zx_2_3, zx_2_4, zx_2_5, zx_10_0, zx_10_1, zx_11_0, zx_11_1, zx_11_2, zx_11_3, zx_17_0, zx_19_0, zx_19_1, zx_19_2, zx_20_0, zx_20_1, zx_20_3, zx_20_4, zx_20_5, zx_20_6, zx_20_7, zx_20_8, zx_20_9, zx_30_0, zx_30_1, zx_30_4, zx_30_5, zx_48_0, zx_50_0, zx_52_0, zx_52_1, zx_52_2, zx_56_0, zx_56_1, zx_56_2, zx_57_0, zx_59_0, zx_80_3, zx_80_4, zx_80_5, zx_81_0, zx_81_1, zx_81_2, zx_81_3, zx_81_4, zx_81_5, zx_88_0, zx_88_1, zx_88_2, zx_93_3, zx_93_4, zx_93_5, zx_94_0, zx_94_1, zx_94_2, zx_94_3, zx_94_4, zx_94_5, zx_101_0, zx_101_1, zx_101_2, zx_106_0, zx_106_1, zx_106_2, zx_110_0, zx_110_1, zx_110_2, zx_114_0, zx_114_1, zx_114_2, zgI_9, zsI_9, zgI_16, zsI_16, zgI_18, zsI_18, zgI_21, zsI_21, zgI_22, zsI_22, zgI_23, zsI_23, zgI_24, zsI_24, zgI_25, zsI_25, zgI_26, zsI_26, zgI_27, zsI_27, zgI_28, zsI_28, zgI_29, zsI_29, zgI_47, zsI_47, zgI_49, zsI_49, zgI_51, zsI_51, zgI_53, zsI_53, zgI_54, zsI_54, zgI_55, zsI_55, zgI_58, zsI_58, zgI_76, zsI_76, zgI_79, zsI_79, zq_125_0_1, zq_125_0_2, zq_125_0_3, zq_125_0_4, zq_125_0_5, zq_125_0_6, zh_125_0, c_isRule hCR h15, not_false, not_true, ec, et, efi]
          · obtain ⟨hF1, hR1, hT1, hKm, gG, gN, gB, gd, -⟩ := id hM1
            have em := m_lft hM1 hV h0 (nI b)
            rw [zB_t hs] at em
            have eo := m_oftenIn hF1 (by omega) (gB.2.2.2 i hi) l16 (nI b)
            rw [ht] at eo
            obtain ⟨σm, emf, hKm1⟩ := m_maySolve hF1 gB.2.2 hw hi b1 (by omega) ht
            rw [zB_f hf] at emf
            refine ⟨σm, zS_eq (zS_of ze_256 ?_), hM1.scr hV (zFMs_msc hKm1), zMsc_rfs (zFMs_msc hKm1)⟩
            simp (disch := first | assumption | omega) only [zn0, zn1, Option.bind_some, zm_ai, zm_al, zm_av, zm_opt, zm_fw, zE_l, zE_r, nI_add, pk_mul, pk_sub, pk_div, pk_rem, zrem, zpm1, zB_i0, zB_i1, zB_ok, zB_T, zB_F, nI_toInt, zT_sub, zT_neg, zT_le, zT_lt, nI_eq, zne1, zne2, zne9, ite_not, or_true, true_or, if_true, if_false, if_pos, if_neg, zw_R, zw_RL, zw_I, zF_R, zw_same, zw_cell, zw_ne, zF_at, zF_ne, zi_118, zx_118_0, zx_118_1, zx_118_2, zx_118_3, zx_118_7, zx_118_8, zx_118_9, zx_118_10, zx_118_11, zx_118_12, zx_118_13, zx_118_14, zx_118_15, zx_118_17, zx_118_18, zx_118_19, zx_118_21, zx_118_22, zx_118_24, zx_118_25, zx_118_30, zx_118_35, zx_118_36, zx_118_37, zx_118_38, zx_118_39, zx_118_41, zx_118_42, zx_118_44, zx_118_45, zx_118_46, zgI_119, zsI_119, zgI_120, zsI_120, zgI_121, zsI_121, zgI_122, zsI_122, zgI_123, zsI_123, zgI_124, zsI_124, zgI_125, zsI_125, zgI_126, zsI_126, zgI_127, zsI_127, zgI_128, zsI_128, zgI_129, zsI_129, zgI_130, zsI_130, zgI_131, zsI_131, zgI_132, zsI_132, zgI_133, zsI_133, zgI_134, zsI_134, zgI_135, zsI_135, zgI_136, zsI_136, zgI_137, zsI_137, zgI_139, zsI_139, zgI_140, zsI_140, zgI_141, zsI_141, zgI_142, zsI_142, zgI_143, zsI_143, zgI_144, zsI_144, zgI_145, zsI_145, zgI_146, zsI_146, zgI_147, zsI_147, zb_256_0, m_isRule hF1 gB.2.2 h15, not_false, not_true, em, eo, emf]
      · refine zCallV.of hV hV hM (v := .int (-4)) (zCo.same hC (zS_eq (zS_of ze_125 ?_))) fun σ1 hM1 => zMo.same hM1 (zS_eq (zS_of ze_256 ?_))
        · simp (disch := first | assumption | omega) only [zn0, zn1, Option.bind_some, zm_ai, zm_al, zm_av, zm_opt, zm_fw, zE_l, zE_r, nI_add, pk_mul, pk_sub, pk_div, pk_rem, zrem, zpm1, zB_i0, zB_i1, zB_ok, zB_T, zB_F, nI_toInt, zT_sub, zT_neg, zT_le, zT_lt, nI_eq, zne1, zne2, zne9, ite_not, or_true, true_or, if_true, if_false, if_pos, if_neg, zw_R, zw_RL, zw_I, zF_R, zw_same, zw_cell, zw_ne, zF_at, zF_ne, zi_0, zi_1, zi_10, zi_17, zi_19, zi_20, zi_30, zi_48, zi_50, zi_52, zi_57, zi_59, zi_80, zi_93, zi_106, zi_110, zi_114, zx_0_0, zx_0_1, zx_0_2, zx_0_3, zx_0_4, zx_0_5, zx_0_6, zx_0_7, zx_0_8, zx_0_9, zx_0_10, zx_1_0, zx_1_1, zx_2_0, zx_2_1, zx_2_2, zx_2_3, zx_2_4, zx_2_5, zx_10_0, zx_10_1, zx_11_0, zx_11_1, zx_11_2, zx_11_3, zx_17_0, zx_19_0, zx_19_1, zx_19_2, zx_20_0, zx_20_1, zx_20_3, zx_20_4, zx_20_5, zx_20_6, zx_20_7, zx_20_8, zx_20_9, zx_30_0, zx_30_1, zx_30_4, zx_30_5, zx_48_0, zx_50_0, zx_52_0, zx_52_1, zx_52_2, zx_56_0, zx_56_1, zx_56_2, zx_57_0, zx_59_0, zx_80_3, zx_80_4, zx_80_5, zx_81_0, zx_81_1, zx_81_2, zx_81_3, zx_81_4, zx_81_5, zx_88_0, zx_88_1, zx_88_2, zx_93_3, zx_93_4, zx_93_5, zx_94_0, zx_94_1, zx_94_2, zx_94_3, zx_94_4, zx_94_5, zx_101_0, zx_101_1, zx_101_2, zx_106_0, zx_106_1, zx_106_2, zx_110_0, zx_110_1, zx_110_2, zx_114_0, zx_114_1, zx_114_2, zgI_9, zsI_9, zgI_16, zsI_16, zgI_18, zsI_18, zgI_21, zsI_21, zgI_22, zsI_22, zgI_23, zsI_23, zgI_24, zsI_24, zgI_25, zsI_25, zgI_26, zsI_26, zgI_27, zsI_27, zgI_28, zsI_28, zgI_29, zsI_29, zgI_47, zsI_47, zgI_49, zsI_49, zgI_51, zsI_51, zgI_53, zsI_53, zgI_54, zsI_54, zgI_55, zsI_55, zgI_58, zsI_58, zgI_76, zsI_76, zgI_79, zsI_79, zq_125_0_1, zq_125_0_2, zq_125_0_3, zq_125_0_4, zq_125_0_5, zq_125_0_6, zh_125_0, c_isRule hCR h15, not_false, not_true, ec, et]
        · obtain ⟨hF1, hR1, hT1, hKm, gG, gN, gB, gd, -⟩ := id hM1
          have em := m_lft hM1 hV h0 (nI b)
          rw [zB_t hs] at em
          have eo := m_oftenIn hF1 (by omega) (gB.2.2.2 i hi) l16 (nI b)
          simp (disch := first | assumption | omega) only [zn0, zn1, Option.bind_some, zm_ai, zm_al, zm_av, zm_opt, zm_fw, zE_l, zE_r, nI_add, pk_mul, pk_sub, pk_div, pk_rem, zrem, zpm1, zB_i0, zB_i1, zB_ok, zB_T, zB_F, nI_toInt, zT_sub, zT_neg, zT_le, zT_lt, nI_eq, zne1, zne2, zne9, ite_not, or_true, true_or, if_true, if_false, if_pos, if_neg, zw_R, zw_RL, zw_I, zF_R, zw_same, zw_cell, zw_ne, zF_at, zF_ne, zi_118, zx_118_0, zx_118_1, zx_118_2, zx_118_3, zx_118_7, zx_118_8, zx_118_9, zx_118_10, zx_118_11, zx_118_12, zx_118_13, zx_118_14, zx_118_15, zx_118_17, zx_118_18, zx_118_19, zx_118_21, zx_118_22, zx_118_24, zx_118_25, zx_118_30, zx_118_35, zx_118_36, zx_118_37, zx_118_38, zx_118_39, zx_118_41, zx_118_42, zx_118_44, zx_118_45, zx_118_46, zgI_119, zsI_119, zgI_120, zsI_120, zgI_121, zsI_121, zgI_122, zsI_122, zgI_123, zsI_123, zgI_124, zsI_124, zgI_125, zsI_125, zgI_126, zsI_126, zgI_127, zsI_127, zgI_128, zsI_128, zgI_129, zsI_129, zgI_130, zsI_130, zgI_131, zsI_131, zgI_132, zsI_132, zgI_133, zsI_133, zgI_134, zsI_134, zgI_135, zsI_135, zgI_136, zsI_136, zgI_137, zsI_137, zgI_139, zsI_139, zgI_140, zsI_140, zgI_141, zsI_141, zgI_142, zsI_142, zgI_143, zsI_143, zgI_144, zsI_144, zgI_145, zsI_145, zgI_146, zsI_146, zgI_147, zsI_147, zb_256_0, m_isRule hF1 gB.2.2 h15, not_false, not_true, em, eo]
    · rw [zB_f hs] at ec
      refine zCallV.of hV hV hM (v := .int (-nI 1)) (zCo.same hC (zS_eq (zS_of ze_125 ?_))) fun σ1 hM1 => zMo.same hM1 (zS_eq (zS_of ze_256 ?_))
      · simp (disch := first | assumption | omega) only [zn0, zn1, Option.bind_some, zm_ai, zm_al, zm_av, zm_opt, zm_fw, zE_l, zE_r, nI_add, pk_mul, pk_sub, pk_div, pk_rem, zrem, zpm1, zB_i0, zB_i1, zB_ok, zB_T, zB_F, nI_toInt, zT_sub, zT_neg, zT_le, zT_lt, nI_eq, zne1, zne2, zne9, ite_not, or_true, true_or, if_true, if_false, if_pos, if_neg, zw_R, zw_RL, zw_I, zF_R, zw_same, zw_cell, zw_ne, zF_at, zF_ne, zi_0, zi_1, zi_10, zi_17, zi_19, zi_20, zi_30, zi_48, zi_50, zi_52, zi_57, zi_59, zi_80, zi_93, zi_106, zi_110, zi_114, zx_0_0, zx_0_1, zx_0_2, zx_0_3, zx_0_4, zx_0_5, zx_0_6, zx_0_7, zx_0_8, zx_0_9, zx_0_10, zx_1_0, zx_1_1, zx_2_0, zx_2_1, zx_2_2, zx_2_3, zx_2_4, zx_2_5, zx_10_0, zx_10_1, zx_11_0, zx_11_1, zx_11_2, zx_11_3, zx_17_0, zx_19_0, zx_19_1, zx_19_2, zx_20_0, zx_20_1, zx_20_3, zx_20_4, zx_20_5, zx_20_6, zx_20_7, zx_20_8, zx_20_9, zx_30_0, zx_30_1, zx_30_4, zx_30_5, zx_48_0, zx_50_0, zx_52_0, zx_52_1, zx_52_2, zx_56_0, zx_56_1, zx_56_2, zx_57_0, zx_59_0, zx_80_3, zx_80_4, zx_80_5, zx_81_0, zx_81_1, zx_81_2, zx_81_3, zx_81_4, zx_81_5, zx_88_0, zx_88_1, zx_88_2, zx_93_3, zx_93_4, zx_93_5, zx_94_0, zx_94_1, zx_94_2, zx_94_3, zx_94_4, zx_94_5, zx_101_0, zx_101_1, zx_101_2, zx_106_0, zx_106_1, zx_106_2, zx_110_0, zx_110_1, zx_110_2, zx_114_0, zx_114_1, zx_114_2, zgI_9, zsI_9, zgI_16, zsI_16, zgI_18, zsI_18, zgI_21, zsI_21, zgI_22, zsI_22, zgI_23, zsI_23, zgI_24, zsI_24, zgI_25, zsI_25, zgI_26, zsI_26, zgI_27, zsI_27, zgI_28, zsI_28, zgI_29, zsI_29, zgI_47, zsI_47, zgI_49, zsI_49, zgI_51, zsI_51, zgI_53, zsI_53, zgI_54, zsI_54, zgI_55, zsI_55, zgI_58, zsI_58, zgI_76, zsI_76, zgI_79, zsI_79, zq_125_0_1, zq_125_0_2, zq_125_0_3, zq_125_0_4, zq_125_0_5, zq_125_0_6, zh_125_0, c_isRule hCR h15, not_true, ec]
      · obtain ⟨hF1, hR1, hT1, hKm, gG, gN, gB, gd, -⟩ := id hM1
        have em := m_lft hM1 hV h0 s
        rw [zB_f hs] at em
        simp (disch := first | assumption | omega) only [zn0, zn1, Option.bind_some, zm_ai, zm_al, zm_av, zm_opt, zm_fw, zE_l, zE_r, nI_add, pk_mul, pk_sub, pk_div, pk_rem, zrem, zpm1, zB_i0, zB_i1, zB_ok, zB_T, zB_F, nI_toInt, zT_sub, zT_neg, zT_le, zT_lt, nI_eq, zne1, zne2, zne9, ite_not, or_true, true_or, if_true, if_false, if_pos, if_neg, zw_R, zw_RL, zw_I, zF_R, zw_same, zw_cell, zw_ne, zF_at, zF_ne, zi_118, zx_118_0, zx_118_1, zx_118_2, zx_118_3, zx_118_7, zx_118_8, zx_118_9, zx_118_10, zx_118_11, zx_118_12, zx_118_13, zx_118_14, zx_118_15, zx_118_17, zx_118_18, zx_118_19, zx_118_21, zx_118_22, zx_118_24, zx_118_25, zx_118_30, zx_118_35, zx_118_36, zx_118_37, zx_118_38, zx_118_39, zx_118_41, zx_118_42, zx_118_44, zx_118_45, zx_118_46, zgI_119, zsI_119, zgI_120, zsI_120, zgI_121, zsI_121, zgI_122, zsI_122, zgI_123, zsI_123, zgI_124, zsI_124, zgI_125, zsI_125, zgI_126, zsI_126, zgI_127, zsI_127, zgI_128, zsI_128, zgI_129, zsI_129, zgI_130, zsI_130, zgI_131, zsI_131, zgI_132, zsI_132, zgI_133, zsI_133, zgI_134, zsI_134, zgI_135, zsI_135, zgI_136, zsI_136, zgI_137, zsI_137, zgI_139, zsI_139, zgI_140, zsI_140, zgI_141, zsI_141, zgI_142, zsI_142, zgI_143, zsI_143, zgI_144, zsI_144, zgI_145, zsI_145, zgI_146, zsI_146, zgI_147, zsI_147, zb_256_0, m_isRule hF1 gB.2.2 h15, not_true, em]
/-- shorten -/
theorem zsolve_len {rs : List (List Int32)} {i b : Nat} (hi : i < rs.length) : (zsolve rs i b).length = rs.length - 1 := by
  unfold zsolve
  rw [zerase_len (by rw [zsub_len]; exact hi), zsub_len]
theorem zshort_len : ∀ (n : Nat) (B : List (List Int32) × Int32), (zshort n B).1.length ≤ B.1.length
  | 0, B => Nat.le_refl _
  | n + 1, B => by
    unfold zshort
    split
    · next i e =>
      have := zshort_len n (B.1.eraseIdx i, B.2)
      have h2 := zerase_len (zfirst_sp e).1
      simp only at this
      omega
    · split
      · next q e =>
        have := zshort_len n (zsolve B.1 q.1 q.2, zclr B.2 q.2)
        obtain ⟨l, -, hi, -⟩ := zns_sp e
        have h2 := zsolve_len (b := q.2) hi
        simp only at this
        omega
      · exact Nat.le_refl _
theorem m_shortLoop {R T : zRo} (hN : zNt σ R T K G ds ks) (hV : zVk G ds ks) (h0 : 0 < G.1) (Q : zm_Out → Prop)
    (hQ : ∀ σ', zMm σ' R T K G (ds ++ [(6, 0, 0)]) ks → zKeep zFMe σ σ' → Q (some (.int (nI ((zrun G ds).2.2.length - (zshort 20 ((zrun G ds).2.2, (zrun G ds).2.1)).1.length))), zL, σ')) :
    zW 261 (48, [(0, .ref 118), (1, .int (nI 0)), (2, .int (nI 1))], [], zL, σ, 0, 0) Q := by
  generalize hZ : zshort 20 ((zrun G ds).2.2, (zrun G ds).2.1) = Z at hQ
  obtain ⟨hF, hRo, hT, hKm, gG, gN, gB, -⟩ := id hN
  have hok := hV.bok
  have hsn := zsn_le hV.1 (ztree G (zrun G ds).1)
  have done : ∀ (m : Nat) (σ1 : zm_Sig) (rs1 : List (List Int32)) (L1 : Int32), zMR (σ1.1 135) rs1 → σ1.1 135 2 = L1 → σ1.1 135 0 = σ.1 135 0 → zKeep zFMr σ σ1 → rs1.length + m = (zrun G ds).2.2.length → (rs1, L1) = Z → Q (some (.int (nI m)), zL, σ1) := by
    intro m σ1 rs1 L1 r1 r2 r3 hK hm hz
    have hM : zMm σ1 R T K G (ds ++ [(6, 0, 0)]) ks := hN.done hV (zFMr_e hK) (by
      show zMBk σ1 G ((zrun G ds).1, (zshort 20 ((zrun G ds).2.2, (zrun G ds).2.1)).2, (zshort 20 ((zrun G ds).2.2, (zrun G ds).2.1)).1)
      rw [hZ, ← hz]
      exact hN.rules h0 hK r1 r3 r2)
    have := hQ σ1 hM (zFMr_e hK)
    rw [← hz] at this
    have e : (zrun G ds).2.2.length - (rs1, L1).1.length = m := by
      show (zrun G ds).2.2.length - rs1.length = m
      omega
    rw [e] at this
    exact this
  refine zloop (fun m σ1 => (48, [(0, .ref 118), (1, .int (nI m)), (2, .int (nI 1))], [], zL, σ1, 0, 0)) (fun m σ1 => ∃ rs1 L1, zMR (σ1.1 135) rs1 ∧ σ1.1 135 2 = L1 ∧ σ1.1 135 0 = σ.1 135 0 ∧ zOK rs1 L1 ∧ (∀ k, k < 15 → zbit L1 k → zbit (zrun G ds).2.1 k) ∧ rs1.length + m = (zrun G ds).2.2.length ∧ zshort (20 - m) (rs1, L1) = Z ∧ zKeep zFMr σ σ1) 20 (fun m σ1 hm hI ih => ?_) (fun σ1 hI => ?_) 0 σ (by omega) ⟨_, _, gB.2.2, gB.2.1, rfl, hok.2.1, fun k _ q => q, rfl, hZ, zKeep.rf _ _⟩
  · obtain ⟨rs1, L1, r1, r2, r3, r4, r5, r6, r7, hK⟩ := hI
    have hF1 := hK.fix hF rfl
    have hcf := m_firstCut hF1 r1 r4.w
    obtain ⟨σ2, e2, hK2⟩ := m_firstSolved (S := zsn G (ztree G (zrun G ds).1)) (n := G.1) hF1 r1 r2 r4 ((hK.i rfl).trans gN.1) hsn (fun k hk q => hok.2.2 k hk (r5 k hk q)) ((hK.i rfl).trans gG.1) h0 hV.1.1
    have h15 := r4.1
    rw [show 20 - m = 20 - (m + 1) + 1 by omega] at r7
    unfold zshort at r7
    refine zW_of zg_261_48 ?_
    cases ec : zcf rs1 with
    | some i =>
      have hi := (zfirst_sp ec).1
      rw [ec] at hcf
      have hcf : zM 262 [.ref 118] zL σ1 = some (some (.int (nI i)), zL, σ1) := hcf
      obtain ⟨σ3, e3, p1, p2, p3, hK3⟩ := m_goesRule hF1 r1 r4.w hi
      simp only [ec] at r7
      simp (disch := first | assumption | omega) only [zn0, zn1, Option.bind_some, zm_ai, zm_al, zm_av, zm_opt, zm_fw, zE_l, zE_r, nI_add, pk_mul, pk_sub, pk_div, pk_rem, zrem, zpm1, zB_i0, zB_i1, zB_ok, zB_T, zB_F, nI_toInt, zT_sub, zT_neg, zT_le, zT_lt, nI_eq, zne1, zne2, zne9, ite_not, or_true, true_or, if_true, if_false, if_pos, if_neg, zw_R, zw_RL, zw_I, zF_R, zw_same, zw_cell, zw_ne, zF_at, zF_ne, zi_118, zx_118_0, zx_118_1, zx_118_2, zx_118_3, zx_118_7, zx_118_8, zx_118_9, zx_118_10, zx_118_11, zx_118_12, zx_118_13, zx_118_14, zx_118_15, zx_118_17, zx_118_18, zx_118_19, zx_118_21, zx_118_22, zx_118_24, zx_118_25, zx_118_30, zx_118_35, zx_118_36, zx_118_37, zx_118_38, zx_118_39, zx_118_41, zx_118_42, zx_118_44, zx_118_45, zx_118_46, zgI_119, zsI_119, zgI_120, zsI_120, zgI_121, zsI_121, zgI_122, zsI_122, zgI_123, zsI_123, zgI_124, zsI_124, zgI_125, zsI_125, zgI_126, zsI_126, zgI_127, zsI_127, zgI_128, zsI_128, zgI_129, zsI_129, zgI_130, zsI_130, zgI_131, zsI_131, zgI_132, zsI_132, zgI_133, zsI_133, zgI_134, zsI_134, zgI_135, zsI_135, zgI_136, zsI_136, zgI_137, zsI_137, zgI_139, zsI_139, zgI_140, zsI_140, zgI_141, zsI_141, zgI_142, zsI_142, zgI_143, zsI_143, zgI_144, zsI_144, zgI_145, zsI_145, zgI_146, zsI_146, zgI_147, zsI_147, zb_261_48, hcf, e3, not_true, not_false]
      refine ih σ3 ⟨_, L1, p1, p3.trans r2, p2.trans r3, r4.erase i, r5, ?_, r7, hK.tr (hK3.mo fun x k q => zFMr_of (by simp [q]))⟩
      rw [zerase_len hi]
      omega
    | none =>
      rw [ec] at hcf
      have hcf : zM 262 [.ref 118] zL σ1 = some (some (.int (-9)), zL, σ1) := hcf
      have hK2' : zKeep zFMr σ σ2 := hK.tr (hK2.mo fun x k q => zFMr_of (by simp [q]))
      have c135 : σ2.1 135 = σ1.1 135 := hK2.cell fun k => rfl
      simp only [ec] at r7
      cases en : zns rs1 with
      | some q =>
        obtain ⟨l, g, a1, a2, a3, -⟩ := zns_sp en
        rw [en] at e2
        have e2 : zM 263 [.ref 118] zL σ1 = some (some (.int (nI (q.1 * 16 + q.2))), zL, σ2) := e2
        have d1 : (q.1 * 16 + q.2) / 16 = q.1 := by omega
        obtain ⟨σ3, e3, p1, p2, p3, hK3⟩ := m_solves (L := L1) (hK2'.fix hF rfl) (by rw [c135]; exact r1) (by rw [c135]; exact r2) r4.w a1 a2 a3 g.2.1 g.2.2
        simp only [en] at r7
        have hdv : nI (q.1 * 16 + q.2) / nI 16 = nI q.1 := by rw [pk_div (by omega) (by omega) (by omega), d1]
        have hrm : nI (q.1 * 16 + q.2) - nI q.1 * nI 16 = nI q.2 := by
          rw [pk_mul, pk_sub (by omega)]
          congr 1
          omega
        have hne : (nI (q.1 * 16 + q.2) = -9) = False := zne9 (by omega)
        have h99 : ((-9 : Int32) = -9) = True := eq_true rfl
        have h10 : (nI 1 = nI 0) = False := eq_false (by decide)
        simp only [zb_261_48, zn0, zn1, h10, if_false, if_neg (nI_ge (show m < 20 by omega) (by decide)), zi_118, Option.bind_some, hcf, zm_ai, h99, not_true_eq_false, if_true, e2, hne, hdv, hrm, e3, zm_av, nI_add]
        refine ih σ3 ⟨_, _, p1, p3, (p2.trans (congrFun c135 0)).trans r3, r4.solve a1 a2 a3 g.2.1 g.2.2, fun k hk hb => r5 k hk ((zbit_clr a2 a3 hk).mp hb).1, ?_, r7, hK2'.tr (hK3.mo fun x k q => zFMr_of (by simp [q]))⟩
        rw [zsolve_len a1]
        omega
      | none =>
        rw [en] at e2
        have e2 : zM 263 [.ref 118] zL σ1 = some (some (.int (-9)), zL, σ2) := e2
        simp only [en] at r7
        have h99 : ((-9 : Int32) = -9) = True := eq_true rfl
        have h10 : (nI 1 = nI 0) = False := eq_false (by decide)
        simp only [zb_261_48, zn0, zn1, h10, if_false, if_neg (nI_ge (show m < 20 by omega) (by decide)), zi_118, Option.bind_some, hcf, zm_ai, h99, not_true_eq_false, if_true, e2, nI_add, Nat.add_zero]
        refine zW_of zg_261_48 ?_
        simp (disch := first | assumption | omega) only [zn0, zn1, Option.bind_some, zm_ai, zm_al, zm_av, zm_opt, zm_fw, zE_l, zE_r, nI_add, pk_mul, pk_sub, pk_div, pk_rem, zrem, zpm1, zB_i0, zB_i1, zB_ok, zB_T, zB_F, nI_toInt, zT_sub, zT_neg, zT_le, zT_lt, nI_eq, zne1, zne2, zne9, ite_not, or_true, true_or, if_true, if_false, if_pos, if_neg, zw_R, zw_RL, zw_I, zF_R, zw_same, zw_cell, zw_ne, zF_at, zF_ne, zi_118, zx_118_0, zx_118_1, zx_118_2, zx_118_3, zx_118_7, zx_118_8, zx_118_9, zx_118_10, zx_118_11, zx_118_12, zx_118_13, zx_118_14, zx_118_15, zx_118_17, zx_118_18, zx_118_19, zx_118_21, zx_118_22, zx_118_24, zx_118_25, zx_118_30, zx_118_35, zx_118_36, zx_118_37, zx_118_38, zx_118_39, zx_118_41, zx_118_42, zx_118_44, zx_118_45, zx_118_46, zgI_119, zsI_119, zgI_120, zsI_120, zgI_121, zsI_121, zgI_122, zsI_122, zgI_123, zsI_123, zgI_124, zsI_124, zgI_125, zsI_125, zgI_126, zsI_126, zgI_127, zsI_127, zgI_128, zsI_128, zgI_129, zsI_129, zgI_130, zsI_130, zgI_131, zsI_131, zgI_132, zsI_132, zgI_133, zsI_133, zgI_134, zsI_134, zgI_135, zsI_135, zgI_136, zsI_136, zgI_137, zsI_137, zgI_139, zsI_139, zgI_140, zsI_140, zgI_141, zsI_141, zgI_142, zsI_142, zgI_143, zsI_143, zgI_144, zsI_144, zgI_145, zsI_145, zgI_146, zsI_146, zgI_147, zsI_147, zb_261_48]
        exact done m σ2 rs1 L1 (by rw [c135]; exact r1) (by rw [c135]; exact r2) (by rw [c135]; exact r3) hK2' r6 r7
  · obtain ⟨rs1, L1, r1, r2, r3, r4, r5, r6, r7, hK⟩ := hI
    rw [Nat.sub_self] at r7
    refine zW_of zg_261_48 ?_
    simp (disch := first | assumption | omega) only [zn0, zn1, Option.bind_some, zm_ai, zm_al, zm_av, zm_opt, zm_fw, zE_l, zE_r, nI_add, pk_mul, pk_sub, pk_div, pk_rem, zrem, zpm1, zB_i0, zB_i1, zB_ok, zB_T, zB_F, nI_toInt, zT_sub, zT_neg, zT_le, zT_lt, nI_eq, zne1, zne2, zne9, ite_not, or_true, true_or, if_true, if_false, if_pos, if_neg, zw_R, zw_RL, zw_I, zF_R, zw_same, zw_cell, zw_ne, zF_at, zF_ne, zi_118, zx_118_0, zx_118_1, zx_118_2, zx_118_3, zx_118_7, zx_118_8, zx_118_9, zx_118_10, zx_118_11, zx_118_12, zx_118_13, zx_118_14, zx_118_15, zx_118_17, zx_118_18, zx_118_19, zx_118_21, zx_118_22, zx_118_24, zx_118_25, zx_118_30, zx_118_35, zx_118_36, zx_118_37, zx_118_38, zx_118_39, zx_118_41, zx_118_42, zx_118_44, zx_118_45, zx_118_46, zgI_119, zsI_119, zgI_120, zsI_120, zgI_121, zsI_121, zgI_122, zsI_122, zgI_123, zsI_123, zgI_124, zsI_124, zgI_125, zsI_125, zgI_126, zsI_126, zgI_127, zsI_127, zgI_128, zsI_128, zgI_129, zsI_129, zgI_130, zsI_130, zgI_131, zsI_131, zgI_132, zsI_132, zgI_133, zsI_133, zgI_134, zsI_134, zgI_135, zsI_135, zgI_136, zsI_136, zgI_137, zsI_137, zgI_139, zsI_139, zgI_140, zsI_140, zgI_141, zsI_141, zgI_142, zsI_142, zgI_143, zsI_143, zgI_144, zsI_144, zgI_145, zsI_145, zgI_146, zsI_146, zgI_147, zsI_147, zb_261_48]
    exact done 20 σ1 rs1 L1 r1 r2 r3 hK r6 r7
theorem k_shorten (h : zInv σ) : zCallV 126 261 [] σ := by
  obtain ⟨a, R, T, K, G, ds, ks, hC, hM, hV⟩ := h
  obtain ⟨hF, hR, hTx, hKc, ha, hcu, hsp, hG, hN, ⟨π, hCR⟩, hL, hO, hTl, hks, hpos, hzero⟩ := id hC
  have hok := hV.bok
  have hw := hok.2.1.w
  have h15 := hw.1
  have h20 := hV.len
  have h5 := hV.1.1
  have hai := zGo_i ha
  have hp := hG.1
  have hsn := zsn_le hV.1 (ztree G (zrun G ds).1)
  by_cases h0 : G.1 = 0
  · refine zCallV.of hV hV hM (v := .int (-4)) (zCo.same hC (zS_eq (zS_of ze_126 ?_))) fun σ1 hM1 => zMo.same hM1 (zS_eq (zS_of ze_261 ?_))
    · rw [h0] at hp
      simp (disch := first | assumption | omega) only [zn0, zn1, Option.bind_some, zm_ai, zm_al, zm_av, zm_opt, zm_fw, zE_l, zE_r, nI_add, pk_mul, pk_sub, pk_div, pk_rem, zrem, zpm1, zB_i0, zB_i1, zB_ok, zB_T, zB_F, nI_toInt, zT_sub, zT_neg, zT_le, zT_lt, nI_eq, zne1, zne2, zne9, ite_not, or_true, true_or, if_true, if_false, if_pos, if_neg, zw_R, zw_RL, zw_I, zF_R, zw_same, zw_cell, zw_ne, zF_at, zF_ne, zi_0, zi_1, zi_10, zi_17, zi_19, zi_20, zi_30, zi_48, zi_50, zi_52, zi_57, zi_59, zi_80, zi_93, zi_106, zi_110, zi_114, zx_0_0, zx_0_1, zx_0_2, zx_0_3, zx_0_4, zx_0_5, zx_0_6, zx_0_7, zx_0_8, zx_0_9, zx_0_10, zx_1_0, zx_1_1, zx_2_0, zx_2_1, zx_2_2, zx_2_3, zx_2_4, zx_2_5, zx_10_0, zx_10_1, zx_11_0, zx_11_1, zx_11_2, zx_11_3, zx_17_0, zx_19_0, zx_19_1, zx_19_2, zx_20_0, zx_20_1, zx_20_3, zx_20_4, zx_20_5, zx_20_6, zx_20_7, zx_20_8, zx_20_9, zx_30_0, zx_30_1, zx_30_4, zx_30_5, zx_48_0, zx_50_0, zx_52_0, zx_52_1, zx_52_2, zx_56_0, zx_56_1, zx_56_2, zx_57_0, zx_59_0, zx_80_3, zx_80_4, zx_80_5, zx_81_0, zx_81_1, zx_81_2, zx_81_3, zx_81_4, zx_81_5, zx_88_0, zx_88_1, zx_88_2, zx_93_3, zx_93_4, zx_93_5, zx_94_0, zx_94_1, zx_94_2, zx_94_3, zx_94_4, zx_94_5, zx_101_0, zx_101_1, zx_101_2, zx_106_0, zx_106_1, zx_106_2, zx_110_0, zx_110_1, zx_110_2, zx_114_0, zx_114_1, zx_114_2, zgI_9, zsI_9, zgI_16, zsI_16, zgI_18, zsI_18, zgI_21, zsI_21, zgI_22, zsI_22, zgI_23, zsI_23, zgI_24, zsI_24, zgI_25, zsI_25, zgI_26, zsI_26, zgI_27, zsI_27, zgI_28, zsI_28, zgI_29, zsI_29, zgI_47, zsI_47, zgI_49, zsI_49, zgI_51, zsI_51, zgI_53, zsI_53, zgI_54, zsI_54, zgI_55, zsI_55, zgI_58, zsI_58, zgI_76, zsI_76, zgI_79, zsI_79, zq_126_0_1, zq_126_0_2, zq_126_0_3, zh_126_0, hcu, hai, hp]
    · obtain ⟨hF1, hR1, hT1, hKm, gG, gN, gB, gd, -⟩ := id hM1
      have gp := gG.1
      rw [h0] at gp
      simp (disch := first | assumption | omega) only [zn0, zn1, Option.bind_some, zm_ai, zm_al, zm_av, zm_opt, zm_fw, zE_l, zE_r, nI_add, pk_mul, pk_sub, pk_div, pk_rem, zrem, zpm1, zB_i0, zB_i1, zB_ok, zB_T, zB_F, nI_toInt, zT_sub, zT_neg, zT_le, zT_lt, nI_eq, zne1, zne2, zne9, ite_not, or_true, true_or, if_true, if_false, if_pos, if_neg, zw_R, zw_RL, zw_I, zF_R, zw_same, zw_cell, zw_ne, zF_at, zF_ne, zi_118, zx_118_0, zx_118_1, zx_118_2, zx_118_3, zx_118_7, zx_118_8, zx_118_9, zx_118_10, zx_118_11, zx_118_12, zx_118_13, zx_118_14, zx_118_15, zx_118_17, zx_118_18, zx_118_19, zx_118_21, zx_118_22, zx_118_24, zx_118_25, zx_118_30, zx_118_35, zx_118_36, zx_118_37, zx_118_38, zx_118_39, zx_118_41, zx_118_42, zx_118_44, zx_118_45, zx_118_46, zgI_119, zsI_119, zgI_120, zsI_120, zgI_121, zsI_121, zgI_122, zsI_122, zgI_123, zsI_123, zgI_124, zsI_124, zgI_125, zsI_125, zgI_126, zsI_126, zgI_127, zsI_127, zgI_128, zsI_128, zgI_129, zsI_129, zgI_130, zsI_130, zgI_131, zsI_131, zgI_132, zsI_132, zgI_133, zsI_133, zgI_134, zsI_134, zgI_135, zsI_135, zgI_136, zsI_136, zgI_137, zsI_137, zgI_139, zsI_139, zgI_140, zsI_140, zgI_141, zsI_141, zgI_142, zsI_142, zgI_143, zsI_143, zgI_144, zsI_144, zgI_145, zsI_145, zgI_146, zsI_146, zgI_147, zsI_147, zb_261_0, gp]
  · have h0 : 0 < G.1 := by omega
    have can : ∃ σc, zM 127 [.ref 30] zL σ = some (some (.int (zB (zcf (zrun G ds).2.2 ≠ none ∨ zns (zrun G ds).2.2 ≠ none))), zL, σc) ∧ zKeep zFDS σ σc := by
      have e1 := c_firstToCut hF hCR hw
      obtain ⟨σc, e2, hKc1⟩ := c_nextToSolve hF hCR hw
      cases ec : zcf (zrun G ds).2.2 with
      | some i =>
        rw [ec] at e1
        have hi := (zfirst_sp ec).1
        have e1 : zM 116 [.ref 30] zL σ = some (some (.int (nI i)), zL, σ) := e1
        refine ⟨σ, zS_eq (zS_of ze_127 ?_), zKeep.rf _ _⟩
        rw [zB_t (Or.inl (by simp))]
        simp (disch := first | assumption | omega) only [zn0, zn1, Option.bind_some, zm_ai, zm_al, zm_av, zm_opt, zm_fw, zE_l, zE_r, nI_add, pk_mul, pk_sub, pk_div, pk_rem, zrem, zpm1, zB_i0, zB_i1, zB_ok, zB_T, zB_F, nI_toInt, zT_sub, zT_neg, zT_le, zT_lt, nI_eq, zne1, zne2, zne9, ite_not, or_true, true_or, if_true, if_false, if_pos, if_neg, zw_R, zw_RL, zw_I, zF_R, zw_same, zw_cell, zw_ne, zF_at, zF_ne, zi_0, zi_1, zi_10, zi_17, zi_19, zi_20, zi_30, zi_48, zi_50, zi_52, zi_57, zi_59, zi_80, zi_93, zi_106, zi_110, zi_114, zx_0_0, zx_0_1, zx_0_2, zx_0_3, zx_0_4, zx_0_5, zx_0_6, zx_0_7, zx_0_8, zx_0_9, zx_0_10, zx_1_0, zx_1_1, zx_2_0, zx_2_1, zx_2_2, zx_2_3, zx_2_4, zx_2_5, zx_10_0, zx_10_1, zx_11_0, zx_11_1, zx_11_2, zx_11_3, zx_17_0, zx_19_0, zx_19_1, zx_19_2, zx_20_0, zx_20_1, zx_20_3, zx_20_4, zx_20_5, zx_20_6, zx_20_7, zx_20_8, zx_20_9, zx_30_0, zx_30_1, zx_30_4, zx_30_5, zx_48_0, zx_50_0, zx_52_0, zx_52_1, zx_52_2, zx_56_0, zx_56_1, zx_56_2, zx_57_0, zx_59_0, zx_80_3, zx_80_4, zx_80_5, zx_81_0, zx_81_1, zx_81_2, zx_81_3, zx_81_4, zx_81_5, zx_88_0, zx_88_1, zx_88_2, zx_93_3, zx_93_4, zx_93_5, zx_94_0, zx_94_1, zx_94_2, zx_94_3, zx_94_4, zx_94_5, zx_101_0, zx_101_1, zx_101_2, zx_106_0, zx_106_1, zx_106_2, zx_110_0, zx_110_1, zx_110_2, zx_114_0, zx_114_1, zx_114_2, zgI_9, zsI_9, zgI_16, zsI_16, zgI_18, zsI_18, zgI_21, zsI_21, zgI_22, zsI_22, zgI_23, zsI_23, zgI_24, zsI_24, zgI_25, zsI_25, zgI_26, zsI_26, zgI_27, zsI_27, zgI_28, zsI_28, zgI_29, zsI_29, zgI_47, zsI_47, zgI_49, zsI_49, zgI_51, zsI_51, zgI_53, zsI_53, zgI_54, zsI_54, zgI_55, zsI_55, zgI_58, zsI_58, zgI_76, zsI_76, zgI_79, zsI_79, zb_127_0, e1, not_false]
      | none =>
        rw [ec] at e1
        have e1 : zM 116 [.ref 30] zL σ = some (some (.int (-nI 1)), zL, σ) := e1
        cases en : zns (zrun G ds).2.2 with
        | some q =>
          rw [en] at e2
          obtain ⟨l, g, a1, a2, a3, -⟩ := zns_sp en
          have e2 : zM 118 [.ref 30] zL σ = some (some (.int (nI (q.1 * 16 + q.2))), zL, σc) := e2
          refine ⟨σc, zS_eq (zS_of ze_127 ?_), hKc1⟩
          rw [zB_t (Or.inr (by simp))]
          simp (disch := first | assumption | omega) only [zn0, zn1, Option.bind_some, zm_ai, zm_al, zm_av, zm_opt, zm_fw, zE_l, zE_r, nI_add, pk_mul, pk_sub, pk_div, pk_rem, zrem, zpm1, zB_i0, zB_i1, zB_ok, zB_T, zB_F, nI_toInt, zT_sub, zT_neg, zT_le, zT_lt, nI_eq, zne1, zne2, zne9, ite_not, or_true, true_or, if_true, if_false, if_pos, if_neg, zw_R, zw_RL, zw_I, zF_R, zw_same, zw_cell, zw_ne, zF_at, zF_ne, zi_0, zi_1, zi_10, zi_17, zi_19, zi_20, zi_30, zi_48, zi_50, zi_52, zi_57, zi_59, zi_80, zi_93, zi_106, zi_110, zi_114, zx_0_0, zx_0_1, zx_0_2, zx_0_3, zx_0_4, zx_0_5, zx_0_6, zx_0_7, zx_0_8, zx_0_9, zx_0_10, zx_1_0, zx_1_1, zx_2_0, zx_2_1, zx_2_2, zx_2_3, zx_2_4, zx_2_5, zx_10_0, zx_10_1, zx_11_0, zx_11_1, zx_11_2, zx_11_3, zx_17_0, zx_19_0, zx_19_1, zx_19_2, zx_20_0, zx_20_1, zx_20_3, zx_20_4, zx_20_5, zx_20_6, zx_20_7, zx_20_8, zx_20_9, zx_30_0, zx_30_1, zx_30_4, zx_30_5, zx_48_0, zx_50_0, zx_52_0, zx_52_1, zx_52_2, zx_56_0, zx_56_1, zx_56_2, zx_57_0, zx_59_0, zx_80_3, zx_80_4, zx_80_5, zx_81_0, zx_81_1, zx_81_2, zx_81_3, zx_81_4, zx_81_5, zx_88_0, zx_88_1, zx_88_2, zx_93_3, zx_93_4, zx_93_5, zx_94_0, zx_94_1, zx_94_2, zx_94_3, zx_94_4, zx_94_5, zx_101_0, zx_101_1, zx_101_2, zx_106_0, zx_106_1, zx_106_2, zx_110_0, zx_110_1, zx_110_2, zx_114_0, zx_114_1, zx_114_2, zgI_9, zsI_9, zgI_16, zsI_16, zgI_18, zsI_18, zgI_21, zsI_21, zgI_22, zsI_22, zgI_23, zsI_23, zgI_24, zsI_24, zgI_25, zsI_25, zgI_26, zsI_26, zgI_27, zsI_27, zgI_28, zsI_28, zgI_29, zsI_29, zgI_47, zsI_47, zgI_49, zsI_49, zgI_51, zsI_51, zgI_53, zsI_53, zgI_54, zsI_54, zgI_55, zsI_55, zgI_58, zsI_58, zgI_76, zsI_76, zgI_79, zsI_79, zb_127_0, e1, not_true, e2]
        | none =>
          rw [en] at e2
          have e2 : zM 118 [.ref 30] zL σ = some (some (.int (-nI 1)), zL, σc) := e2
          refine ⟨σc, zS_eq (zS_of ze_127 ?_), hKc1⟩
          rw [zB_f (by simp)]
          simp (disch := first | assumption | omega) only [zn0, zn1, Option.bind_some, zm_ai, zm_al, zm_av, zm_opt, zm_fw, zE_l, zE_r, nI_add, pk_mul, pk_sub, pk_div, pk_rem, zrem, zpm1, zB_i0, zB_i1, zB_ok, zB_T, zB_F, nI_toInt, zT_sub, zT_neg, zT_le, zT_lt, nI_eq, zne1, zne2, zne9, ite_not, or_true, true_or, if_true, if_false, if_pos, if_neg, zw_R, zw_RL, zw_I, zF_R, zw_same, zw_cell, zw_ne, zF_at, zF_ne, zi_0, zi_1, zi_10, zi_17, zi_19, zi_20, zi_30, zi_48, zi_50, zi_52, zi_57, zi_59, zi_80, zi_93, zi_106, zi_110, zi_114, zx_0_0, zx_0_1, zx_0_2, zx_0_3, zx_0_4, zx_0_5, zx_0_6, zx_0_7, zx_0_8, zx_0_9, zx_0_10, zx_1_0, zx_1_1, zx_2_0, zx_2_1, zx_2_2, zx_2_3, zx_2_4, zx_2_5, zx_10_0, zx_10_1, zx_11_0, zx_11_1, zx_11_2, zx_11_3, zx_17_0, zx_19_0, zx_19_1, zx_19_2, zx_20_0, zx_20_1, zx_20_3, zx_20_4, zx_20_5, zx_20_6, zx_20_7, zx_20_8, zx_20_9, zx_30_0, zx_30_1, zx_30_4, zx_30_5, zx_48_0, zx_50_0, zx_52_0, zx_52_1, zx_52_2, zx_56_0, zx_56_1, zx_56_2, zx_57_0, zx_59_0, zx_80_3, zx_80_4, zx_80_5, zx_81_0, zx_81_1, zx_81_2, zx_81_3, zx_81_4, zx_81_5, zx_88_0, zx_88_1, zx_88_2, zx_93_3, zx_93_4, zx_93_5, zx_94_0, zx_94_1, zx_94_2, zx_94_3, zx_94_4, zx_94_5, zx_101_0, zx_101_1, zx_101_2, zx_106_0, zx_106_1, zx_106_2, zx_110_0, zx_110_1, zx_110_2, zx_114_0, zx_114_1, zx_114_2, zgI_9, zsI_9, zgI_16, zsI_16, zgI_18, zsI_18, zgI_21, zsI_21, zgI_22, zsI_22, zgI_23, zsI_23, zgI_24, zsI_24, zgI_25, zsI_25, zgI_26, zsI_26, zgI_27, zsI_27, zgI_28, zsI_28, zgI_29, zsI_29, zgI_47, zsI_47, zgI_49, zsI_49, zgI_51, zsI_51, zgI_53, zsI_53, zgI_54, zsI_54, zgI_55, zsI_55, zgI_58, zsI_58, zgI_76, zsI_76, zgI_79, zsI_79, zb_127_0, e1, not_true, e2]
    obtain ⟨σc, ec, hKc1⟩ := can
    have hCc := hC.scr hV (zFDS_scr hKc1)
    have hFc := hCc.1
    have hTlc := hTl.keep hKc1 rfl (fun b k _ _ => zff fun q => by simp only [zFDS, zFW, Bool.or_eq_true, Bool.and_eq_true, beq_iff_eq] at q; omega)
    have ef := c_isFull hFc hTlc h20 (m := 1) (by decide)
    have hss : σc.1 30 2 = nI (zrun G ds).2.2.length := (hKc1.i rfl).trans hCR.2.1
    have pre : ∀ σ1, zMm σ1 R T K G ds ks → zM 262 [.ref 118] zL σ1 = some (some (.int (zenc (-9) (zcf (zrun G ds).2.2))), zL, σ1) ∧ ∃ σ2, zM 263 [.ref 118] zL σ1 = some (some (.int (zenc2 (-9) (zns (zrun G ds).2.2))), zL, σ2) ∧ zKeep zFMs σ1 σ2 := by
      intro σ1 hM1
      obtain ⟨hF1, hR1, hT1, hKm, gG, gN, gB, gd, -⟩ := id hM1
      exact ⟨m_firstCut hF1 gB.2.2 hw, m_firstSolved (n := G.1) hF1 gB.2.2 gB.2.1 hok.2.1 gN.1 hsn hok.2.2 gG.1 h0 hV.1.1⟩
    by_cases hc : zcf (zrun G ds).2.2 ≠ none ∨ zns (zrun G ds).2.2 ≠ none
    · rw [zB_t hc] at ec
      by_cases q2 : ds.length = 20
      · rw [zB_t (by omega)] at ef
        refine zCallV.of hV hV hM (v := .int (-2)) (a' := a) (R' := R) (T' := T) (K' := K) ⟨σc, zS_eq (zS_of ze_126 ?_), hCc, zScr_cls (zFDS_scr hKc1)⟩ fun σ1 hM1 => ?_
        · simp (disch := first | assumption | omega) only [zn0, zn1, Option.bind_some, zm_ai, zm_al, zm_av, zm_opt, zm_fw, zE_l, zE_r, nI_add, pk_mul, pk_sub, pk_div, pk_rem, zrem, zpm1, zB_i0, zB_i1, zB_ok, zB_T, zB_F, nI_toInt, zT_sub, zT_neg, zT_le, zT_lt, nI_eq, zne1, zne2, zne9, ite_not, or_true, true_or, if_true, if_false, if_pos, if_neg, zw_R, zw_RL, zw_I, zF_R, zw_same, zw_cell, zw_ne, zF_at, zF_ne, zi_0, zi_1, zi_10, zi_17, zi_19, zi_20, zi_30, zi_48, zi_50, zi_52, zi_57, zi_59, zi_80, zi_93, zi_106, zi_110, zi_114, zx_0_0, zx_0_1, zx_0_2, zx_0_3, zx_0_4, zx_0_5, zx_0_6, zx_0_7, zx_0_8, zx_0_9, zx_0_10, zx_1_0, zx_1_1, zx_2_0, zx_2_1, zx_2_2, zx_2_3, zx_2_4, zx_2_5, zx_10_0, zx_10_1, zx_11_0, zx_11_1, zx_11_2, zx_11_3, zx_17_0, zx_19_0, zx_19_1, zx_19_2, zx_20_0, zx_20_1, zx_20_3, zx_20_4, zx_20_5, zx_20_6, zx_20_7, zx_20_8, zx_20_9, zx_30_0, zx_30_1, zx_30_4, zx_30_5, zx_48_0, zx_50_0, zx_52_0, zx_52_1, zx_52_2, zx_56_0, zx_56_1, zx_56_2, zx_57_0, zx_59_0, zx_80_3, zx_80_4, zx_80_5, zx_81_0, zx_81_1, zx_81_2, zx_81_3, zx_81_4, zx_81_5, zx_88_0, zx_88_1, zx_88_2, zx_93_3, zx_93_4, zx_93_5, zx_94_0, zx_94_1, zx_94_2, zx_94_3, zx_94_4, zx_94_5, zx_101_0, zx_101_1, zx_101_2, zx_106_0, zx_106_1, zx_106_2, zx_110_0, zx_110_1, zx_110_2, zx_114_0, zx_114_1, zx_114_2, zgI_9, zsI_9, zgI_16, zsI_16, zgI_18, zsI_18, zgI_21, zsI_21, zgI_22, zsI_22, zgI_23, zsI_23, zgI_24, zsI_24, zgI_25, zsI_25, zgI_26, zsI_26, zgI_27, zsI_27, zgI_28, zsI_28, zgI_29, zsI_29, zgI_47, zsI_47, zgI_49, zsI_49, zgI_51, zsI_51, zgI_53, zsI_53, zgI_54, zsI_54, zgI_55, zsI_55, zgI_58, zsI_58, zgI_76, zsI_76, zgI_79, zsI_79, zq_126_0_1, zq_126_0_2, zq_126_0_3, zh_126_0, hcu, hai, hp, ec, not_false, ef]
        · obtain ⟨p1, σ2, p2, hK2⟩ := pre σ1 hM1
          obtain ⟨hF1, hR1, hT1, hKm, gG, gN, gB, gd, -⟩ := id hM1
          have gp := gG.1
          have gd2 := (hK2.i (a := 118) (k := 23) rfl).trans gd
          rw [q2] at gd gd2
          cases ecf : zcf (zrun G ds).2.2 with
          | some i =>
            have hi := (zfirst_sp ecf).1
            rw [ecf] at p1
            have p1 : zM 262 [.ref 118] zL σ1 = some (some (.int (nI i)), zL, σ1) := p1
            refine zMo.same hM1 (zS_eq (zS_of ze_261 ?_))
            simp (disch := first | assumption | omega) only [zn0, zn1, Option.bind_some, zm_ai, zm_al, zm_av, zm_opt, zm_fw, zE_l, zE_r, nI_add, pk_mul, pk_sub, pk_div, pk_rem, zrem, zpm1, zB_i0, zB_i1, zB_ok, zB_T, zB_F, nI_toInt, zT_sub, zT_neg, zT_le, zT_lt, nI_eq, zne1, zne2, zne9, ite_not, or_true, true_or, if_true, if_false, if_pos, if_neg, zw_R, zw_RL, zw_I, zF_R, zw_same, zw_cell, zw_ne, zF_at, zF_ne, zi_118, zx_118_0, zx_118_1, zx_118_2, zx_118_3, zx_118_7, zx_118_8, zx_118_9, zx_118_10, zx_118_11, zx_118_12, zx_118_13, zx_118_14, zx_118_15, zx_118_17, zx_118_18, zx_118_19, zx_118_21, zx_118_22, zx_118_24, zx_118_25, zx_118_30, zx_118_35, zx_118_36, zx_118_37, zx_118_38, zx_118_39, zx_118_41, zx_118_42, zx_118_44, zx_118_45, zx_118_46, zgI_119, zsI_119, zgI_120, zsI_120, zgI_121, zsI_121, zgI_122, zsI_122, zgI_123, zsI_123, zgI_124, zsI_124, zgI_125, zsI_125, zgI_126, zsI_126, zgI_127, zsI_127, zgI_128, zsI_128, zgI_129, zsI_129, zgI_130, zsI_130, zgI_131, zsI_131, zgI_132, zsI_132, zgI_133, zsI_133, zgI_134, zsI_134, zgI_135, zsI_135, zgI_136, zsI_136, zgI_137, zsI_137, zgI_139, zsI_139, zgI_140, zsI_140, zgI_141, zsI_141, zgI_142, zsI_142, zgI_143, zsI_143, zgI_144, zsI_144, zgI_145, zsI_145, zgI_146, zsI_146, zgI_147, zsI_147, zb_261_0, gp, p1, not_false, not_true, gd]
          | none =>
            rw [ecf] at p1
            have p1 : zM 262 [.ref 118] zL σ1 = some (some (.int (-9)), zL, σ1) := p1
            cases en : zns (zrun G ds).2.2 with
            | none => exact absurd hc (by simp [ecf, en])
            | some q =>
              obtain ⟨l, g, a1, a2, a3, -⟩ := zns_sp en
              rw [en] at p2
              have p2 : zM 263 [.ref 118] zL σ1 = some (some (.int (nI (q.1 * 16 + q.2))), zL, σ2) := p2
              refine ⟨σ2, zS_eq (zS_of ze_261 ?_), hM1.scr hV (zFMs_msc hK2), zMsc_rfs (zFMs_msc hK2)⟩
              simp (disch := first | assumption | omega) only [zn0, zn1, Option.bind_some, zm_ai, zm_al, zm_av, zm_opt, zm_fw, zE_l, zE_r, nI_add, pk_mul, pk_sub, pk_div, pk_rem, zrem, zpm1, zB_i0, zB_i1, zB_ok, zB_T, zB_F, nI_toInt, zT_sub, zT_neg, zT_le, zT_lt, nI_eq, zne1, zne2, zne9, ite_not, or_true, true_or, if_true, if_false, if_pos, if_neg, zw_R, zw_RL, zw_I, zF_R, zw_same, zw_cell, zw_ne, zF_at, zF_ne, zi_118, zx_118_0, zx_118_1, zx_118_2, zx_118_3, zx_118_7, zx_118_8, zx_118_9, zx_118_10, zx_118_11, zx_118_12, zx_118_13, zx_118_14, zx_118_15, zx_118_17, zx_118_18, zx_118_19, zx_118_21, zx_118_22, zx_118_24, zx_118_25, zx_118_30, zx_118_35, zx_118_36, zx_118_37, zx_118_38, zx_118_39, zx_118_41, zx_118_42, zx_118_44, zx_118_45, zx_118_46, zgI_119, zsI_119, zgI_120, zsI_120, zgI_121, zsI_121, zgI_122, zsI_122, zgI_123, zsI_123, zgI_124, zsI_124, zgI_125, zsI_125, zgI_126, zsI_126, zgI_127, zsI_127, zgI_128, zsI_128, zgI_129, zsI_129, zgI_130, zsI_130, zgI_131, zsI_131, zgI_132, zsI_132, zgI_133, zsI_133, zgI_134, zsI_134, zgI_135, zsI_135, zgI_136, zsI_136, zgI_137, zsI_137, zgI_139, zsI_139, zgI_140, zsI_140, zgI_141, zsI_141, zgI_142, zsI_142, zgI_143, zsI_143, zgI_144, zsI_144, zgI_145, zsI_145, zgI_146, zsI_146, zgI_147, zsI_147, zb_261_0, gp, p1, p2, not_false, not_true, gd2]
      · rw [zB_f (by omega)] at ef
        have hd : zva (6, 0, 0) (zrun G ds) := by show 6 < 8; decide
        have hV' := hV.snoc h0 (by omega) hd
        have hln : (zrun G (ds ++ [(6, 0, 0)])).2.2.length = (zshort 20 ((zrun G ds).2.2, (zrun G ds).2.1)).1.length := by
          rw [zrun_snoc]
          rfl
        have hle := zshort_len 20 ((zrun G ds).2.2, (zrun G ds).2.1)
        simp only at hle
        refine zCallV.of hV hV' hM (v := .int (nI ((zrun G ds).2.2.length - (zshort 20 ((zrun G ds).2.2, (zrun G ds).2.1)).1.length))) (a' := a) (R' := R) (T' := T) (K' := K) ?_ fun σ1 hM1 => ?_
        · obtain ⟨σ1, e1, hC1, hK1⟩ := hCc.perf hV h0 (by omega) hd
          obtain ⟨hF1, hR1, hTx1, hKc1', ha1, hcu1, hsp1, hG1, hN1, ⟨π1, hCR1⟩, hL1, hO1, hTl1, -⟩ := id hC1
          have hs1 := hCR1.2.1
          rw [hln] at hs1
          refine ⟨σ1, zS_eq (zS_of ze_126 ?_), hC1, (zScr_cls (zFDS_scr hKc1)).tr (zFP_cls hK1)⟩
          simp (disch := first | assumption | omega) only [zn0, zn1, Option.bind_some, zm_ai, zm_al, zm_av, zm_opt, zm_fw, zE_l, zE_r, nI_add, pk_mul, pk_sub, pk_div, pk_rem, zrem, zpm1, zB_i0, zB_i1, zB_ok, zB_T, zB_F, nI_toInt, zT_sub, zT_neg, zT_le, zT_lt, nI_eq, zne1, zne2, zne9, ite_not, or_true, true_or, if_true, if_false, if_pos, if_neg, zw_R, zw_RL, zw_I, zF_R, zw_same, zw_cell, zw_ne, zF_at, zF_ne, zi_0, zi_1, zi_10, zi_17, zi_19, zi_20, zi_30, zi_48, zi_50, zi_52, zi_57, zi_59, zi_80, zi_93, zi_106, zi_110, zi_114, zx_0_0, zx_0_1, zx_0_2, zx_0_3, zx_0_4, zx_0_5, zx_0_6, zx_0_7, zx_0_8, zx_0_9, zx_0_10, zx_1_0, zx_1_1, zx_2_0, zx_2_1, zx_2_2, zx_2_3, zx_2_4, zx_2_5, zx_10_0, zx_10_1, zx_11_0, zx_11_1, zx_11_2, zx_11_3, zx_17_0, zx_19_0, zx_19_1, zx_19_2, zx_20_0, zx_20_1, zx_20_3, zx_20_4, zx_20_5, zx_20_6, zx_20_7, zx_20_8, zx_20_9, zx_30_0, zx_30_1, zx_30_4, zx_30_5, zx_48_0, zx_50_0, zx_52_0, zx_52_1, zx_52_2, zx_56_0, zx_56_1, zx_56_2, zx_57_0, zx_59_0, zx_80_3, zx_80_4, zx_80_5, zx_81_0, zx_81_1, zx_81_2, zx_81_3, zx_81_4, zx_81_5, zx_88_0, zx_88_1, zx_88_2, zx_93_3, zx_93_4, zx_93_5, zx_94_0, zx_94_1, zx_94_2, zx_94_3, zx_94_4, zx_94_5, zx_101_0, zx_101_1, zx_101_2, zx_106_0, zx_106_1, zx_106_2, zx_110_0, zx_110_1, zx_110_2, zx_114_0, zx_114_1, zx_114_2, zgI_9, zsI_9, zgI_16, zsI_16, zgI_18, zsI_18, zgI_21, zsI_21, zgI_22, zsI_22, zgI_23, zsI_23, zgI_24, zsI_24, zgI_25, zsI_25, zgI_26, zsI_26, zgI_27, zsI_27, zgI_28, zsI_28, zgI_29, zsI_29, zgI_47, zsI_47, zgI_49, zsI_49, zgI_51, zsI_51, zgI_53, zsI_53, zgI_54, zsI_54, zgI_55, zsI_55, zgI_58, zsI_58, zgI_76, zsI_76, zgI_79, zsI_79, zq_126_0_1, zq_126_0_2, zq_126_0_3, zh_126_0, hcu, hai, hp, ec, not_false, ef, hss, e1, hs1]
        · obtain ⟨p1, σ2, p2, hK2⟩ := pre σ1 hM1
          obtain ⟨hF1, hR1, hT1, hKm, gG, gN, gB, gd, -⟩ := id hM1
          have gp := gG.1
          have gd2 := (hK2.i (a := 118) (k := 23) rfl).trans gd
          have fin : ∀ σ0, zMm σ0 R T K G ds ks → zKeep zRfs σ1 σ0 → ∃ σn, zM 246 [.ref 118] zL σ0 = some (none, zL, σn) ∧ zW 261 (48, [(0, .ref 118), (1, .int (nI 0)), (2, .int (nI 1))], [], zL, σn, 0, 0) (fun q => ∃ σ', q = (some (.int (nI ((zrun G ds).2.2.length - (zshort 20 ((zrun G ds).2.2, (zrun G ds).2.1)).1.length))), zL, σ') ∧ (zMm σ' R T K G (ds ++ [(6, 0, 0)]) ks ∧ zKeep zRfs σ1 σ')) := by
            intro σ0 hM0 hK0
            obtain ⟨σn, en, hNn, hKn⟩ := m_notes hM0 hV (by omega)
            exact ⟨σn, en, m_shortLoop hNn hV h0 _ fun σ' hM' hK' => ⟨σ', rfl, hM', hK0.tr ((zFMn_rfs hKn).tr (zFMe_rfs hK'))⟩⟩
          have key : ∃ σ', zM 261 [.ref 118] zL σ1 = some (some (.int (nI ((zrun G ds).2.2.length - (zshort 20 ((zrun G ds).2.2, (zrun G ds).2.1)).1.length))), zL, σ') ∧ (zMm σ' R T K G (ds ++ [(6, 0, 0)]) ks ∧ zKeep zRfs σ1 σ') := by
            refine zS_ex (zS_of ze_261 ?_)
            cases ecf : zcf (zrun G ds).2.2 with
            | some i =>
              have hi := (zfirst_sp ecf).1
              rw [ecf] at p1
              have p1 : zM 262 [.ref 118] zL σ1 = some (some (.int (nI i)), zL, σ1) := p1
              obtain ⟨σn, en, hW⟩ := fin σ1 hM1 (zKeep.rf _ _)
              simp (disch := first | assumption | omega) only [zn0, zn1, Option.bind_some, zm_ai, zm_al, zm_av, zm_opt, zm_fw, zE_l, zE_r, nI_add, pk_mul, pk_sub, pk_div, pk_rem, zrem, zpm1, zB_i0, zB_i1, zB_ok, zB_T, zB_F, nI_toInt, zT_sub, zT_neg, zT_le, zT_lt, nI_eq, zne1, zne2, zne9, ite_not, or_true, true_or, if_true, if_false, if_pos, if_neg, zw_R, zw_RL, zw_I, zF_R, zw_same, zw_cell, zw_ne, zF_at, zF_ne, zi_118, zx_118_0, zx_118_1, zx_118_2, zx_118_3, zx_118_7, zx_118_8, zx_118_9, zx_118_10, zx_118_11, zx_118_12, zx_118_13, zx_118_14, zx_118_15, zx_118_17, zx_118_18, zx_118_19, zx_118_21, zx_118_22, zx_118_24, zx_118_25, zx_118_30, zx_118_35, zx_118_36, zx_118_37, zx_118_38, zx_118_39, zx_118_41, zx_118_42, zx_118_44, zx_118_45, zx_118_46, zgI_119, zsI_119, zgI_120, zsI_120, zgI_121, zsI_121, zgI_122, zsI_122, zgI_123, zsI_123, zgI_124, zsI_124, zgI_125, zsI_125, zgI_126, zsI_126, zgI_127, zsI_127, zgI_128, zsI_128, zgI_129, zsI_129, zgI_130, zsI_130, zgI_131, zsI_131, zgI_132, zsI_132, zgI_133, zsI_133, zgI_134, zsI_134, zgI_135, zsI_135, zgI_136, zsI_136, zgI_137, zsI_137, zgI_139, zsI_139, zgI_140, zsI_140, zgI_141, zsI_141, zgI_142, zsI_142, zgI_143, zsI_143, zgI_144, zsI_144, zgI_145, zsI_145, zgI_146, zsI_146, zgI_147, zsI_147, zb_261_0, gp, p1, not_false, not_true, gd, en]
              exact hW
            | none =>
              rw [ecf] at p1
              have p1 : zM 262 [.ref 118] zL σ1 = some (some (.int (-9)), zL, σ1) := p1
              cases ens : zns (zrun G ds).2.2 with
              | none => exact absurd hc (by simp [ecf, ens])
              | some q =>
                obtain ⟨l, g, a1, a2, a3, -⟩ := zns_sp ens
                rw [ens] at p2
                have p2 : zM 263 [.ref 118] zL σ1 = some (some (.int (nI (q.1 * 16 + q.2))), zL, σ2) := p2
                obtain ⟨σn, en, hW⟩ := fin σ2 (hM1.scr hV (zFMs_msc hK2)) (zMsc_rfs (zFMs_msc hK2))
                simp (disch := first | assumption | omega) only [zn0, zn1, Option.bind_some, zm_ai, zm_al, zm_av, zm_opt, zm_fw, zE_l, zE_r, nI_add, pk_mul, pk_sub, pk_div, pk_rem, zrem, zpm1, zB_i0, zB_i1, zB_ok, zB_T, zB_F, nI_toInt, zT_sub, zT_neg, zT_le, zT_lt, nI_eq, zne1, zne2, zne9, ite_not, or_true, true_or, if_true, if_false, if_pos, if_neg, zw_R, zw_RL, zw_I, zF_R, zw_same, zw_cell, zw_ne, zF_at, zF_ne, zi_118, zx_118_0, zx_118_1, zx_118_2, zx_118_3, zx_118_7, zx_118_8, zx_118_9, zx_118_10, zx_118_11, zx_118_12, zx_118_13, zx_118_14, zx_118_15, zx_118_17, zx_118_18, zx_118_19, zx_118_21, zx_118_22, zx_118_24, zx_118_25, zx_118_30, zx_118_35, zx_118_36, zx_118_37, zx_118_38, zx_118_39, zx_118_41, zx_118_42, zx_118_44, zx_118_45, zx_118_46, zgI_119, zsI_119, zgI_120, zsI_120, zgI_121, zsI_121, zgI_122, zsI_122, zgI_123, zsI_123, zgI_124, zsI_124, zgI_125, zsI_125, zgI_126, zsI_126, zgI_127, zsI_127, zgI_128, zsI_128, zgI_129, zsI_129, zgI_130, zsI_130, zgI_131, zsI_131, zgI_132, zsI_132, zgI_133, zsI_133, zgI_134, zsI_134, zgI_135, zsI_135, zgI_136, zsI_136, zgI_137, zsI_137, zgI_139, zsI_139, zgI_140, zsI_140, zgI_141, zsI_141, zgI_142, zsI_142, zgI_143, zsI_143, zgI_144, zsI_144, zgI_145, zsI_145, zgI_146, zsI_146, zgI_147, zsI_147, zb_261_0, gp, p1, p2, not_false, not_true, gd2, en]
                exact hW
          obtain ⟨σ', e1, hM', hK'⟩ := key
          exact ⟨σ', e1, hM', hK'⟩
    · rw [zB_f hc] at ec
      refine zCallV.of hV hV hM (v := .int (-4)) (a' := a) (R' := R) (T' := T) (K' := K) ⟨σc, zS_eq (zS_of ze_126 ?_), hCc, zScr_cls (zFDS_scr hKc1)⟩ fun σ1 hM1 => ?_
      · simp (disch := first | assumption | omega) only [zn0, zn1, Option.bind_some, zm_ai, zm_al, zm_av, zm_opt, zm_fw, zE_l, zE_r, nI_add, pk_mul, pk_sub, pk_div, pk_rem, zrem, zpm1, zB_i0, zB_i1, zB_ok, zB_T, zB_F, nI_toInt, zT_sub, zT_neg, zT_le, zT_lt, nI_eq, zne1, zne2, zne9, ite_not, or_true, true_or, if_true, if_false, if_pos, if_neg, zw_R, zw_RL, zw_I, zF_R, zw_same, zw_cell, zw_ne, zF_at, zF_ne, zi_0, zi_1, zi_10, zi_17, zi_19, zi_20, zi_30, zi_48, zi_50, zi_52, zi_57, zi_59, zi_80, zi_93, zi_106, zi_110, zi_114, zx_0_0, zx_0_1, zx_0_2, zx_0_3, zx_0_4, zx_0_5, zx_0_6, zx_0_7, zx_0_8, zx_0_9, zx_0_10, zx_1_0, zx_1_1, zx_2_0, zx_2_1, zx_2_2, zx_2_3, zx_2_4, zx_2_5, zx_10_0, zx_10_1, zx_11_0, zx_11_1, zx_11_2, zx_11_3, zx_17_0, zx_19_0, zx_19_1, zx_19_2, zx_20_0, zx_20_1, zx_20_3, zx_20_4, zx_20_5, zx_20_6, zx_20_7, zx_20_8, zx_20_9, zx_30_0, zx_30_1, zx_30_4, zx_30_5, zx_48_0, zx_50_0, zx_52_0, zx_52_1, zx_52_2, zx_56_0, zx_56_1, zx_56_2, zx_57_0, zx_59_0, zx_80_3, zx_80_4, zx_80_5, zx_81_0, zx_81_1, zx_81_2, zx_81_3, zx_81_4, zx_81_5, zx_88_0, zx_88_1, zx_88_2, zx_93_3, zx_93_4, zx_93_5, zx_94_0, zx_94_1, zx_94_2, zx_94_3, zx_94_4, zx_94_5, zx_101_0, zx_101_1, zx_101_2, zx_106_0, zx_106_1, zx_106_2, zx_110_0, zx_110_1, zx_110_2, zx_114_0, zx_114_1, zx_114_2, zgI_9, zsI_9, zgI_16, zsI_16, zgI_18, zsI_18, zgI_21, zsI_21, zgI_22, zsI_22, zgI_23, zsI_23, zgI_24, zsI_24, zgI_25, zsI_25, zgI_26, zsI_26, zgI_27, zsI_27, zgI_28, zsI_28, zgI_29, zsI_29, zgI_47, zsI_47, zgI_49, zsI_49, zgI_51, zsI_51, zgI_53, zsI_53, zgI_54, zsI_54, zgI_55, zsI_55, zgI_58, zsI_58, zgI_76, zsI_76, zgI_79, zsI_79, zq_126_0_1, zq_126_0_2, zq_126_0_3, zh_126_0, hcu, hai, hp, ec, not_true]
      · obtain ⟨p1, σ2, p2, hK2⟩ := pre σ1 hM1
        obtain ⟨hF1, hR1, hT1, hKm, gG, gN, gB, gd, -⟩ := id hM1
        have gp := gG.1
        have n1 : zcf (zrun G ds).2.2 = none := Classical.byContradiction fun q => hc (Or.inl q)
        have n2 : zns (zrun G ds).2.2 = none := Classical.byContradiction fun q => hc (Or.inr q)
        rw [n1] at p1
        rw [n2] at p2
        have p1 : zM 262 [.ref 118] zL σ1 = some (some (.int (-9)), zL, σ1) := p1
        have p2 : zM 263 [.ref 118] zL σ1 = some (some (.int (-9)), zL, σ2) := p2
        refine ⟨σ2, zS_eq (zS_of ze_261 ?_), hM1.scr hV (zFMs_msc hK2), zMsc_rfs (zFMs_msc hK2)⟩
        simp (disch := first | assumption | omega) only [zn0, zn1, Option.bind_some, zm_ai, zm_al, zm_av, zm_opt, zm_fw, zE_l, zE_r, nI_add, pk_mul, pk_sub, pk_div, pk_rem, zrem, zpm1, zB_i0, zB_i1, zB_ok, zB_T, zB_F, nI_toInt, zT_sub, zT_neg, zT_le, zT_lt, nI_eq, zne1, zne2, zne9, ite_not, or_true, true_or, if_true, if_false, if_pos, if_neg, zw_R, zw_RL, zw_I, zF_R, zw_same, zw_cell, zw_ne, zF_at, zF_ne, zi_118, zx_118_0, zx_118_1, zx_118_2, zx_118_3, zx_118_7, zx_118_8, zx_118_9, zx_118_10, zx_118_11, zx_118_12, zx_118_13, zx_118_14, zx_118_15, zx_118_17, zx_118_18, zx_118_19, zx_118_21, zx_118_22, zx_118_24, zx_118_25, zx_118_30, zx_118_35, zx_118_36, zx_118_37, zx_118_38, zx_118_39, zx_118_41, zx_118_42, zx_118_44, zx_118_45, zx_118_46, zgI_119, zsI_119, zgI_120, zsI_120, zgI_121, zsI_121, zgI_122, zsI_122, zgI_123, zsI_123, zgI_124, zsI_124, zgI_125, zsI_125, zgI_126, zsI_126, zgI_127, zsI_127, zgI_128, zsI_128, zgI_129, zsI_129, zgI_130, zsI_130, zgI_131, zsI_131, zgI_132, zsI_132, zgI_133, zsI_133, zgI_134, zsI_134, zgI_135, zsI_135, zgI_136, zsI_136, zgI_137, zsI_137, zgI_139, zsI_139, zgI_140, zsI_140, zgI_141, zsI_141, zgI_142, zsI_142, zgI_143, zsI_143, zgI_144, zsI_144, zgI_145, zsI_145, zgI_146, zsI_146, zgI_147, zsI_147, zb_261_0, gp, p1, p2, not_false, not_true]
end ZSS
