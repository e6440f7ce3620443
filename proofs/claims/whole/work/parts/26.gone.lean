/-! a rule goes -/
theorem zr_erase {rs : List (List Int32)} {i j : Nat} : zr (rs.eraseIdx i) j = if j < i then zr rs j else zr rs (j + 1) := by
  unfold zr
  rw [List.getD_eq_getElem?_getD, List.getElem?_eraseIdx]
  split <;> rw [List.getD_eq_getElem?_getD]
theorem zerase_len {rs : List (List Int32)} {i : Nat} (h : i < rs.length) : (rs.eraseIdx i).length = rs.length - 1 := by
  rw [List.length_eraseIdx, if_pos h]
theorem zsR_31 {σ : zm_Sig} {i p : Nat} (h : i < 15) (hp : p < 15) : zm_sR zL σ 31 (nI i) (32 + p) = some (zm_wR σ 31 i (some (32 + p))) := by
  unfold zm_sR
  rw [zL_ru hp]
  have h1 : ¬ (nI i < 0 ∨ 15 ≤ (nI i).toNatClampNeg) := vp_in_nI h (by decide)
  show (if nI i < 0 ∨ 15 ≤ (nI i).toNatClampNeg then none else some _) = _
  rw [if_neg h1, nI_clamp (by omega)]
theorem zR_same (σ : zm_Sig) (a i : Nat) (v : Option Nat) : (zm_wR σ a i v).2.2 a i = v := by simp [zm_wR, va_up]
theorem zR_ne (σ : zm_Sig) {a i b j : Nat} (v : Option Nat) (h : b ≠ a ∨ j ≠ i) : (zm_wR σ a i v).2.2 b j = σ.2.2 b j := by
  by_cases e : b = a
  · subst e
    have hj : j ≠ i := h.resolve_left (fun q => q rfl)
    simp [zm_wR, va_up, hj]
  · simp [zm_wR, va_up, e]
theorem zR_I (σ : zm_Sig) (a i : Nat) (v : Option Nat) : (zm_wR σ a i v).1 = σ.1 := rfl
theorem zR_L (σ : zm_Sig) (a i : Nat) (v : Option Nat) : (zm_wR σ a i v).2.1 = σ.2.1 := rfl
theorem zRb (σ : zm_Sig) {a i b : Nat} (v : Option Nat) (h : b ≠ a) : (zm_wR σ a i v).2.2 b = σ.2.2 b := by
  simp [zm_wR, va_up, h]
/-- the class: rows change places -/
def zFG (a k : Nat) : Bool := a == 31 || a == 47 || (a == 30 && k == 2)
section ZGO
variable {σ : zm_Sig} {π : Nat → Nat} {i : Nat} {rs : List (List Int32)}
theorem c_gone (hF : zFix σ) (h : zCR σ π rs) (hl : rs.length ≤ 15) (hi : i < rs.length) :
    ∃ σ', zM 111 [.ref 30, .int (nI i)] zL σ = some (none, zL, σ') ∧ (∃ π', zCR σ' π' (rs.eraseIdx i)) ∧ zKeep zFG σ σ' := by
  refine zS_ex (zS_of ze_111 ?_)
  obtain ⟨⟨p1, p2, p3⟩, h2, h3⟩ := id h
  have hpi := p2 i (by omega)
  simp (disch := first | assumption | omega) only [zn0, zn1, Option.bind_some, zm_ai, zm_al, zm_av, zm_opt, zm_fw, zE_l, zE_r, nI_add, pk_mul, pk_sub, pk_div, pk_rem, zrem, zpm1, zB_i0, zB_i1, zB_ok, zB_T, zB_F, nI_toInt, zT_sub, zT_neg, zT_le, zT_lt, nI_eq, zne1, zne2, ite_not, or_true, true_or, if_true, if_false, if_pos, if_neg, zw_R, zw_RL, zw_I, zF_R, zw_same, zw_cell, zw_ne, zF_at, zF_ne, zi_0, zi_1, zi_10, zi_17, zi_19, zi_20, zi_30, zi_48, zi_50, zi_52, zi_57, zi_59, zi_80, zi_93, zi_106, zi_110, zi_114, zx_0_0, zx_0_1, zx_0_2, zx_0_3, zx_0_4, zx_0_5, zx_0_6, zx_0_7, zx_0_8, zx_0_9, zx_0_10, zx_1_0, zx_1_1, zx_2_0, zx_2_1, zx_2_2, zx_2_3, zx_2_4, zx_2_5, zx_10_0, zx_10_1, zx_11_0, zx_11_1, zx_11_2, zx_11_3, zx_17_0, zx_19_0, zx_19_1, zx_19_2, zx_20_0, zx_20_1, zx_20_3, zx_20_4, zx_20_5, zx_20_6, zx_20_7, zx_20_8, zx_20_9, zx_30_0, zx_30_1, zx_30_4, zx_30_5, zx_48_0, zx_50_0, zx_52_0, zx_52_1, zx_52_2, zx_56_0, zx_56_1, zx_56_2, zx_57_0, zx_59_0, zx_80_3, zx_80_4, zx_80_5, zx_81_0, zx_81_1, zx_81_2, zx_81_3, zx_81_4, zx_81_5, zx_88_0, zx_88_1, zx_88_2, zx_93_3, zx_93_4, zx_93_5, zx_94_0, zx_94_1, zx_94_2, zx_94_3, zx_94_4, zx_94_5, zx_101_0, zx_101_1, zx_101_2, zx_106_0, zx_106_1, zx_106_2, zx_110_0, zx_110_1, zx_110_2, zx_114_0, zx_114_1, zx_114_2, zgI_9, zsI_9, zgI_16, zsI_16, zgI_18, zsI_18, zgI_21, zsI_21, zgI_22, zsI_22, zgI_23, zsI_23, zgI_24, zsI_24, zgI_25, zsI_25, zgI_26, zsI_26, zgI_27, zsI_27, zgI_28, zsI_28, zgI_29, zsI_29, zgI_47, zsI_47, zgI_49, zsI_49, zgI_51, zsI_51, zgI_53, zsI_53, zgI_54, zsI_54, zgI_55, zsI_55, zgI_58, zsI_58, zgI_76, zsI_76, zgI_79, zsI_79, zb_111_0, c_isRule h hl, p1, zgR_31]
  refine zloop (fun k σ' => (18, [(0, .ref 30), (2, .ref (32 + π i)), (3, .int (nI k))], [], zL, σ', 0, 0)) (fun k σ' => i ≤ k ∧ (∀ j, j < 15 → σ'.2.2 31 j = some (32 + (if i ≤ j ∧ j < k then π (j + 1) else π j))) ∧ (∀ j, j < 15 → σ'.1 47 j = if i ≤ j ∧ j < k then σ.1 47 (j + 1) else σ.1 47 j) ∧ σ'.1 30 2 = nI rs.length ∧ zKeep zFG σ σ') (rs.length - 1) (fun k σ' hk hI ih => ?_) (fun σ' hI => ?_) i σ (by omega) ?_
  · obtain ⟨hk1, r1, r2, r3, hK⟩ := hI
    have hF' := hK.fix hF rfl
    have a1 := r1 (k + 1) (by omega)
    rw [if_neg (by omega)] at a1
    have a2 := r2 (k + 1) (by omega)
    rw [if_neg (by omega)] at a2
    have hpk := p2 (k + 1) (by omega)
    refine zW_of zg_111_18 ?_
    simp (disch := first | assumption | omega) only [zn0, zn1, Option.bind_some, zm_ai, zm_al, zm_av, zm_opt, zm_fw, zE_l, zE_r, nI_add, pk_mul, pk_sub, pk_div, pk_rem, zrem, zpm1, zB_i0, zB_i1, zB_ok, zB_T, zB_F, nI_toInt, zT_sub, zT_neg, zT_le, zT_lt, nI_eq, zne1, zne2, ite_not, or_true, true_or, if_true, if_false, if_pos, if_neg, zw_R, zw_RL, zw_I, zF_R, zw_same, zw_cell, zw_ne, zF_at, zF_ne, zi_0, zi_1, zi_10, zi_17, zi_19, zi_20, zi_30, zi_48, zi_50, zi_52, zi_57, zi_59, zi_80, zi_93, zi_106, zi_110, zi_114, zx_0_0, zx_0_1, zx_0_2, zx_0_3, zx_0_4, zx_0_5, zx_0_6, zx_0_7, zx_0_8, zx_0_9, zx_0_10, zx_1_0, zx_1_1, zx_2_0, zx_2_1, zx_2_2, zx_2_3, zx_2_4, zx_2_5, zx_10_0, zx_10_1, zx_11_0, zx_11_1, zx_11_2, zx_11_3, zx_17_0, zx_19_0, zx_19_1, zx_19_2, zx_20_0, zx_20_1, zx_20_3, zx_20_4, zx_20_5, zx_20_6, zx_20_7, zx_20_8, zx_20_9, zx_30_0, zx_30_1, zx_30_4, zx_30_5, zx_48_0, zx_50_0, zx_52_0, zx_52_1, zx_52_2, zx_56_0, zx_56_1, zx_56_2, zx_57_0, zx_59_0, zx_80_3, zx_80_4, zx_80_5, zx_81_0, zx_81_1, zx_81_2, zx_81_3, zx_81_4, zx_81_5, zx_88_0, zx_88_1, zx_88_2, zx_93_3, zx_93_4, zx_93_5, zx_94_0, zx_94_1, zx_94_2, zx_94_3, zx_94_4, zx_94_5, zx_101_0, zx_101_1, zx_101_2, zx_106_0, zx_106_1, zx_106_2, zx_110_0, zx_110_1, zx_110_2, zx_114_0, zx_114_1, zx_114_2, zgI_9, zsI_9, zgI_16, zsI_16, zgI_18, zsI_18, zgI_21, zsI_21, zgI_22, zsI_22, zgI_23, zsI_23, zgI_24, zsI_24, zgI_25, zsI_25, zgI_26, zsI_26, zgI_27, zsI_27, zgI_28, zsI_28, zgI_29, zsI_29, zgI_47, zsI_47, zgI_49, zsI_49, zgI_51, zsI_51, zgI_53, zsI_53, zgI_54, zsI_54, zgI_55, zsI_55, zgI_58, zsI_58, zgI_76, zsI_76, zgI_79, zsI_79, zb_111_18, r3, a1, a2, zgR_31, zsR_31, zR_I, zRb]
    refine ih _ ⟨by omega, fun j hj => ?_, fun j hj => ?_, ?_, ?_⟩
    · rw [zw_R]
      by_cases e : j = k
      · subst e; rw [zR_same, if_pos (by omega)]
      · rw [zR_ne _ _ (Or.inr e), r1 j hj]
        by_cases e3 : i ≤ j ∧ j < k
        · rw [if_pos e3, if_pos (by omega)]
        · rw [if_neg e3, if_neg (by omega)]
    · by_cases e : j = k
      · subst e; rw [zw_same, if_pos (by omega)]
      · rw [zw_ne _ _ (Or.inr e), zR_I, r2 j hj]
        by_cases e3 : i ≤ j ∧ j < k
        · rw [if_pos e3, if_pos (by omega)]
        · rw [if_neg e3, if_neg (by omega)]
    · rw [zw_cell _ _ (by decide), zR_I]
      exact r3
    · exact (hK.wR rfl).wI rfl
  · obtain ⟨hk1, r1, r2, r3, hK⟩ := hI
    have hF' := hK.fix hF rfl
    refine zW_of zg_111_18 ?_
    simp (disch := first | assumption | omega) only [zn0, zn1, Option.bind_some, zm_ai, zm_al, zm_av, zm_opt, zm_fw, zE_l, zE_r, nI_add, pk_mul, pk_sub, pk_div, pk_rem, zrem, zpm1, zB_i0, zB_i1, zB_ok, zB_T, zB_F, nI_toInt, zT_sub, zT_neg, zT_le, zT_lt, nI_eq, zne1, zne2, ite_not, or_true, true_or, if_true, if_false, if_pos, if_neg, zw_R, zw_RL, zw_I, zF_R, zw_same, zw_cell, zw_ne, zF_at, zF_ne, zi_0, zi_1, zi_10, zi_17, zi_19, zi_20, zi_30, zi_48, zi_50, zi_52, zi_57, zi_59, zi_80, zi_93, zi_106, zi_110, zi_114, zx_0_0, zx_0_1, zx_0_2, zx_0_3, zx_0_4, zx_0_5, zx_0_6, zx_0_7, zx_0_8, zx_0_9, zx_0_10, zx_1_0, zx_1_1, zx_2_0, zx_2_1, zx_2_2, zx_2_3, zx_2_4, zx_2_5, zx_10_0, zx_10_1, zx_11_0, zx_11_1, zx_11_2, zx_11_3, zx_17_0, zx_19_0, zx_19_1, zx_19_2, zx_20_0, zx_20_1, zx_20_3, zx_20_4, zx_20_5, zx_20_6, zx_20_7, zx_20_8, zx_20_9, zx_30_0, zx_30_1, zx_30_4, zx_30_5, zx_48_0, zx_50_0, zx_52_0, zx_52_1, zx_52_2, zx_56_0, zx_56_1, zx_56_2, zx_57_0, zx_59_0, zx_80_3, zx_80_4, zx_80_5, zx_81_0, zx_81_1, zx_81_2, zx_81_3, zx_81_4, zx_81_5, zx_88_0, zx_88_1, zx_88_2, zx_93_3, zx_93_4, zx_93_5, zx_94_0, zx_94_1, zx_94_2, zx_94_3, zx_94_4, zx_94_5, zx_101_0, zx_101_1, zx_101_2, zx_106_0, zx_106_1, zx_106_2, zx_110_0, zx_110_1, zx_110_2, zx_114_0, zx_114_1, zx_114_2, zgI_9, zsI_9, zgI_16, zsI_16, zgI_18, zsI_18, zgI_21, zsI_21, zgI_22, zsI_22, zgI_23, zsI_23, zgI_24, zsI_24, zgI_25, zsI_25, zgI_26, zsI_26, zgI_27, zsI_27, zgI_28, zsI_28, zgI_29, zsI_29, zgI_47, zsI_47, zgI_49, zsI_49, zgI_51, zsI_51, zgI_53, zsI_53, zgI_54, zsI_54, zgI_55, zsI_55, zgI_58, zsI_58, zgI_76, zsI_76, zgI_79, zsI_79, zb_111_18, r3, zgR_31, zsR_31, zR_I, zRb]
    refine ⟨_, rfl, ⟨fun j => if j = rs.length - 1 then π i else if i ≤ j ∧ j < rs.length - 1 then π (j + 1) else π j, ⟨fun j hj => ?_, fun j hj => ?_, fun j j' hj hj' e => ?_⟩, ?_, fun j hj => ⟨?_, fun m hm => ?_⟩⟩, ?_⟩
    · rw [zw_R]
      show _ = some (32 + (if j = rs.length - 1 then π i else if i ≤ j ∧ j < rs.length - 1 then π (j + 1) else π j))
      by_cases e : j = rs.length - 1
      · rw [e, zR_same, if_pos rfl]
      · rw [zR_ne _ _ (Or.inr e), r1 j hj, if_neg e]
    · show (if j = rs.length - 1 then π i else if i ≤ j ∧ j < rs.length - 1 then π (j + 1) else π j) < 15
      split
      · exact hpi
      · split
        · exact p2 _ (by omega)
        · exact p2 _ hj
    · have e' : (if j = rs.length - 1 then π i else if i ≤ j ∧ j < rs.length - 1 then π (j + 1) else π j) = (if j' = rs.length - 1 then π i else if i ≤ j' ∧ j' < rs.length - 1 then π (j' + 1) else π j') := e
      by_cases c1 : j = rs.length - 1
      · rw [if_pos c1] at e'
        by_cases d1 : j' = rs.length - 1
        · omega
        · rw [if_neg d1] at e'
          by_cases d2 : i ≤ j' ∧ j' < rs.length - 1
          · rw [if_pos d2] at e'
            have := p3 _ _ (by omega) (by omega) e'
            omega
          · rw [if_neg d2] at e'
            have := p3 _ _ (by omega) (by omega) e'
            omega
      · rw [if_neg c1] at e'
        by_cases c2 : i ≤ j ∧ j < rs.length - 1
        · rw [if_pos c2] at e'
          by_cases d1 : j' = rs.length - 1
          · rw [if_pos d1] at e'
            have := p3 _ _ (by omega) (by omega) e'
            omega
          · rw [if_neg d1] at e'
            by_cases d2 : i ≤ j' ∧ j' < rs.length - 1
            · rw [if_pos d2] at e'
              have := p3 _ _ (by omega) (by omega) e'
              omega
            · rw [if_neg d2] at e'
              have := p3 _ _ (by omega) (by omega) e'
              omega
        · rw [if_neg c2] at e'
          by_cases d1 : j' = rs.length - 1
          · rw [if_pos d1] at e'
            have := p3 _ _ (by omega) (by omega) e'
            omega
          · rw [if_neg d1] at e'
            by_cases d2 : i ≤ j' ∧ j' < rs.length - 1
            · rw [if_pos d2] at e'
              have := p3 _ _ (by omega) (by omega) e'
              omega
            · rw [if_neg d2] at e'
              exact p3 _ _ (by omega) (by omega) e'
    · rw [zw_same, zerase_len hi]
    · rw [zerase_len hi] at hj
      rw [zw_cell _ _ (by decide), zR_I, r2 j (by omega), zr_erase]
      by_cases e : j < i
      · rw [if_neg (by omega), if_pos e]
        exact (h3 j (by omega)).1
      · rw [if_pos (by omega), if_neg e]
        exact (h3 (j + 1) (by omega)).1
    · rw [zerase_len hi] at hj
      rw [zr_erase] at hm ⊢
      show (zm_wI _ 30 2 _).1 (32 + (if j = rs.length - 1 then π i else if i ≤ j ∧ j < rs.length - 1 then π (j + 1) else π j)) m = _
      rw [zw_cell _ _ (by omega), zR_I, if_neg (by omega)]
      have hp1 := p2 (j + 1) (by omega)
      have hp2 := p2 j (by omega)
      by_cases e : j < i
      · rw [if_pos e] at hm ⊢
        rw [if_neg (by omega), hK.i (by simp [zFG]; omega)]
        exact (h3 j (by omega)).2 m hm
      · rw [if_neg e] at hm ⊢
        rw [if_pos (by omega), hK.i (by simp [zFG]; omega)]
        exact (h3 (j + 1) (by omega)).2 m hm
    · exact (hK.wR rfl).wI rfl
  · exact ⟨Nat.le_refl _, fun j hj => by rw [if_neg (by omega)]; exact p1 j hj, fun j hj => by rw [if_neg (by omega)], h2, zKeep.rf _ _⟩
theorem m_goesRule (hF : zFix σ) (h : zMR (σ.1 135) rs) (hw : zWR rs) (hi : i < rs.length) :
    ∃ σ', zM 255 [.ref 118, .int (nI i)] zL σ = some (none, zL, σ') ∧ zMR (σ'.1 135) (rs.eraseIdx i) ∧ σ'.1 135 0 = σ.1 135 0 ∧ σ'.1 135 2 = σ.1 135 2 ∧ zKeep zFMp σ σ' := by
  obtain ⟨w1, w2⟩ := id hw
  obtain ⟨h2, h3⟩ := h
  refine zS_ex (zS_of ze_255 ?_)
  simp (disch := first | assumption | omega) only [zn0, zn1, Option.bind_some, zm_ai, zm_al, zm_av, zm_opt, zm_fw, zE_l, zE_r, nI_add, pk_mul, pk_sub, pk_div, pk_rem, zrem, zpm1, zB_i0, zB_i1, zB_ok, zB_T, zB_F, nI_toInt, zT_sub, zT_neg, zT_le, zT_lt, nI_eq, zne1, zne2, ite_not, or_true, true_or, if_true, if_false, if_pos, if_neg, zw_R, zw_RL, zw_I, zF_R, zw_same, zw_cell, zw_ne, zF_at, zF_ne, zi_118, zx_118_0, zx_118_1, zx_118_2, zx_118_3, zx_118_7, zx_118_8, zx_118_9, zx_118_10, zx_118_11, zx_118_12, zx_118_13, zx_118_14, zx_118_15, zx_118_17, zx_118_18, zx_118_19, zx_118_21, zx_118_22, zx_118_24, zx_118_25, zx_118_30, zx_118_35, zx_118_36, zx_118_37, zx_118_38, zx_118_39, zx_118_41, zx_118_42, zx_118_44, zx_118_45, zx_118_46, zgI_119, zsI_119, zgI_120, zsI_120, zgI_121, zsI_121, zgI_122, zsI_122, zgI_123, zsI_123, zgI_124, zsI_124, zgI_125, zsI_125, zgI_126, zsI_126, zgI_127, zsI_127, zgI_128, zsI_128, zgI_129, zsI_129, zgI_130, zsI_130, zgI_131, zsI_131, zgI_132, zsI_132, zgI_133, zsI_133, zgI_134, zsI_134, zgI_135, zsI_135, zgI_136, zsI_136, zgI_137, zsI_137, zgI_139, zsI_139, zgI_140, zsI_140, zgI_141, zsI_141, zgI_142, zsI_142, zgI_143, zsI_143, zgI_144, zsI_144, zgI_145, zsI_145, zgI_146, zsI_146, zgI_147, zsI_147, zb_255_0, h2]
  refine zloop (fun k σ' => (12, [(0, .ref 118), (2, .int (nI k))], [], zL, σ', 0, 0)) (fun k σ' => i ≤ k ∧ σ'.1 135 1 = nI (rs.length - 1) ∧ σ'.1 135 0 = σ.1 135 0 ∧ σ'.1 135 2 = σ.1 135 2 ∧ (∀ j, j < k → zRu (σ'.1 135) j (zr (rs.eraseIdx i) j)) ∧ (∀ j, k ≤ j → j < rs.length → zRu (σ'.1 135) j (zr rs j)) ∧ zKeep zFMp σ σ') (rs.length - 1) (fun k σ' hk hI ih => ?_) (fun σ' hI => ?_) i _ (by omega) ?_
  · obtain ⟨hk1, r1, r0, r2, r3, r4, hK⟩ := hI
    have hF' := hK.fix hF rfl
    refine zW_of zg_255_12 ?_
    have hc := fun σ' => m_bring (σ := σ') (s := 135) (d := 135) (ns := 258) (nd := 258) rfl rfl (by decide) (by decide) (i := 18 + 16 * (k + 1)) (j := 18 + 16 * k) (n := 16) (by omega) (by omega) (Or.inr (by omega))
    simp (disch := first | assumption | omega) only [zn0, zn1, Option.bind_some, zm_ai, zm_al, zm_av, zm_opt, zm_fw, zE_l, zE_r, nI_add, pk_mul, pk_sub, pk_div, pk_rem, zrem, zpm1, zB_i0, zB_i1, zB_ok, zB_T, zB_F, nI_toInt, zT_sub, zT_neg, zT_le, zT_lt, nI_eq, zne1, zne2, ite_not, or_true, true_or, if_true, if_false, if_pos, if_neg, zw_R, zw_RL, zw_I, zF_R, zw_same, zw_cell, zw_ne, zF_at, zF_ne, zi_118, zx_118_0, zx_118_1, zx_118_2, zx_118_3, zx_118_7, zx_118_8, zx_118_9, zx_118_10, zx_118_11, zx_118_12, zx_118_13, zx_118_14, zx_118_15, zx_118_17, zx_118_18, zx_118_19, zx_118_21, zx_118_22, zx_118_24, zx_118_25, zx_118_30, zx_118_35, zx_118_36, zx_118_37, zx_118_38, zx_118_39, zx_118_41, zx_118_42, zx_118_44, zx_118_45, zx_118_46, zgI_119, zsI_119, zgI_120, zsI_120, zgI_121, zsI_121, zgI_122, zsI_122, zgI_123, zsI_123, zgI_124, zsI_124, zgI_125, zsI_125, zgI_126, zsI_126, zgI_127, zsI_127, zgI_128, zsI_128, zgI_129, zsI_129, zgI_130, zsI_130, zgI_131, zsI_131, zgI_132, zsI_132, zgI_133, zsI_133, zgI_134, zsI_134, zgI_135, zsI_135, zgI_136, zsI_136, zgI_137, zsI_137, zgI_139, zsI_139, zgI_140, zsI_140, zgI_141, zsI_141, zgI_142, zsI_142, zgI_143, zsI_143, zgI_144, zsI_144, zgI_145, zsI_145, zgI_146, zsI_146, zgI_147, zsI_147, zb_255_12, r1, hc]
    obtain ⟨s1, s2⟩ := r4 (k + 1) (by omega) (by omega)
    have hlk := (w2 (k + 1) (by omega)).1
    refine ih _ ⟨by omega, ?_, ?_, ?_, fun j hj => ⟨?_, fun m hm => ?_⟩, fun j hj hj2 => ⟨?_, fun m hm => ?_⟩, ?_⟩
    · rw [zF_at, if_neg (by omega), zw_ne _ _ (Or.inr (by omega))]
      exact r1
    · rw [zF_at, if_neg (by omega), zw_ne _ _ (Or.inr (by omega))]
      exact r0
    · rw [zF_at, if_neg (by omega), zw_ne _ _ (Or.inr (by omega))]
      exact r2
    · rw [zF_at, if_neg (by omega)]
      by_cases e : j = k
      · subst e
        rw [zw_same, zr_erase, if_neg (by omega), Nat.add_assoc]
        exact s1
      · rw [zw_ne _ _ (Or.inr (by omega))]
        exact (r3 j (by omega)).1
    · rw [zF_at]
      by_cases e : j = k
      · subst e
        rw [zr_erase, if_neg (show ¬ j < i by omega)] at hm ⊢
        rw [if_pos (by omega), show 18 + 16 * (j + 1) + (18 + 16 * j + m - (18 + 16 * j)) = 18 + 16 * (j + 1) + m by omega]
        exact s2 m hm
      · have : (zr (rs.eraseIdx i) j).length ≤ 16 := by
          rw [zr_erase]
          split
          · exact (w2 j (by omega)).1
          · exact (w2 (j + 1) (by omega)).1
        rw [if_neg (by omega), zw_ne _ _ (Or.inr (by omega))]
        exact (r3 j (by omega)).2 m hm
    · rw [zF_at, if_neg (by omega), zw_ne _ _ (Or.inr (by omega))]
      exact (r4 j (by omega) hj2).1
    · have := (w2 j hj2).1
      rw [zF_at, if_neg (by omega), zw_ne _ _ (Or.inr (by omega))]
      exact (r4 j (by omega) hj2).2 m hm
    · exact (hK.wI rfl).wF fun k => rfl
  · obtain ⟨hk1, r1, r0, r2, r3, r4, hK⟩ := hI
    have hF' := hK.fix hF rfl
    refine zW_of zg_255_12 ?_
    simp (disch := first | assumption | omega) only [zn0, zn1, Option.bind_some, zm_ai, zm_al, zm_av, zm_opt, zm_fw, zE_l, zE_r, nI_add, pk_mul, pk_sub, pk_div, pk_rem, zrem, zpm1, zB_i0, zB_i1, zB_ok, zB_T, zB_F, nI_toInt, zT_sub, zT_neg, zT_le, zT_lt, nI_eq, zne1, zne2, ite_not, or_true, true_or, if_true, if_false, if_pos, if_neg, zw_R, zw_RL, zw_I, zF_R, zw_same, zw_cell, zw_ne, zF_at, zF_ne, zi_118, zx_118_0, zx_118_1, zx_118_2, zx_118_3, zx_118_7, zx_118_8, zx_118_9, zx_118_10, zx_118_11, zx_118_12, zx_118_13, zx_118_14, zx_118_15, zx_118_17, zx_118_18, zx_118_19, zx_118_21, zx_118_22, zx_118_24, zx_118_25, zx_118_30, zx_118_35, zx_118_36, zx_118_37, zx_118_38, zx_118_39, zx_118_41, zx_118_42, zx_118_44, zx_118_45, zx_118_46, zgI_119, zsI_119, zgI_120, zsI_120, zgI_121, zsI_121, zgI_122, zsI_122, zgI_123, zsI_123, zgI_124, zsI_124, zgI_125, zsI_125, zgI_126, zsI_126, zgI_127, zsI_127, zgI_128, zsI_128, zgI_129, zsI_129, zgI_130, zsI_130, zgI_131, zsI_131, zgI_132, zsI_132, zgI_133, zsI_133, zgI_134, zsI_134, zgI_135, zsI_135, zgI_136, zsI_136, zgI_137, zsI_137, zgI_139, zsI_139, zgI_140, zsI_140, zgI_141, zsI_141, zgI_142, zsI_142, zgI_143, zsI_143, zgI_144, zsI_144, zgI_145, zsI_145, zgI_146, zsI_146, zgI_147, zsI_147, zb_255_12, r1]
    refine ⟨σ', rfl, ⟨by rw [zerase_len hi]; exact r1, fun j hj => r3 j (by rw [zerase_len hi] at hj; omega)⟩, r0, r2, hK⟩
  · refine ⟨Nat.le_refl _, zw_same _ _ _ _, zw_ne _ _ (Or.inr (by omega)), zw_ne _ _ (Or.inr (by omega)), fun j hj => ⟨?_, fun m hm => ?_⟩, fun j hj hj2 => ⟨?_, fun m hm => ?_⟩, (zKeep.rf zFMp σ).wI rfl⟩
    · rw [zr_erase, if_pos hj, zw_ne _ _ (Or.inr (by omega))]
      exact (h3 j (by omega)).1
    · rw [zr_erase, if_pos hj] at hm ⊢
      rw [zw_ne _ _ (Or.inr (by omega))]
      exact (h3 j (by omega)).2 m hm
    · rw [zw_ne _ _ (Or.inr (by omega))]
      exact (h3 j (by omega)).1
    · rw [zw_ne _ _ (Or.inr (by omega))]
      exact (h3 j (by omega)).2 m hm
end ZGO
