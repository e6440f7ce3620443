/-! the tree grows deep: class and reference -/
def zltv (o : Option Nat) : Int32 := match o with
  | some l => zlt l
  | none => nI 0
noncomputable def zdl (G : zG) (t : zT) (k : Nat) : Nat → Int32
  | 0 => nI 0
  | d + 1 => @ite _ (zMet t (zmv G k (zlt (2 * G.2.1 - (d + 1))))) (Classical.propDecidable _) (zdl G t k d) (zlt (2 * G.2.1 - (d + 1)))
theorem zdl_m {G : zG} {t : zT} {k d : Nat} (h : zMet t (zmv G k (zlt (2 * G.2.1 - (d + 1))))) : zdl G t k (d + 1) = zdl G t k d := if_pos h
theorem zdl_n {G : zG} {t : zT} {k d : Nat} (h : ¬ zMet t (zmv G k (zlt (2 * G.2.1 - (d + 1))))) : zdl G t k (d + 1) = zlt (2 * G.2.1 - (d + 1)) := if_neg h
theorem zdl_sp (G : zG) (t : zT) (k : Nat) : ∀ d, d ≤ 2 * G.2.1 → (zdl G t k d = nI 0 ∧ ∀ l, 2 * G.2.1 - d ≤ l → l < 2 * G.2.1 → zMet t (zmv G k (zlt l))) ∨ ∃ l, 2 * G.2.1 - d ≤ l ∧ l < 2 * G.2.1 ∧ ¬ zMet t (zmv G k (zlt l)) ∧ (∀ j, 2 * G.2.1 - d ≤ j → j < l → zMet t (zmv G k (zlt j))) ∧ zdl G t k d = zlt l
  | 0, _ => Or.inl ⟨rfl, fun l h1 h2 => by omega⟩
  | d + 1, hd => by
    by_cases hm : zMet t (zmv G k (zlt (2 * G.2.1 - (d + 1))))
    · rw [zdl_m hm]
      rcases zdl_sp G t k d (by omega) with ⟨h1, h2⟩ | ⟨l, h1, h2, h3, h4, h5⟩
      · refine Or.inl ⟨h1, fun l a b => ?_⟩
        by_cases e : l = 2 * G.2.1 - (d + 1)
        · rw [e]; exact hm
        · exact h2 l (by omega) b
      · refine Or.inr ⟨l, by omega, h2, h3, fun j a b => ?_, h5⟩
        by_cases e : j = 2 * G.2.1 - (d + 1)
        · rw [e]; exact hm
        · exact h4 j (by omega) b
    · exact Or.inr ⟨_, Nat.le_refl _, by omega, hm, fun j a b => by omega, zdl_n hm⟩
theorem zdl_eq (G : zG) (t : zT) (k : Nat) : zdl G t k (2 * G.2.1) = zltv (zltn G t k) := by
  unfold zltn
  rcases zdl_sp G t k (2 * G.2.1) (Nat.le_refl _) with ⟨h1, h2⟩ | ⟨l, h1, h2, h3, h4, h5⟩
  · rw [zfirst_no (fun j hj => not_not_intro (h2 j (by omega) hj))]
    exact h1
  · rw [zfirst_yes (P := fun l => ¬ zMet t (zmv G k (zlt l))) h3 (fun j hj => not_not_intro (h4 j (by omega) hj)) h2]
    exact h5
/-- a group that is read -/
def zGk (G : zG) : Prop := zGv G ∧ zTr G ∧ 2 ≤ G.1 ∧ 1 ≤ G.2.1
section ZDP
variable {σ : zm_Sig} {a : Nat} {G : zG} {t : zT}
theorem c_letterToNew (hF : zFix σ) (ha : zGo a) (hG : zCG σ a G) (hv : zGv G) (h : zCT σ t) (hT : zTi G t) {k : Nat} (hk : zMet t k) : zM 55 [.ref 20, .ref a, .int (nI k)] zL σ = some (some (.int (zltv (zltn G t k))), zL, σ) := by
  refine zS_eq (zS_of ze_55 ?_)
  have v1 := hv.1
  have v2 := hv.2.1
  have hg2 := hG.2.1
  have hklt := hT.lt hk
  simp (disch := first | assumption | omega) only [zn0, zn1, Option.bind_some, zm_ai, zm_al, zm_av, zm_opt, zm_fw, zE_l, zE_r, nI_add, pk_mul, pk_sub, pk_div, pk_rem, zrem, zpm1, zB_i0, zB_i1, zB_ok, zB_T, zB_F, nI_toInt, zT_sub, zT_neg, zT_le, zT_lt, nI_eq, zne1, zne2, zne9, ite_not, or_true, true_or, if_true, if_false, if_pos, if_neg, zw_R, zw_RL, zw_I, zF_R, zw_same, zw_cell, zw_ne, zF_at, zF_ne, zi_0, zi_1, zi_10, zi_17, zi_19, zi_20, zi_30, zi_48, zi_50, zi_52, zi_57, zi_59, zi_80, zi_93, zi_106, zi_110, zi_114, zx_0_0, zx_0_1, zx_0_2, zx_0_3, zx_0_4, zx_0_5, zx_0_6, zx_0_7, zx_0_8, zx_0_9, zx_0_10, zx_1_0, zx_1_1, zx_2_0, zx_2_1, zx_2_2, zx_2_3, zx_2_4, zx_2_5, zx_10_0, zx_10_1, zx_11_0, zx_11_1, zx_11_2, zx_11_3, zx_17_0, zx_19_0, zx_19_1, zx_19_2, zx_20_0, zx_20_1, zx_20_3, zx_20_4, zx_20_5, zx_20_6, zx_20_7, zx_20_8, zx_20_9, zx_30_0, zx_30_1, zx_30_4, zx_30_5, zx_48_0, zx_50_0, zx_52_0, zx_52_1, zx_52_2, zx_56_0, zx_56_1, zx_56_2, zx_57_0, zx_59_0, zx_80_3, zx_80_4, zx_80_5, zx_81_0, zx_81_1, zx_81_2, zx_81_3, zx_81_4, zx_81_5, zx_88_0, zx_88_1, zx_88_2, zx_93_3, zx_93_4, zx_93_5, zx_94_0, zx_94_1, zx_94_2, zx_94_3, zx_94_4, zx_94_5, zx_101_0, zx_101_1, zx_101_2, zx_106_0, zx_106_1, zx_106_2, zx_110_0, zx_110_1, zx_110_2, zx_114_0, zx_114_1, zx_114_2, zgI_9, zsI_9, zgI_16, zsI_16, zgI_18, zsI_18, zgI_21, zsI_21, zgI_22, zsI_22, zgI_23, zsI_23, zgI_24, zsI_24, zgI_25, zsI_25, zgI_26, zsI_26, zgI_27, zsI_27, zgI_28, zsI_28, zgI_29, zsI_29, zgI_47, zsI_47, zgI_49, zsI_49, zgI_51, zsI_51, zgI_53, zsI_53, zgI_54, zsI_54, zgI_55, zsI_55, zgI_58, zsI_58, zgI_76, zsI_76, zgI_79, zsI_79, zb_55_0]
  refine zloopP (fun l => (2, [(0, .ref 20), (1, .ref a), (2, .int (nI k)), (3, .int (nI l))], [], zL, σ, 0, 0)) (fun l => ∀ j, j < l → zMet t (zmv G k (zlt j))) (2 * G.2.1) (fun l hl hJ ih => ?_) (fun hJ => ?_) (fun j hj => by cases hj)
  · have hzl := zlt_ok hl
    have hmv := c_moved hF ha hG hv hklt hzl
    have hq := zmv_lt hv hklt hzl
    have elet := fun σ => c_letterOf (σ := σ) (l := l) (by omega)
    refine zW_of zg_55_2 ?_
    by_cases hm : zMet t (zmv G k (zlt l))
    · have hw := ((h.2.2 _ (show zmv G k (zlt l) < 5 by omega)).1 hm).2.2.2
      have hwb := (hT.2.2.1 _ hm).1
      have hcn := hT.cnt
      simp (disch := first | assumption | omega) only [zn0, zn1, Option.bind_some, zm_ai, zm_al, zm_av, zm_opt, zm_fw, zE_l, zE_r, nI_add, pk_mul, pk_sub, pk_div, pk_rem, zrem, zpm1, zB_i0, zB_i1, zB_ok, zB_T, zB_F, nI_toInt, zT_sub, zT_neg, zT_le, zT_lt, nI_eq, zne1, zne2, zne9, ite_not, or_true, true_or, if_true, if_false, if_pos, if_neg, zw_R, zw_RL, zw_I, zF_R, zw_same, zw_cell, zw_ne, zF_at, zF_ne, zi_0, zi_1, zi_10, zi_17, zi_19, zi_20, zi_30, zi_48, zi_50, zi_52, zi_57, zi_59, zi_80, zi_93, zi_106, zi_110, zi_114, zx_0_0, zx_0_1, zx_0_2, zx_0_3, zx_0_4, zx_0_5, zx_0_6, zx_0_7, zx_0_8, zx_0_9, zx_0_10, zx_1_0, zx_1_1, zx_2_0, zx_2_1, zx_2_2, zx_2_3, zx_2_4, zx_2_5, zx_10_0, zx_10_1, zx_11_0, zx_11_1, zx_11_2, zx_11_3, zx_17_0, zx_19_0, zx_19_1, zx_19_2, zx_20_0, zx_20_1, zx_20_3, zx_20_4, zx_20_5, zx_20_6, zx_20_7, zx_20_8, zx_20_9, zx_30_0, zx_30_1, zx_30_4, zx_30_5, zx_48_0, zx_50_0, zx_52_0, zx_52_1, zx_52_2, zx_56_0, zx_56_1, zx_56_2, zx_57_0, zx_59_0, zx_80_3, zx_80_4, zx_80_5, zx_81_0, zx_81_1, zx_81_2, zx_81_3, zx_81_4, zx_81_5, zx_88_0, zx_88_1, zx_88_2, zx_93_3, zx_93_4, zx_93_5, zx_94_0, zx_94_1, zx_94_2, zx_94_3, zx_94_4, zx_94_5, zx_101_0, zx_101_1, zx_101_2, zx_106_0, zx_106_1, zx_106_2, zx_110_0, zx_110_1, zx_110_2, zx_114_0, zx_114_1, zx_114_2, zgI_9, zsI_9, zgI_16, zsI_16, zgI_18, zsI_18, zgI_21, zsI_21, zgI_22, zsI_22, zgI_23, zsI_23, zgI_24, zsI_24, zgI_25, zsI_25, zgI_26, zsI_26, zgI_27, zsI_27, zgI_28, zsI_28, zgI_29, zsI_29, zgI_47, zsI_47, zgI_49, zsI_49, zgI_51, zsI_51, zgI_53, zsI_53, zgI_54, zsI_54, zgI_55, zsI_55, zgI_58, zsI_58, zgI_76, zsI_76, zgI_79, zsI_79, zb_55_2, zGo_i, hg2, elet, hmv, hw, not_false]
      exact ih fun j hj => by
        by_cases e : j = l
        · rw [e]; exact hm
        · exact hJ j (by omega)
    · have hw := (h.2.2 _ (show zmv G k (zlt l) < 5 by omega)).2 hm
      simp (disch := first | assumption | omega) only [zn0, zn1, Option.bind_some, zm_ai, zm_al, zm_av, zm_opt, zm_fw, zE_l, zE_r, nI_add, pk_mul, pk_sub, pk_div, pk_rem, zrem, zpm1, zB_i0, zB_i1, zB_ok, zB_T, zB_F, nI_toInt, zT_sub, zT_neg, zT_le, zT_lt, nI_eq, zne1, zne2, zne9, ite_not, or_true, true_or, if_true, if_false, if_pos, if_neg, zw_R, zw_RL, zw_I, zF_R, zw_same, zw_cell, zw_ne, zF_at, zF_ne, zi_0, zi_1, zi_10, zi_17, zi_19, zi_20, zi_30, zi_48, zi_50, zi_52, zi_57, zi_59, zi_80, zi_93, zi_106, zi_110, zi_114, zx_0_0, zx_0_1, zx_0_2, zx_0_3, zx_0_4, zx_0_5, zx_0_6, zx_0_7, zx_0_8, zx_0_9, zx_0_10, zx_1_0, zx_1_1, zx_2_0, zx_2_1, zx_2_2, zx_2_3, zx_2_4, zx_2_5, zx_10_0, zx_10_1, zx_11_0, zx_11_1, zx_11_2, zx_11_3, zx_17_0, zx_19_0, zx_19_1, zx_19_2, zx_20_0, zx_20_1, zx_20_3, zx_20_4, zx_20_5, zx_20_6, zx_20_7, zx_20_8, zx_20_9, zx_30_0, zx_30_1, zx_30_4, zx_30_5, zx_48_0, zx_50_0, zx_52_0, zx_52_1, zx_52_2, zx_56_0, zx_56_1, zx_56_2, zx_57_0, zx_59_0, zx_80_3, zx_80_4, zx_80_5, zx_81_0, zx_81_1, zx_81_2, zx_81_3, zx_81_4, zx_81_5, zx_88_0, zx_88_1, zx_88_2, zx_93_3, zx_93_4, zx_93_5, zx_94_0, zx_94_1, zx_94_2, zx_94_3, zx_94_4, zx_94_5, zx_101_0, zx_101_1, zx_101_2, zx_106_0, zx_106_1, zx_106_2, zx_110_0, zx_110_1, zx_110_2, zx_114_0, zx_114_1, zx_114_2, zgI_9, zsI_9, zgI_16, zsI_16, zgI_18, zsI_18, zgI_21, zsI_21, zgI_22, zsI_22, zgI_23, zsI_23, zgI_24, zsI_24, zgI_25, zsI_25, zgI_26, zsI_26, zgI_27, zsI_27, zgI_28, zsI_28, zgI_29, zsI_29, zgI_47, zsI_47, zgI_49, zsI_49, zgI_51, zsI_51, zgI_53, zsI_53, zgI_54, zsI_54, zgI_55, zsI_55, zgI_58, zsI_58, zgI_76, zsI_76, zgI_79, zsI_79, zb_55_2, zGo_i, hg2, elet, hmv, hw, not_true]
      unfold zltn
      rw [zfirst_yes (P := fun l => ¬ zMet t (zmv G k (zlt l))) hm (fun j hj => not_not_intro (hJ j hj)) hl]
      rfl
  · refine zW_of zg_55_2 ?_
    simp (disch := first | assumption | omega) only [zn0, zn1, Option.bind_some, zm_ai, zm_al, zm_av, zm_opt, zm_fw, zE_l, zE_r, nI_add, pk_mul, pk_sub, pk_div, pk_rem, zrem, zpm1, zB_i0, zB_i1, zB_ok, zB_T, zB_F, nI_toInt, zT_sub, zT_neg, zT_le, zT_lt, nI_eq, zne1, zne2, zne9, ite_not, or_true, true_or, if_true, if_false, if_pos, if_neg, zw_R, zw_RL, zw_I, zF_R, zw_same, zw_cell, zw_ne, zF_at, zF_ne, zi_0, zi_1, zi_10, zi_17, zi_19, zi_20, zi_30, zi_48, zi_50, zi_52, zi_57, zi_59, zi_80, zi_93, zi_106, zi_110, zi_114, zx_0_0, zx_0_1, zx_0_2, zx_0_3, zx_0_4, zx_0_5, zx_0_6, zx_0_7, zx_0_8, zx_0_9, zx_0_10, zx_1_0, zx_1_1, zx_2_0, zx_2_1, zx_2_2, zx_2_3, zx_2_4, zx_2_5, zx_10_0, zx_10_1, zx_11_0, zx_11_1, zx_11_2, zx_11_3, zx_17_0, zx_19_0, zx_19_1, zx_19_2, zx_20_0, zx_20_1, zx_20_3, zx_20_4, zx_20_5, zx_20_6, zx_20_7, zx_20_8, zx_20_9, zx_30_0, zx_30_1, zx_30_4, zx_30_5, zx_48_0, zx_50_0, zx_52_0, zx_52_1, zx_52_2, zx_56_0, zx_56_1, zx_56_2, zx_57_0, zx_59_0, zx_80_3, zx_80_4, zx_80_5, zx_81_0, zx_81_1, zx_81_2, zx_81_3, zx_81_4, zx_81_5, zx_88_0, zx_88_1, zx_88_2, zx_93_3, zx_93_4, zx_93_5, zx_94_0, zx_94_1, zx_94_2, zx_94_3, zx_94_4, zx_94_5, zx_101_0, zx_101_1, zx_101_2, zx_106_0, zx_106_1, zx_106_2, zx_110_0, zx_110_1, zx_110_2, zx_114_0, zx_114_1, zx_114_2, zgI_9, zsI_9, zgI_16, zsI_16, zgI_18, zsI_18, zgI_21, zsI_21, zgI_22, zsI_22, zgI_23, zsI_23, zgI_24, zsI_24, zgI_25, zsI_25, zgI_26, zsI_26, zgI_27, zsI_27, zgI_28, zsI_28, zgI_29, zsI_29, zgI_47, zsI_47, zgI_49, zsI_49, zgI_51, zsI_51, zgI_53, zsI_53, zgI_54, zsI_54, zgI_55, zsI_55, zgI_58, zsI_58, zgI_76, zsI_76, zgI_79, zsI_79, zb_55_2, zGo_i, hg2]
    unfold zltn
    rw [zfirst_no (fun j hj => not_not_intro (hJ j hj))]
    rfl
def zdsm (G : zG) (s : zT × Nat) (o : Option Nat) : zT × Nat := match o with
  | some l => (zreach s.1 (zmv G s.2 (zlt l)) s.2 (zlt l), zmv G s.2 (zlt l))
  | none => (s.1, zpar s.1 s.2)
theorem zdi_step {m : Nat} {o : Option Nat} (h : zltn G (zdi G m).1 (zdi G m).2 = o) : zdi G (m + 1) = zdsm G (zdi G m) o := by
  subst h
  show zds G (zdi G m) = _
  unfold zds zdsm
  rfl
theorem z9 : (-9 : Int32).toInt = -9 := by decide
theorem c_growDeep (hF : zFix σ) (ha : zGo a) (hG : zCG σ a G) (hk : zGk G) (h : zCT σ zt0) :
    ∃ σ', zM 54 [.ref 20, .ref a] zL σ = some (none, zL, σ') ∧ zCT σ' (zdi G 10).1 ∧ zKeep zFT σ σ' := by
  obtain ⟨hv, htr, hn, hg⟩ := hk
  refine zS_ex (zS_of ze_54 ?_)
  have hge := ha.ge
  have v1 := hv.1
  have v2 := hv.2.1
  simp (disch := first | assumption | omega) only [zn0, zn1, Option.bind_some, zm_ai, zm_al, zm_av, zm_opt, zm_fw, zE_l, zE_r, nI_add, pk_mul, pk_sub, pk_div, pk_rem, zrem, zpm1, zB_i0, zB_i1, zB_ok, zB_T, zB_F, nI_toInt, zT_sub, zT_neg, zT_le, zT_lt, nI_eq, zne1, zne2, zne9, ite_not, or_true, true_or, if_true, if_false, if_pos, if_neg, zw_R, zw_RL, zw_I, zF_R, zw_same, zw_cell, zw_ne, zF_at, zF_ne, zi_0, zi_1, zi_10, zi_17, zi_19, zi_20, zi_30, zi_48, zi_50, zi_52, zi_57, zi_59, zi_80, zi_93, zi_106, zi_110, zi_114, zx_0_0, zx_0_1, zx_0_2, zx_0_3, zx_0_4, zx_0_5, zx_0_6, zx_0_7, zx_0_8, zx_0_9, zx_0_10, zx_1_0, zx_1_1, zx_2_0, zx_2_1, zx_2_2, zx_2_3, zx_2_4, zx_2_5, zx_10_0, zx_10_1, zx_11_0, zx_11_1, zx_11_2, zx_11_3, zx_17_0, zx_19_0, zx_19_1, zx_19_2, zx_20_0, zx_20_1, zx_20_3, zx_20_4, zx_20_5, zx_20_6, zx_20_7, zx_20_8, zx_20_9, zx_30_0, zx_30_1, zx_30_4, zx_30_5, zx_48_0, zx_50_0, zx_52_0, zx_52_1, zx_52_2, zx_56_0, zx_56_1, zx_56_2, zx_57_0, zx_59_0, zx_80_3, zx_80_4, zx_80_5, zx_81_0, zx_81_1, zx_81_2, zx_81_3, zx_81_4, zx_81_5, zx_88_0, zx_88_1, zx_88_2, zx_93_3, zx_93_4, zx_93_5, zx_94_0, zx_94_1, zx_94_2, zx_94_3, zx_94_4, zx_94_5, zx_101_0, zx_101_1, zx_101_2, zx_106_0, zx_106_1, zx_106_2, zx_110_0, zx_110_1, zx_110_2, zx_114_0, zx_114_1, zx_114_2, zgI_9, zsI_9, zgI_16, zsI_16, zgI_18, zsI_18, zgI_21, zsI_21, zgI_22, zsI_22, zgI_23, zsI_23, zgI_24, zsI_24, zgI_25, zsI_25, zgI_26, zsI_26, zgI_27, zsI_27, zgI_28, zsI_28, zgI_29, zsI_29, zgI_47, zsI_47, zgI_49, zsI_49, zgI_51, zsI_51, zgI_53, zsI_53, zgI_54, zsI_54, zgI_55, zsI_55, zgI_58, zsI_58, zgI_76, zsI_76, zgI_79, zsI_79, zb_54_0]
  refine zloop (fun m σ1 => (4, [(0, .ref 20), (1, .ref a), (2, .int (nI (zdi G m).2)), (3, .int (nI m))], [], zL, σ1, 0, 0)) (fun m σ1 => zCT σ1 (zdi G m).1 ∧ zKeep zFT σ σ1) 10 (fun m σ1 hm hI ih => ?_) (fun σ1 hI => ?_) 0 σ (by omega) ⟨h, zKeep.rf _ _⟩
  · obtain ⟨c1, hK⟩ := hI
    obtain ⟨hT, hmk, -, -⟩ := zdi_ok hv htr (by omega) m
    have hF1 := hK.fix hF rfl
    have hG1 := hG.keep hv hK (fun k _ => zFT_g (by omega)) (fun b k hb _ => zFT_g (by omega))
    have hst := fun o => zdi_step (G := G) (m := m) (o := o)
    have hlet := c_letterToNew hF1 ha hG1 hv c1 hT hmk
    have hklt := hT.lt hmk
    have hcc := (c1.2.2 _ (show (zdi G m).2 < 5 by omega)).1 hmk
    refine zW_of zg_54_4 ?_
    cases e : zltn G (zdi G m).1 (zdi G m).2 with
    | some l =>
      rw [e] at hlet
      have hs : zdi G (m + 1) = (zreach (zdi G m).1 (zmv G (zdi G m).2 (zlt l)) (zdi G m).2 (zlt l), zmv G (zdi G m).2 (zlt l)) := hst _ e
      obtain ⟨a1, b1⟩ := zfirst_sp e
      have hzl := zlt_ok a1
      have hne := zlt_ne (l := l) (by omega)
      have hmv := c_moved hF1 ha hG1 hv hklt hzl
      have hq := zmv_lt hv hklt hzl
      have hnew := hT.new hq b1
      obtain ⟨σ3, e3, c3, hK3⟩ := c_reach hF1 c1 (k := (zdi G m).2) (show zmv G (zdi G m).2 (zlt l) < 5 by omega) (by omega) (by omega) b1 (zlt l)
      have hfar := hcc.2.2.1
      have hlet2 : zM 55 [.ref 20, .ref a, .int (nI (zdi G m).2)] zL σ1 = some (some (.int (zlt l)), zL, σ1) := hlet
      simp (disch := first | assumption | omega) only [zn0, zn1, Option.bind_some, zm_ai, zm_al, zm_av, zm_opt, zm_fw, zE_l, zE_r, nI_add, pk_mul, pk_sub, pk_div, pk_rem, zrem, zpm1, zB_i0, zB_i1, zB_ok, zB_T, zB_F, nI_toInt, zT_sub, zT_neg, zT_le, zT_lt, nI_eq, zne1, zne2, zne9, ite_not, or_true, true_or, if_true, if_false, if_pos, if_neg, zw_R, zw_RL, zw_I, zF_R, zw_same, zw_cell, zw_ne, zF_at, zF_ne, zi_0, zi_1, zi_10, zi_17, zi_19, zi_20, zi_30, zi_48, zi_50, zi_52, zi_57, zi_59, zi_80, zi_93, zi_106, zi_110, zi_114, zx_0_0, zx_0_1, zx_0_2, zx_0_3, zx_0_4, zx_0_5, zx_0_6, zx_0_7, zx_0_8, zx_0_9, zx_0_10, zx_1_0, zx_1_1, zx_2_0, zx_2_1, zx_2_2, zx_2_3, zx_2_4, zx_2_5, zx_10_0, zx_10_1, zx_11_0, zx_11_1, zx_11_2, zx_11_3, zx_17_0, zx_19_0, zx_19_1, zx_19_2, zx_20_0, zx_20_1, zx_20_3, zx_20_4, zx_20_5, zx_20_6, zx_20_7, zx_20_8, zx_20_9, zx_30_0, zx_30_1, zx_30_4, zx_30_5, zx_48_0, zx_50_0, zx_52_0, zx_52_1, zx_52_2, zx_56_0, zx_56_1, zx_56_2, zx_57_0, zx_59_0, zx_80_3, zx_80_4, zx_80_5, zx_81_0, zx_81_1, zx_81_2, zx_81_3, zx_81_4, zx_81_5, zx_88_0, zx_88_1, zx_88_2, zx_93_3, zx_93_4, zx_93_5, zx_94_0, zx_94_1, zx_94_2, zx_94_3, zx_94_4, zx_94_5, zx_101_0, zx_101_1, zx_101_2, zx_106_0, zx_106_1, zx_106_2, zx_110_0, zx_110_1, zx_110_2, zx_114_0, zx_114_1, zx_114_2, zgI_9, zsI_9, zgI_16, zsI_16, zgI_18, zsI_18, zgI_21, zsI_21, zgI_22, zsI_22, zgI_23, zsI_23, zgI_24, zsI_24, zgI_25, zsI_25, zgI_26, zsI_26, zgI_27, zsI_27, zgI_28, zsI_28, zgI_29, zsI_29, zgI_47, zsI_47, zgI_49, zsI_49, zgI_51, zsI_51, zgI_53, zsI_53, zgI_54, zsI_54, zgI_55, zsI_55, zgI_58, zsI_58, zgI_76, zsI_76, zgI_79, zsI_79, zb_54_4, zGo_i, hlet2, hne, hmv, hfar, e3]
      have := ih σ3
      rw [hs] at this
      exact this ⟨c3, hK.tr hK3⟩
    | none =>
      rw [e] at hlet
      have hs : zdi G (m + 1) = ((zdi G m).1, zpar (zdi G m).1 (zdi G m).2) := hst _ e
      have hfrom := hcc.1
      have hlet2 : zM 55 [.ref 20, .ref a, .int (nI (zdi G m).2)] zL σ1 = some (some (.int (nI 0)), zL, σ1) := hlet
      have ih := ih σ1
      rw [hs] at ih
      have ih := ih ⟨c1, hK⟩
      by_cases k0 : (zdi G m).2 = 0
      · have h0 := hT.1.2.2.1
        have hp0 := hT.par0
        simp only [k0] at hlet2 hfrom ih ⊢
        rw [h0] at hfrom
        rw [hp0] at ih
        simp (disch := first | assumption | omega) only [zn0, zn1, Option.bind_some, zm_ai, zm_al, zm_av, zm_opt, zm_fw, zE_l, zE_r, nI_add, pk_mul, pk_sub, pk_div, pk_rem, zrem, zpm1, zB_i0, zB_i1, zB_ok, zB_T, zB_F, nI_toInt, zT_sub, zT_neg, zT_le, zT_lt, nI_eq, zne1, zne2, zne9, ite_not, or_true, true_or, if_true, if_false, if_pos, if_neg, zw_R, zw_RL, zw_I, zF_R, zw_same, zw_cell, zw_ne, zF_at, zF_ne, zi_0, zi_1, zi_10, zi_17, zi_19, zi_20, zi_30, zi_48, zi_50, zi_52, zi_57, zi_59, zi_80, zi_93, zi_106, zi_110, zi_114, zx_0_0, zx_0_1, zx_0_2, zx_0_3, zx_0_4, zx_0_5, zx_0_6, zx_0_7, zx_0_8, zx_0_9, zx_0_10, zx_1_0, zx_1_1, zx_2_0, zx_2_1, zx_2_2, zx_2_3, zx_2_4, zx_2_5, zx_10_0, zx_10_1, zx_11_0, zx_11_1, zx_11_2, zx_11_3, zx_17_0, zx_19_0, zx_19_1, zx_19_2, zx_20_0, zx_20_1, zx_20_3, zx_20_4, zx_20_5, zx_20_6, zx_20_7, zx_20_8, zx_20_9, zx_30_0, zx_30_1, zx_30_4, zx_30_5, zx_48_0, zx_50_0, zx_52_0, zx_52_1, zx_52_2, zx_56_0, zx_56_1, zx_56_2, zx_57_0, zx_59_0, zx_80_3, zx_80_4, zx_80_5, zx_81_0, zx_81_1, zx_81_2, zx_81_3, zx_81_4, zx_81_5, zx_88_0, zx_88_1, zx_88_2, zx_93_3, zx_93_4, zx_93_5, zx_94_0, zx_94_1, zx_94_2, zx_94_3, zx_94_4, zx_94_5, zx_101_0, zx_101_1, zx_101_2, zx_106_0, zx_106_1, zx_106_2, zx_110_0, zx_110_1, zx_110_2, zx_114_0, zx_114_1, zx_114_2, zgI_9, zsI_9, zgI_16, zsI_16, zgI_18, zsI_18, zgI_21, zsI_21, zgI_22, zsI_22, zgI_23, zsI_23, zgI_24, zsI_24, zgI_25, zsI_25, zgI_26, zsI_26, zgI_27, zsI_27, zgI_28, zsI_28, zgI_29, zsI_29, zgI_47, zsI_47, zgI_49, zsI_49, zgI_51, zsI_51, zgI_53, zsI_53, zgI_54, zsI_54, zgI_55, zsI_55, zgI_58, zsI_58, zgI_76, zsI_76, zgI_79, zsI_79, zb_54_4, zGo_i, hlet2, hfrom, z9]
        exact ih
      · obtain ⟨g1, g2, g3⟩ := hT.par hv hmk k0
        have hpl := hT.lt g1
        rw [g3] at hfrom
        simp (disch := first | assumption | omega) only [zn0, zn1, Option.bind_some, zm_ai, zm_al, zm_av, zm_opt, zm_fw, zE_l, zE_r, nI_add, pk_mul, pk_sub, pk_div, pk_rem, zrem, zpm1, zB_i0, zB_i1, zB_ok, zB_T, zB_F, nI_toInt, zT_sub, zT_neg, zT_le, zT_lt, nI_eq, zne1, zne2, zne9, ite_not, or_true, true_or, if_true, if_false, if_pos, if_neg, zw_R, zw_RL, zw_I, zF_R, zw_same, zw_cell, zw_ne, zF_at, zF_ne, zi_0, zi_1, zi_10, zi_17, zi_19, zi_20, zi_30, zi_48, zi_50, zi_52, zi_57, zi_59, zi_80, zi_93, zi_106, zi_110, zi_114, zx_0_0, zx_0_1, zx_0_2, zx_0_3, zx_0_4, zx_0_5, zx_0_6, zx_0_7, zx_0_8, zx_0_9, zx_0_10, zx_1_0, zx_1_1, zx_2_0, zx_2_1, zx_2_2, zx_2_3, zx_2_4, zx_2_5, zx_10_0, zx_10_1, zx_11_0, zx_11_1, zx_11_2, zx_11_3, zx_17_0, zx_19_0, zx_19_1, zx_19_2, zx_20_0, zx_20_1, zx_20_3, zx_20_4, zx_20_5, zx_20_6, zx_20_7, zx_20_8, zx_20_9, zx_30_0, zx_30_1, zx_30_4, zx_30_5, zx_48_0, zx_50_0, zx_52_0, zx_52_1, zx_52_2, zx_56_0, zx_56_1, zx_56_2, zx_57_0, zx_59_0, zx_80_3, zx_80_4, zx_80_5, zx_81_0, zx_81_1, zx_81_2, zx_81_3, zx_81_4, zx_81_5, zx_88_0, zx_88_1, zx_88_2, zx_93_3, zx_93_4, zx_93_5, zx_94_0, zx_94_1, zx_94_2, zx_94_3, zx_94_4, zx_94_5, zx_101_0, zx_101_1, zx_101_2, zx_106_0, zx_106_1, zx_106_2, zx_110_0, zx_110_1, zx_110_2, zx_114_0, zx_114_1, zx_114_2, zgI_9, zsI_9, zgI_16, zsI_16, zgI_18, zsI_18, zgI_21, zsI_21, zgI_22, zsI_22, zgI_23, zsI_23, zgI_24, zsI_24, zgI_25, zsI_25, zgI_26, zsI_26, zgI_27, zsI_27, zgI_28, zsI_28, zgI_29, zsI_29, zgI_47, zsI_47, zgI_49, zsI_49, zgI_51, zsI_51, zgI_53, zsI_53, zgI_54, zsI_54, zgI_55, zsI_55, zgI_58, zsI_58, zgI_76, zsI_76, zgI_79, zsI_79, zb_54_4, zGo_i, hlet2, hfrom]
        exact ih
  · obtain ⟨c1, hK⟩ := hI
    refine zW_of zg_54_4 ?_
    simp (disch := first | assumption | omega) only [zn0, zn1, Option.bind_some, zm_ai, zm_al, zm_av, zm_opt, zm_fw, zE_l, zE_r, nI_add, pk_mul, pk_sub, pk_div, pk_rem, zrem, zpm1, zB_i0, zB_i1, zB_ok, zB_T, zB_F, nI_toInt, zT_sub, zT_neg, zT_le, zT_lt, nI_eq, zne1, zne2, zne9, ite_not, or_true, true_or, if_true, if_false, if_pos, if_neg, zw_R, zw_RL, zw_I, zF_R, zw_same, zw_cell, zw_ne, zF_at, zF_ne, zi_0, zi_1, zi_10, zi_17, zi_19, zi_20, zi_30, zi_48, zi_50, zi_52, zi_57, zi_59, zi_80, zi_93, zi_106, zi_110, zi_114, zx_0_0, zx_0_1, zx_0_2, zx_0_3, zx_0_4, zx_0_5, zx_0_6, zx_0_7, zx_0_8, zx_0_9, zx_0_10, zx_1_0, zx_1_1, zx_2_0, zx_2_1, zx_2_2, zx_2_3, zx_2_4, zx_2_5, zx_10_0, zx_10_1, zx_11_0, zx_11_1, zx_11_2, zx_11_3, zx_17_0, zx_19_0, zx_19_1, zx_19_2, zx_20_0, zx_20_1, zx_20_3, zx_20_4, zx_20_5, zx_20_6, zx_20_7, zx_20_8, zx_20_9, zx_30_0, zx_30_1, zx_30_4, zx_30_5, zx_48_0, zx_50_0, zx_52_0, zx_52_1, zx_52_2, zx_56_0, zx_56_1, zx_56_2, zx_57_0, zx_59_0, zx_80_3, zx_80_4, zx_80_5, zx_81_0, zx_81_1, zx_81_2, zx_81_3, zx_81_4, zx_81_5, zx_88_0, zx_88_1, zx_88_2, zx_93_3, zx_93_4, zx_93_5, zx_94_0, zx_94_1, zx_94_2, zx_94_3, zx_94_4, zx_94_5, zx_101_0, zx_101_1, zx_101_2, zx_106_0, zx_106_1, zx_106_2, zx_110_0, zx_110_1, zx_110_2, zx_114_0, zx_114_1, zx_114_2, zgI_9, zsI_9, zgI_16, zsI_16, zgI_18, zsI_18, zgI_21, zsI_21, zgI_22, zsI_22, zgI_23, zsI_23, zgI_24, zsI_24, zgI_25, zsI_25, zgI_26, zsI_26, zgI_27, zsI_27, zgI_28, zsI_28, zgI_29, zsI_29, zgI_47, zsI_47, zgI_49, zsI_49, zgI_51, zsI_51, zgI_53, zsI_53, zgI_54, zsI_54, zgI_55, zsI_55, zgI_58, zsI_58, zgI_76, zsI_76, zgI_79, zsI_79, zb_54_4]
    exact ⟨σ1, rfl, c1, hK⟩
theorem m_goesDeep (hF : zFix σ) (hG : zMG σ G) (hk : zGk G) (h : zMT σ zt0) :
    ∃ σ', zM 203 [.ref 118] zL σ = some (none, zL, σ') ∧ zMT σ' (zdi G 10).1 ∧ zKeep zFMT σ σ' := by
  obtain ⟨hv, htr, hn, hg⟩ := hk
  refine zS_ex (zS_of ze_203 ?_)
  have v1 := hv.1
  have v2 := hv.2.1
  simp (disch := first | assumption | omega) only [zn0, zn1, Option.bind_some, zm_ai, zm_al, zm_av, zm_opt, zm_fw, zE_l, zE_r, nI_add, pk_mul, pk_sub, pk_div, pk_rem, zrem, zpm1, zB_i0, zB_i1, zB_ok, zB_T, zB_F, nI_toInt, zT_sub, zT_neg, zT_le, zT_lt, nI_eq, zne1, zne2, zne9, ite_not, or_true, true_or, if_true, if_false, if_pos, if_neg, zw_R, zw_RL, zw_I, zF_R, zw_same, zw_cell, zw_ne, zF_at, zF_ne, zi_118, zx_118_0, zx_118_1, zx_118_2, zx_118_3, zx_118_7, zx_118_8, zx_118_9, zx_118_10, zx_118_11, zx_118_12, zx_118_13, zx_118_14, zx_118_15, zx_118_17, zx_118_18, zx_118_19, zx_118_21, zx_118_22, zx_118_24, zx_118_25, zx_118_30, zx_118_35, zx_118_36, zx_118_37, zx_118_38, zx_118_39, zx_118_41, zx_118_42, zx_118_44, zx_118_45, zx_118_46, zgI_119, zsI_119, zgI_120, zsI_120, zgI_121, zsI_121, zgI_122, zsI_122, zgI_123, zsI_123, zgI_124, zsI_124, zgI_125, zsI_125, zgI_126, zsI_126, zgI_127, zsI_127, zgI_128, zsI_128, zgI_129, zsI_129, zgI_130, zsI_130, zgI_131, zsI_131, zgI_132, zsI_132, zgI_133, zsI_133, zgI_134, zsI_134, zgI_135, zsI_135, zgI_136, zsI_136, zgI_137, zsI_137, zgI_139, zsI_139, zgI_140, zsI_140, zgI_141, zsI_141, zgI_142, zsI_142, zgI_143, zsI_143, zgI_144, zsI_144, zgI_145, zsI_145, zgI_146, zsI_146, zgI_147, zsI_147, zb_203_0]
  have key : ∀ d σ1, (zMT σ1 (zdi G (7 - d)).1 ∧ zKeep zFMT σ σ1 ∧ d ≤ 7) → zW 203 (2, [(0, .ref 118), (1, .int (nI (zdi G (7 - d)).2))], [], zL, σ1, 0, 0) (fun q => ∃ σ', q = (none, zL, σ') ∧ zMT σ' (zdi G 10).1 ∧ zKeep zFMT σ σ') := by
    refine zloopD (fun d σ1 => (2, [(0, .ref 118), (1, .int (nI (zdi G (7 - d)).2))], [], zL, σ1, 0, 0)) _ (fun d σ1 hI ih => ?_) (fun σ1 hI => ?_)
    · obtain ⟨c1, hK, hd⟩ := hI
      have hF1 := hK.fix hF rfl
      have hG1 := hG.keepT hK
      have hg1 := hG1.1
      have hg2 := hG1.2.1
      have hc := c1.1
      obtain ⟨hT, hmk, -, hcnt⟩ := zdi_ok hv htr (by omega) (7 - (d + 1))
      have hcn := hT.cnt
      refine zW_of zg_203_2 ?_
      by_cases hf : (zdi G (7 - (d + 1))).1.1 = G.1
      · simp (disch := first | assumption | omega) only [zn0, zn1, Option.bind_some, zm_ai, zm_al, zm_av, zm_opt, zm_fw, zE_l, zE_r, nI_add, pk_mul, pk_sub, pk_div, pk_rem, zrem, zpm1, zB_i0, zB_i1, zB_ok, zB_T, zB_F, nI_toInt, zT_sub, zT_neg, zT_le, zT_lt, nI_eq, zne1, zne2, zne9, ite_not, or_true, true_or, if_true, if_false, if_pos, if_neg, zw_R, zw_RL, zw_I, zF_R, zw_same, zw_cell, zw_ne, zF_at, zF_ne, zi_118, zx_118_0, zx_118_1, zx_118_2, zx_118_3, zx_118_7, zx_118_8, zx_118_9, zx_118_10, zx_118_11, zx_118_12, zx_118_13, zx_118_14, zx_118_15, zx_118_17, zx_118_18, zx_118_19, zx_118_21, zx_118_22, zx_118_24, zx_118_25, zx_118_30, zx_118_35, zx_118_36, zx_118_37, zx_118_38, zx_118_39, zx_118_41, zx_118_42, zx_118_44, zx_118_45, zx_118_46, zgI_119, zsI_119, zgI_120, zsI_120, zgI_121, zsI_121, zgI_122, zsI_122, zgI_123, zsI_123, zgI_124, zsI_124, zgI_125, zsI_125, zgI_126, zsI_126, zgI_127, zsI_127, zgI_128, zsI_128, zgI_129, zsI_129, zgI_130, zsI_130, zgI_131, zsI_131, zgI_132, zsI_132, zgI_133, zsI_133, zgI_134, zsI_134, zgI_135, zsI_135, zgI_136, zsI_136, zgI_137, zsI_137, zgI_139, zsI_139, zgI_140, zsI_140, zgI_141, zsI_141, zgI_142, zsI_142, zgI_143, zsI_143, zgI_144, zsI_144, zgI_145, zsI_145, zgI_146, zsI_146, zgI_147, zsI_147, zb_203_2, hg1, hc]
        have e := zdi_stay hv htr (by omega) hf (d + 4)
        rw [show 7 - (d + 1) + (d + 4) = 10 by omega] at e
        exact ⟨σ1, rfl, by rw [e]; exact c1, hK⟩
      · have hst := fun o => zdi_step (G := G) (m := 7 - (d + 1)) (o := o)
        rw [show 7 - (d + 1) + 1 = 7 - d by omega] at hst
        have hklt := hT.lt hmk
        have hcn2 : (zdi G (7 - (d + 1))).1.1 < G.1 := by omega
        have hcnt := hcnt hcn2
        obtain ⟨-, -, -, hcnt2⟩ := zdi_ok hv htr (by omega) (7 - (d + 1) + 1)
        rw [show 7 - (d + 1) + 1 = 7 - d by omega] at hcnt2
        simp (disch := first | assumption | omega) only [zn0, zn1, Option.bind_some, zm_ai, zm_al, zm_av, zm_opt, zm_fw, zE_l, zE_r, nI_add, pk_mul, pk_sub, pk_div, pk_rem, zrem, zpm1, zB_i0, zB_i1, zB_ok, zB_T, zB_F, nI_toInt, zT_sub, zT_neg, zT_le, zT_lt, nI_eq, zne1, zne2, zne9, ite_not, or_true, true_or, if_true, if_false, if_pos, if_neg, zw_R, zw_RL, zw_I, zF_R, zw_same, zw_cell, zw_ne, zF_at, zF_ne, zi_118, zx_118_0, zx_118_1, zx_118_2, zx_118_3, zx_118_7, zx_118_8, zx_118_9, zx_118_10, zx_118_11, zx_118_12, zx_118_13, zx_118_14, zx_118_15, zx_118_17, zx_118_18, zx_118_19, zx_118_21, zx_118_22, zx_118_24, zx_118_25, zx_118_30, zx_118_35, zx_118_36, zx_118_37, zx_118_38, zx_118_39, zx_118_41, zx_118_42, zx_118_44, zx_118_45, zx_118_46, zgI_119, zsI_119, zgI_120, zsI_120, zgI_121, zsI_121, zgI_122, zsI_122, zgI_123, zsI_123, zgI_124, zsI_124, zgI_125, zsI_125, zgI_126, zsI_126, zgI_127, zsI_127, zgI_128, zsI_128, zgI_129, zsI_129, zgI_130, zsI_130, zgI_131, zsI_131, zgI_132, zsI_132, zgI_133, zsI_133, zgI_134, zsI_134, zgI_135, zsI_135, zgI_136, zsI_136, zgI_137, zsI_137, zgI_139, zsI_139, zgI_140, zsI_140, zgI_141, zsI_141, zgI_142, zsI_142, zgI_143, zsI_143, zgI_144, zsI_144, zgI_145, zsI_145, zgI_146, zsI_146, zgI_147, zsI_147, zb_203_2, hg1, hg2, hc]
        generalize hs0 : zdi G (7 - (d + 1)) = s at *
        rw [zdn (show 0 < 2 * G.2.1 by omega)]
        refine zloopP (fun c => (24, [(0, .ref 118), (1, .int (nI s.2)), (2, .int (zdl G s.1 s.2 c)), (3, .int (nI (2 * G.2.1 - c) + -nI 1))], [], zL, σ1, 0, 0)) (fun _ => True) (2 * G.2.1) (fun c hc _ ih2 => ?_) (fun _ => ?_) trivial
        · have ih2 := ih2 trivial
          have hzl := zlt_ok (g := G.2.1) (l := 2 * G.2.1 - (c + 1)) (by omega)
          have hmv := m_goesBy hF1 hG1 hv hklt hzl
          have hq := zmv_lt hv hklt hzl
          have hmt := m_isMet hF1 c1 (p := zmv G s.2 (zlt (2 * G.2.1 - (c + 1)))) (by omega) (hT.farlt hv _)
          have hlet := m_tried (l := 2 * G.2.1 - (c + 1)) hF1 hG1 hv (by omega)
          have ei : nI (2 * G.2.1 - c) + -nI 1 = nI (2 * G.2.1 - (c + 1)) := by
            rw [show 2 * G.2.1 - c = 2 * G.2.1 - (c + 1) + 1 by omega, zpm1]
          rw [ei]
          refine zW_of zg_203_24 ?_
          by_cases hm : zMet s.1 (zmv G s.2 (zlt (2 * G.2.1 - (c + 1))))
          · rw [zdl_m hm] at ih2
            simp (disch := first | assumption | omega) only [zn0, zn1, Option.bind_some, zm_ai, zm_al, zm_av, zm_opt, zm_fw, zE_l, zE_r, nI_add, pk_mul, pk_sub, pk_div, pk_rem, zrem, zpm1, zB_i0, zB_i1, zB_ok, zB_T, zB_F, nI_toInt, zT_sub, zT_neg, zT_le, zT_lt, nI_eq, zne1, zne2, zne9, ite_not, or_true, true_or, if_true, if_false, if_pos, if_neg, zw_R, zw_RL, zw_I, zF_R, zw_same, zw_cell, zw_ne, zF_at, zF_ne, zi_118, zx_118_0, zx_118_1, zx_118_2, zx_118_3, zx_118_7, zx_118_8, zx_118_9, zx_118_10, zx_118_11, zx_118_12, zx_118_13, zx_118_14, zx_118_15, zx_118_17, zx_118_18, zx_118_19, zx_118_21, zx_118_22, zx_118_24, zx_118_25, zx_118_30, zx_118_35, zx_118_36, zx_118_37, zx_118_38, zx_118_39, zx_118_41, zx_118_42, zx_118_44, zx_118_45, zx_118_46, zgI_119, zsI_119, zgI_120, zsI_120, zgI_121, zsI_121, zgI_122, zsI_122, zgI_123, zsI_123, zgI_124, zsI_124, zgI_125, zsI_125, zgI_126, zsI_126, zgI_127, zsI_127, zgI_128, zsI_128, zgI_129, zsI_129, zgI_130, zsI_130, zgI_131, zsI_131, zgI_132, zsI_132, zgI_133, zsI_133, zgI_134, zsI_134, zgI_135, zsI_135, zgI_136, zsI_136, zgI_137, zsI_137, zgI_139, zsI_139, zgI_140, zsI_140, zgI_141, zsI_141, zgI_142, zsI_142, zgI_143, zsI_143, zgI_144, zsI_144, zgI_145, zsI_145, zgI_146, zsI_146, zgI_147, zsI_147, zb_203_24, hlet, hmv, hmt]
            exact ih2
          · rw [zdl_n hm] at ih2
            simp (disch := first | assumption | omega) only [zn0, zn1, Option.bind_some, zm_ai, zm_al, zm_av, zm_opt, zm_fw, zE_l, zE_r, nI_add, pk_mul, pk_sub, pk_div, pk_rem, zrem, zpm1, zB_i0, zB_i1, zB_ok, zB_T, zB_F, nI_toInt, zT_sub, zT_neg, zT_le, zT_lt, nI_eq, zne1, zne2, zne9, ite_not, or_true, true_or, if_true, if_false, if_pos, if_neg, zw_R, zw_RL, zw_I, zF_R, zw_same, zw_cell, zw_ne, zF_at, zF_ne, zi_118, zx_118_0, zx_118_1, zx_118_2, zx_118_3, zx_118_7, zx_118_8, zx_118_9, zx_118_10, zx_118_11, zx_118_12, zx_118_13, zx_118_14, zx_118_15, zx_118_17, zx_118_18, zx_118_19, zx_118_21, zx_118_22, zx_118_24, zx_118_25, zx_118_30, zx_118_35, zx_118_36, zx_118_37, zx_118_38, zx_118_39, zx_118_41, zx_118_42, zx_118_44, zx_118_45, zx_118_46, zgI_119, zsI_119, zgI_120, zsI_120, zgI_121, zsI_121, zgI_122, zsI_122, zgI_123, zsI_123, zgI_124, zsI_124, zgI_125, zsI_125, zgI_126, zsI_126, zgI_127, zsI_127, zgI_128, zsI_128, zgI_129, zsI_129, zgI_130, zsI_130, zgI_131, zsI_131, zgI_132, zsI_132, zgI_133, zsI_133, zgI_134, zsI_134, zgI_135, zsI_135, zgI_136, zsI_136, zgI_137, zsI_137, zgI_139, zsI_139, zgI_140, zsI_140, zgI_141, zsI_141, zgI_142, zsI_142, zgI_143, zsI_143, zgI_144, zsI_144, zgI_145, zsI_145, zgI_146, zsI_146, zgI_147, zsI_147, zb_203_24, hlet, hmv, hmt]
            exact ih2
        · rw [zdl_eq, Nat.sub_self, show nI 0 + -nI 1 = -nI 1 by decide]
          refine zW_of zg_203_24 ?_
          cases e : zltn G s.1 s.2 with
          | some l =>
            have hs : zdi G (7 - d) = (zreach s.1 (zmv G s.2 (zlt l)) s.2 (zlt l), zmv G s.2 (zlt l)) := hst _ e
            obtain ⟨a1, b1⟩ := zfirst_sp e
            have hzl := zlt_ok a1
            have hne := zlt_ne (l := l) (by omega)
            have hmv := m_goesBy hF1 hG1 hv hklt hzl
            have hq := zmv_lt hv hklt hzl
            have hqk : s.2 ≠ zmv G s.2 (zlt l) := fun e => b1 (e ▸ hmk)
            obtain ⟨σ3, e3, c3, hK3⟩ := m_reaches hF1 c1 (k := s.2) (show zmv G s.2 (zlt l) < 5 by omega) (by omega) (by omega) hqk (zlt l)
            have hmv3 := m_goesBy (hK3.fix hF1 rfl) (hG1.keepT hK3) hv hklt hzl
            show zE 203 (zb_203_24 zL σ1 118 (nI s.2) (zlt l) (-nI 1)) _
            unfold zb_203_24
            rw [if_pos (show (-nI 1 : Int32) < 0 by decide)]
            simp (disch := first | assumption | omega) only [zn0, zn1, Option.bind_some, zm_ai, zm_al, zm_av, zm_opt, zm_fw, zE_l, zE_r, nI_add, pk_mul, pk_sub, pk_div, pk_rem, zrem, zpm1, zB_i0, zB_i1, zB_ok, zB_T, zB_F, nI_toInt, zT_sub, zT_neg, zT_le, zT_lt, nI_eq, zne1, zne2, zne9, ite_not, or_true, true_or, if_true, if_false, if_pos, if_neg, zw_R, zw_RL, zw_I, zF_R, zw_same, zw_cell, zw_ne, zF_at, zF_ne, zi_118, zx_118_0, zx_118_1, zx_118_2, zx_118_3, zx_118_7, zx_118_8, zx_118_9, zx_118_10, zx_118_11, zx_118_12, zx_118_13, zx_118_14, zx_118_15, zx_118_17, zx_118_18, zx_118_19, zx_118_21, zx_118_22, zx_118_24, zx_118_25, zx_118_30, zx_118_35, zx_118_36, zx_118_37, zx_118_38, zx_118_39, zx_118_41, zx_118_42, zx_118_44, zx_118_45, zx_118_46, zgI_119, zsI_119, zgI_120, zsI_120, zgI_121, zsI_121, zgI_122, zsI_122, zgI_123, zsI_123, zgI_124, zsI_124, zgI_125, zsI_125, zgI_126, zsI_126, zgI_127, zsI_127, zgI_128, zsI_128, zgI_129, zsI_129, zgI_130, zsI_130, zgI_131, zsI_131, zgI_132, zsI_132, zgI_133, zsI_133, zgI_134, zsI_134, zgI_135, zsI_135, zgI_136, zsI_136, zgI_137, zsI_137, zgI_139, zsI_139, zgI_140, zsI_140, zgI_141, zsI_141, zgI_142, zsI_142, zgI_143, zsI_143, zgI_144, zsI_144, zgI_145, zsI_145, zgI_146, zsI_146, zgI_147, zsI_147, hne, not_false, hmv, e3, hmv3]
            have := ih σ3
            rw [hs] at this
            exact this ⟨c3, hK.tr hK3, by omega⟩
          | none =>
            have hs : zdi G (7 - d) = (s.1, zpar s.1 s.2) := hst _ e
            have k0 : s.2 ≠ 0 := fun k0 => by
              rw [hs] at hcnt2
              have := hcnt2 hcn2
              have hp := hT.par0
              simp only [k0, hp] at this hcnt
              omega
            obtain ⟨g1, g2, g3⟩ := hT.par hv hmk k0
            have hpl := hT.lt g1
            have hfrom := (c1.2.2 _ (show s.2 < 5 by omega)).1
            rw [g3] at hfrom
            show zE 203 (zb_203_24 zL σ1 118 (nI s.2) (nI 0) (-nI 1)) _
            unfold zb_203_24
            rw [if_pos (show (-nI 1 : Int32) < 0 by decide)]
            simp (disch := first | assumption | omega) only [zn0, zn1, Option.bind_some, zm_ai, zm_al, zm_av, zm_opt, zm_fw, zE_l, zE_r, nI_add, pk_mul, pk_sub, pk_div, pk_rem, zrem, zpm1, zB_i0, zB_i1, zB_ok, zB_T, zB_F, nI_toInt, zT_sub, zT_neg, zT_le, zT_lt, nI_eq, zne1, zne2, zne9, ite_not, or_true, true_or, if_true, if_false, if_pos, if_neg, zw_R, zw_RL, zw_I, zF_R, zw_same, zw_cell, zw_ne, zF_at, zF_ne, zi_118, zx_118_0, zx_118_1, zx_118_2, zx_118_3, zx_118_7, zx_118_8, zx_118_9, zx_118_10, zx_118_11, zx_118_12, zx_118_13, zx_118_14, zx_118_15, zx_118_17, zx_118_18, zx_118_19, zx_118_21, zx_118_22, zx_118_24, zx_118_25, zx_118_30, zx_118_35, zx_118_36, zx_118_37, zx_118_38, zx_118_39, zx_118_41, zx_118_42, zx_118_44, zx_118_45, zx_118_46, zgI_119, zsI_119, zgI_120, zsI_120, zgI_121, zsI_121, zgI_122, zsI_122, zgI_123, zsI_123, zgI_124, zsI_124, zgI_125, zsI_125, zgI_126, zsI_126, zgI_127, zsI_127, zgI_128, zsI_128, zgI_129, zsI_129, zgI_130, zsI_130, zgI_131, zsI_131, zgI_132, zsI_132, zgI_133, zsI_133, zgI_134, zsI_134, zgI_135, zsI_135, zgI_136, zsI_136, zgI_137, zsI_137, zgI_139, zsI_139, zgI_140, zsI_140, zgI_141, zsI_141, zgI_142, zsI_142, zgI_143, zsI_143, zgI_144, zsI_144, zgI_145, zsI_145, zgI_146, zsI_146, zgI_147, zsI_147, not_true, hfrom]
            have := ih σ1
            rw [hs] at this
            exact this ⟨c1, hK, by omega⟩
    · obtain ⟨c1, hK, hd⟩ := hI
      have hG1 := hG.keepT hK
      have hg1 := hG1.1
      have hc := c1.1
      have hfull := zdi_full hv htr (show 1 ≤ G.1 by omega) (Nat.le_refl 7)
      rw [Nat.sub_zero] at hc c1
      rw [hfull] at hc
      refine zW_of zg_203_2 ?_
      simp (disch := first | assumption | omega) only [zn0, zn1, Option.bind_some, zm_ai, zm_al, zm_av, zm_opt, zm_fw, zE_l, zE_r, nI_add, pk_mul, pk_sub, pk_div, pk_rem, zrem, zpm1, zB_i0, zB_i1, zB_ok, zB_T, zB_F, nI_toInt, zT_sub, zT_neg, zT_le, zT_lt, nI_eq, zne1, zne2, zne9, ite_not, or_true, true_or, if_true, if_false, if_pos, if_neg, zw_R, zw_RL, zw_I, zF_R, zw_same, zw_cell, zw_ne, zF_at, zF_ne, zi_118, zx_118_0, zx_118_1, zx_118_2, zx_118_3, zx_118_7, zx_118_8, zx_118_9, zx_118_10, zx_118_11, zx_118_12, zx_118_13, zx_118_14, zx_118_15, zx_118_17, zx_118_18, zx_118_19, zx_118_21, zx_118_22, zx_118_24, zx_118_25, zx_118_30, zx_118_35, zx_118_36, zx_118_37, zx_118_38, zx_118_39, zx_118_41, zx_118_42, zx_118_44, zx_118_45, zx_118_46, zgI_119, zsI_119, zgI_120, zsI_120, zgI_121, zsI_121, zgI_122, zsI_122, zgI_123, zsI_123, zgI_124, zsI_124, zgI_125, zsI_125, zgI_126, zsI_126, zgI_127, zsI_127, zgI_128, zsI_128, zgI_129, zsI_129, zgI_130, zsI_130, zgI_131, zsI_131, zgI_132, zsI_132, zgI_133, zsI_133, zgI_134, zsI_134, zgI_135, zsI_135, zgI_136, zsI_136, zgI_137, zsI_137, zgI_139, zsI_139, zgI_140, zsI_140, zgI_141, zsI_141, zgI_142, zsI_142, zgI_143, zsI_143, zgI_144, zsI_144, zgI_145, zsI_145, zgI_146, zsI_146, zgI_147, zsI_147, zb_203_2, hg1, hc]
      have e := zdi_stay hv htr (by omega) hfull 3
      exact ⟨σ1, rfl, by rw [e]; exact c1, hK⟩
  have := key 7 σ ⟨h, zKeep.rf _ _, Nat.le_refl _⟩
  exact this
end ZDP
