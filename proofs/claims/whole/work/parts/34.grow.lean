/-! the tree grows: class and reference -/
def zCT (σ : zm_Sig) (t : zT) : Prop := σ.1 20 10 = nI t.1 ∧ (∀ i, i < t.1 → σ.1 27 i = nI (t.2.1 i)) ∧ ∀ p, p < 5 → (zMet t p → σ.1 23 p = t.2.2.1 p ∧ σ.1 24 p = t.2.2.2.1 p ∧ σ.1 25 p = nI (t.2.2.2.2.1 p) ∧ σ.1 26 p = nI (t.2.2.2.2.2 p)) ∧ (¬ zMet t p → σ.1 26 p = -nI 1)
def zMT (σ : zm_Sig) (t : zT) : Prop := σ.1 118 16 = nI t.1 ∧ (∀ i, i < t.1 → σ.1 131 i = nI (t.2.1 i)) ∧ ∀ p, p < 5 → σ.1 127 p = t.2.2.1 p ∧ σ.1 128 p = t.2.2.2.1 p ∧ σ.1 129 p = nI (t.2.2.2.2.1 p) ∧ (zMet t p → σ.1 130 p = nI (t.2.2.2.2.2 p))
def zFT (a k : Nat) : Bool := (23 ≤ a && a ≤ 27) || (a == 20 && k == 10)
def zFMT (a k : Nat) : Bool := (127 ≤ a && a ≤ 131) || (a == 118 && k == 16)
theorem zCT.keep {S : Nat → Nat → Bool} {σ σ' : zm_Sig} {t : zT} (h : zCT σ t) (hk : zKeep S σ σ') (h0 : S 20 10 = false) (hS : ∀ k, S 23 k = false ∧ S 24 k = false ∧ S 25 k = false ∧ S 26 k = false ∧ S 27 k = false) : zCT σ' t := by
  obtain ⟨h1, h2, h3⟩ := h
  refine ⟨(hk.i h0).trans h1, fun i hi => (hk.i (hS i).2.2.2.2).trans (h2 i hi), fun p hp => ⟨fun hm => ?_, fun hm => ?_⟩⟩
  · rw [hk.i (hS p).1, hk.i (hS p).2.1, hk.i (hS p).2.2.1, hk.i (hS p).2.2.2.1]; exact (h3 p hp).1 hm
  · rw [hk.i (hS p).2.2.2.1]; exact (h3 p hp).2 hm
theorem zMT.keep {S : Nat → Nat → Bool} {σ σ' : zm_Sig} {t : zT} (h : zMT σ t) (hk : zKeep S σ σ') (h0 : S 118 16 = false) (hS : ∀ k, S 127 k = false ∧ S 128 k = false ∧ S 129 k = false ∧ S 130 k = false ∧ S 131 k = false) : zMT σ' t := by
  obtain ⟨h1, h2, h3⟩ := h
  refine ⟨(hk.i h0).trans h1, fun i hi => (hk.i (hS i).2.2.2.2).trans (h2 i hi), fun p hp => ?_⟩
  rw [hk.i (hS p).1, hk.i (hS p).2.1, hk.i (hS p).2.2.1, hk.i (hS p).2.2.2.1]; exact h3 p hp
section ZGW
variable {σ : zm_Sig} {a : Nat} {G : zG} {t : zT}
theorem c_reach0 (hF : zFix σ) {q c d : Nat} (hq : q < 5) (hc : c < 5) (h : σ.1 20 10 = nI c) (s l : Int32) : zM 53 [.ref 20, .int (nI q), .int s, .int l, .int (nI d)] zL σ = some (none, zL, zm_wI (zm_wI (zm_wI (zm_wI (zm_wI (zm_wI σ 23 q s) 24 q l) 25 q (nI d)) 26 q (nI c)) 27 c (nI q)) 20 10 (nI (c + 1))) := by
  refine zS_eq (zS_of ze_53 ?_)
  simp (disch := first | assumption | omega) only [zn0, zn1, Option.bind_some, zm_ai, zm_al, zm_av, zm_opt, zm_fw, zE_l, zE_r, nI_add, pk_mul, pk_sub, pk_div, pk_rem, zrem, zpm1, zB_i0, zB_i1, zB_ok, zB_T, zB_F, nI_toInt, zT_sub, zT_neg, zT_le, zT_lt, nI_eq, zne1, zne2, zne9, ite_not, or_true, true_or, if_true, if_false, if_pos, if_neg, zw_R, zw_RL, zw_I, zF_R, zw_same, zw_cell, zw_ne, zF_at, zF_ne, zi_0, zi_1, zi_10, zi_17, zi_19, zi_20, zi_30, zi_48, zi_50, zi_52, zi_57, zi_59, zi_80, zi_93, zi_106, zi_110, zi_114, zx_0_0, zx_0_1, zx_0_2, zx_0_3, zx_0_4, zx_0_5, zx_0_6, zx_0_7, zx_0_8, zx_0_9, zx_0_10, zx_1_0, zx_1_1, zx_2_0, zx_2_1, zx_2_2, zx_2_3, zx_2_4, zx_2_5, zx_10_0, zx_10_1, zx_11_0, zx_11_1, zx_11_2, zx_11_3, zx_17_0, zx_19_0, zx_19_1, zx_19_2, zx_20_0, zx_20_1, zx_20_3, zx_20_4, zx_20_5, zx_20_6, zx_20_7, zx_20_8, zx_20_9, zx_30_0, zx_30_1, zx_30_4, zx_30_5, zx_48_0, zx_50_0, zx_52_0, zx_52_1, zx_52_2, zx_56_0, zx_56_1, zx_56_2, zx_57_0, zx_59_0, zx_80_3, zx_80_4, zx_80_5, zx_81_0, zx_81_1, zx_81_2, zx_81_3, zx_81_4, zx_81_5, zx_88_0, zx_88_1, zx_88_2, zx_93_3, zx_93_4, zx_93_5, zx_94_0, zx_94_1, zx_94_2, zx_94_3, zx_94_4, zx_94_5, zx_101_0, zx_101_1, zx_101_2, zx_106_0, zx_106_1, zx_106_2, zx_110_0, zx_110_1, zx_110_2, zx_114_0, zx_114_1, zx_114_2, zgI_9, zsI_9, zgI_16, zsI_16, zgI_18, zsI_18, zgI_21, zsI_21, zgI_22, zsI_22, zgI_23, zsI_23, zgI_24, zsI_24, zgI_25, zsI_25, zgI_26, zsI_26, zgI_27, zsI_27, zgI_28, zsI_28, zgI_29, zsI_29, zgI_47, zsI_47, zgI_49, zsI_49, zgI_51, zsI_51, zgI_53, zsI_53, zgI_54, zsI_54, zgI_55, zsI_55, zgI_58, zsI_58, zgI_76, zsI_76, zgI_79, zsI_79, zb_53_0, h]
theorem c_reach (hF : zFix σ) (h : zCT σ t) {q k : Nat} (hq : q < 5) (hk : k < 5) (hc : t.1 < 5) (hn : ¬ zMet t q) (v : Int32) :
    ∃ σ', zM 53 [.ref 20, .int (nI q), .int (nI k), .int v, .int (nI (t.2.2.2.2.1 k + 1))] zL σ = some (none, zL, σ') ∧ zCT σ' (zreach t q k v) ∧ zKeep zFT σ σ' := by
  obtain ⟨h1, h2, h3⟩ := h
  refine ⟨_, c_reach0 hF hq hc h1 _ _, ⟨?_, fun i hi => ?_, fun p hp => ⟨fun hm => ?_, fun hm => ?_⟩⟩, ?_⟩
  · rw [zw_same]; rfl
  · have hi' : i < t.1 + 1 := hi
    rw [zw_cell _ _ (by decide)]
    show _ = nI (zup t.2.1 t.1 q i)
    by_cases e : i = t.1
    · subst e; rw [zw_same, zup_s]
    · rw [zw_ne _ _ (Or.inr e), zup_n _ _ e, zw_cell _ _ (by decide), zw_cell _ _ (by decide), zw_cell _ _ (by decide), zw_cell _ _ (by decide)]
      exact h2 i (by omega)
  · rw [zw_cell _ _ (show (23 : Nat) ≠ 20 by decide), zw_cell _ _ (show (23 : Nat) ≠ 27 by decide), zw_cell _ _ (show (23 : Nat) ≠ 26 by decide), zw_cell _ _ (show (23 : Nat) ≠ 25 by decide), zw_cell _ _ (show (23 : Nat) ≠ 24 by decide),
      zw_cell _ _ (show (24 : Nat) ≠ 20 by decide), zw_cell _ _ (show (24 : Nat) ≠ 27 by decide), zw_cell _ _ (show (24 : Nat) ≠ 26 by decide), zw_cell _ _ (show (24 : Nat) ≠ 25 by decide),
      zw_cell _ _ (show (25 : Nat) ≠ 20 by decide), zw_cell _ _ (show (25 : Nat) ≠ 27 by decide), zw_cell _ _ (show (25 : Nat) ≠ 26 by decide),
      zw_cell _ _ (show (26 : Nat) ≠ 20 by decide), zw_cell _ _ (show (26 : Nat) ≠ 27 by decide)]
    show _ = zup t.2.2.1 q (nI k) p ∧ _ = zup t.2.2.2.1 q v p ∧ _ = nI (zup t.2.2.2.2.1 q _ p) ∧ _ = nI (zup t.2.2.2.2.2 q _ p)
    by_cases e : p = q
    · subst e
      rw [zup_s, zup_s, zup_s, zup_s, zw_same, zw_same, zw_same, zw_same]
      exact ⟨rfl, rfl, rfl, rfl⟩
    · rw [zup_n _ _ e, zup_n _ _ e, zup_n _ _ e, zup_n _ _ e, zw_ne _ _ (Or.inr e)]
      repeat rw [zw_ne _ _ (Or.inr e)]
      exact (h3 p hp).1 ((zMet_reach.mp hm).resolve_right e)
  · have hm' : ¬ zMet t p := fun c => hm (zMet_reach.mpr (Or.inl c))
    have e : p ≠ q := fun c => hm (zMet_reach.mpr (Or.inr c))
    rw [zw_cell _ _ (by decide), zw_cell _ _ (by decide), zw_ne _ _ (Or.inr e), zw_cell _ _ (by decide), zw_cell _ _ (by decide), zw_cell _ _ (by decide)]
    exact (h3 p hp).2 hm'
  · exact ((((((zKeep.rf zFT σ).wI rfl).wI rfl).wI rfl).wI rfl).wI rfl).wI rfl
theorem c_plant (hF : zFix σ) : ∃ σ', zM 52 [.ref 20] zL σ = some (none, zL, σ') ∧ zCT σ' zt0 ∧ zKeep zFT σ σ' := by
  refine zS_ex (zS_of ze_52 ?_)
  have e1 := c_fill (lay := zL) (σ := σ) (a := 26) (n := 5) rfl (by decide) (-nI 1)
  have hF2 : zFix (zm_wI (zm_wF σ 26 (fun k => if k < 5 then -nI 1 else σ.1 26 k)) 20 10 (nI 0)) := hF
  have e2 := c_reach0 hF2 (q := 0) (c := 0) (d := 0) (by decide) (by decide) (zw_same _ _ _ _) (-9) (-9)
  simp (disch := first | assumption | omega) only [zn0, zn1, Option.bind_some, zm_ai, zm_al, zm_av, zm_opt, zm_fw, zE_l, zE_r, nI_add, pk_mul, pk_sub, pk_div, pk_rem, zrem, zpm1, zB_i0, zB_i1, zB_ok, zB_T, zB_F, nI_toInt, zT_sub, zT_neg, zT_le, zT_lt, nI_eq, zne1, zne2, zne9, ite_not, or_true, true_or, if_true, if_false, if_pos, if_neg, zw_R, zw_RL, zw_I, zF_R, zw_same, zw_cell, zw_ne, zF_at, zF_ne, zi_0, zi_1, zi_10, zi_17, zi_19, zi_20, zi_30, zi_48, zi_50, zi_52, zi_57, zi_59, zi_80, zi_93, zi_106, zi_110, zi_114, zx_0_0, zx_0_1, zx_0_2, zx_0_3, zx_0_4, zx_0_5, zx_0_6, zx_0_7, zx_0_8, zx_0_9, zx_0_10, zx_1_0, zx_1_1, zx_2_0, zx_2_1, zx_2_2, zx_2_3, zx_2_4, zx_2_5, zx_10_0, zx_10_1, zx_11_0, zx_11_1, zx_11_2, zx_11_3, zx_17_0, zx_19_0, zx_19_1, zx_19_2, zx_20_0, zx_20_1, zx_20_3, zx_20_4, zx_20_5, zx_20_6, zx_20_7, zx_20_8, zx_20_9, zx_30_0, zx_30_1, zx_30_4, zx_30_5, zx_48_0, zx_50_0, zx_52_0, zx_52_1, zx_52_2, zx_56_0, zx_56_1, zx_56_2, zx_57_0, zx_59_0, zx_80_3, zx_80_4, zx_80_5, zx_81_0, zx_81_1, zx_81_2, zx_81_3, zx_81_4, zx_81_5, zx_88_0, zx_88_1, zx_88_2, zx_93_3, zx_93_4, zx_93_5, zx_94_0, zx_94_1, zx_94_2, zx_94_3, zx_94_4, zx_94_5, zx_101_0, zx_101_1, zx_101_2, zx_106_0, zx_106_1, zx_106_2, zx_110_0, zx_110_1, zx_110_2, zx_114_0, zx_114_1, zx_114_2, zgI_9, zsI_9, zgI_16, zsI_16, zgI_18, zsI_18, zgI_21, zsI_21, zgI_22, zsI_22, zgI_23, zsI_23, zgI_24, zsI_24, zgI_25, zsI_25, zgI_26, zsI_26, zgI_27, zsI_27, zgI_28, zsI_28, zgI_29, zsI_29, zgI_47, zsI_47, zgI_49, zsI_49, zgI_51, zsI_51, zgI_53, zsI_53, zgI_54, zsI_54, zgI_55, zsI_55, zgI_58, zsI_58, zgI_76, zsI_76, zgI_79, zsI_79, zb_52_0, e1, e2]
  refine ⟨_, rfl, ⟨?_, fun i hi => ?_, fun p hp => ⟨fun hm => ?_, fun hm => ?_⟩⟩, ?_⟩
  · rw [zw_same]; rfl
  · have hi' : i < 1 := hi
    have : i = 0 := by omega
    subst this
    rw [zw_cell _ _ (by decide), zw_same]; rfl
  · have : p = 0 := hm.elim id (fun q => absurd q (Nat.lt_irrefl 0))
    subst this
    rw [zw_cell _ _ (show (23 : Nat) ≠ 20 by decide), zw_cell _ _ (show (23 : Nat) ≠ 27 by decide), zw_cell _ _ (show (23 : Nat) ≠ 26 by decide), zw_cell _ _ (show (23 : Nat) ≠ 25 by decide), zw_cell _ _ (show (23 : Nat) ≠ 24 by decide),
      zw_cell _ _ (show (24 : Nat) ≠ 20 by decide), zw_cell _ _ (show (24 : Nat) ≠ 27 by decide), zw_cell _ _ (show (24 : Nat) ≠ 26 by decide), zw_cell _ _ (show (24 : Nat) ≠ 25 by decide),
      zw_cell _ _ (show (25 : Nat) ≠ 20 by decide), zw_cell _ _ (show (25 : Nat) ≠ 27 by decide), zw_cell _ _ (show (25 : Nat) ≠ 26 by decide),
      zw_cell _ _ (show (26 : Nat) ≠ 20 by decide), zw_cell _ _ (show (26 : Nat) ≠ 27 by decide), zw_same, zw_same, zw_same, zw_same]
    exact ⟨rfl, rfl, rfl, rfl⟩
  · have h0 : p ≠ 0 := fun e => hm (Or.inl e)
    rw [zw_cell _ _ (by decide), zw_cell _ _ (by decide), zw_ne _ _ (Or.inr h0), zw_cell _ _ (by decide), zw_cell _ _ (by decide), zw_cell _ _ (by decide), zw_cell _ _ (by decide), zF_at, if_pos hp]
  · refine ((((((((zKeep.rf zFT σ).wF fun k => rfl).wI rfl).wI rfl).wI rfl).wI rfl).wI rfl).wI rfl).wI rfl
theorem zFT_g {b k : Nat} (hb : 80 ≤ b) : zFT b k = false := by
  simp only [zFT, Bool.or_eq_false_iff, Bool.and_eq_false_iff, decide_eq_false_iff_not, beq_eq_false_iff_ne]
  omega
theorem zGo.ge {a : Nat} (h : zGo a) : 80 ≤ a := by rcases h with rfl | rfl <;> decide
/-- one letter, broad -/
theorem c_growBroad {lt : Nat} (hlt : lt = 0 ∨ lt = 1) (hF : zFix σ) (ha : zGo a) (hG : zCG σ a G) (hv : zGv G) (h : zCT σ t) (hT : zTi G t) :
    ∃ σ', zM 57 [.ref 20, .ref a, .int (nI lt)] zL σ = some (none, zL, σ') ∧ zCT σ' (zbl G lt 5 0 t) ∧ zKeep zFT σ σ' := by
  refine zS_ex (zS_of ze_57 ?_)
  have hge := ha.ge
  have v1 := hv.1
  have v2 := hv.2.1
  have hg2 := hG.2.1
  simp (disch := first | assumption | omega) only [zn0, zn1, Option.bind_some, zm_ai, zm_al, zm_av, zm_opt, zm_fw, zE_l, zE_r, nI_add, pk_mul, pk_sub, pk_div, pk_rem, zrem, zpm1, zB_i0, zB_i1, zB_ok, zB_T, zB_F, nI_toInt, zT_sub, zT_neg, zT_le, zT_lt, nI_eq, zne1, zne2, zne9, ite_not, or_true, true_or, if_true, if_false, if_pos, if_neg, zw_R, zw_RL, zw_I, zF_R, zw_same, zw_cell, zw_ne, zF_at, zF_ne, zi_0, zi_1, zi_10, zi_17, zi_19, zi_20, zi_30, zi_48, zi_50, zi_52, zi_57, zi_59, zi_80, zi_93, zi_106, zi_110, zi_114, zx_0_0, zx_0_1, zx_0_2, zx_0_3, zx_0_4, zx_0_5, zx_0_6, zx_0_7, zx_0_8, zx_0_9, zx_0_10, zx_1_0, zx_1_1, zx_2_0, zx_2_1, zx_2_2, zx_2_3, zx_2_4, zx_2_5, zx_10_0, zx_10_1, zx_11_0, zx_11_1, zx_11_2, zx_11_3, zx_17_0, zx_19_0, zx_19_1, zx_19_2, zx_20_0, zx_20_1, zx_20_3, zx_20_4, zx_20_5, zx_20_6, zx_20_7, zx_20_8, zx_20_9, zx_30_0, zx_30_1, zx_30_4, zx_30_5, zx_48_0, zx_50_0, zx_52_0, zx_52_1, zx_52_2, zx_56_0, zx_56_1, zx_56_2, zx_57_0, zx_59_0, zx_80_3, zx_80_4, zx_80_5, zx_81_0, zx_81_1, zx_81_2, zx_81_3, zx_81_4, zx_81_5, zx_88_0, zx_88_1, zx_88_2, zx_93_3, zx_93_4, zx_93_5, zx_94_0, zx_94_1, zx_94_2, zx_94_3, zx_94_4, zx_94_5, zx_101_0, zx_101_1, zx_101_2, zx_106_0, zx_106_1, zx_106_2, zx_110_0, zx_110_1, zx_110_2, zx_114_0, zx_114_1, zx_114_2, zgI_9, zsI_9, zgI_16, zsI_16, zgI_18, zsI_18, zgI_21, zsI_21, zgI_22, zsI_22, zgI_23, zsI_23, zgI_24, zsI_24, zgI_25, zsI_25, zgI_26, zsI_26, zgI_27, zsI_27, zgI_28, zsI_28, zgI_29, zsI_29, zgI_47, zsI_47, zgI_49, zsI_49, zgI_51, zsI_51, zgI_53, zsI_53, zgI_54, zsI_54, zgI_55, zsI_55, zgI_58, zsI_58, zgI_76, zsI_76, zgI_79, zsI_79, zb_57_0, zGo_i, hg2]
  have key : ∀ d σ1, (∃ t1, zCT σ1 t1 ∧ zTi G t1 ∧ zKeep zFT σ σ1 ∧ zbl G lt d (5 - d) t1 = zbl G lt 5 0 t ∧ d ≤ 5) → zW 57 (10, [(0, .ref 20), (1, .ref a), (2, .int (nI lt)), (3, .int (nI (2 * G.2.1))), (4, .int (nI (5 - d)))], [], zL, σ1, 0, 0) (fun q => ∃ σ', q = (none, zL, σ') ∧ zCT σ' (zbl G lt 5 0 t) ∧ zKeep zFT σ σ') := by
    refine zloopD (fun d σ1 => (10, [(0, .ref 20), (1, .ref a), (2, .int (nI lt)), (3, .int (nI (2 * G.2.1))), (4, .int (nI (5 - d)))], [], zL, σ1, 0, 0)) _ (fun d σ1 hI ih => ?_) (fun σ1 hI => ?_)
    · obtain ⟨t1, c1, i1, hK, e1, hd⟩ := hI
      have hF1 := hK.fix hF rfl
      have hc := c1.1
      have hcn := i1.cnt
      refine zW_of zg_57_10 ?_
      by_cases q : 5 - (d + 1) < t1.1
      · have hrow := c1.2.1 (5 - (d + 1)) q
        have hmet := (i1.2.1 _ q).2.1
        have hklt := (i1.2.1 _ q).1
        simp (disch := first | assumption | omega) only [zn0, zn1, Option.bind_some, zm_ai, zm_al, zm_av, zm_opt, zm_fw, zE_l, zE_r, nI_add, pk_mul, pk_sub, pk_div, pk_rem, zrem, zpm1, zB_i0, zB_i1, zB_ok, zB_T, zB_F, nI_toInt, zT_sub, zT_neg, zT_le, zT_lt, nI_eq, zne1, zne2, zne9, ite_not, or_true, true_or, if_true, if_false, if_pos, if_neg, zw_R, zw_RL, zw_I, zF_R, zw_same, zw_cell, zw_ne, zF_at, zF_ne, zi_0, zi_1, zi_10, zi_17, zi_19, zi_20, zi_30, zi_48, zi_50, zi_52, zi_57, zi_59, zi_80, zi_93, zi_106, zi_110, zi_114, zx_0_0, zx_0_1, zx_0_2, zx_0_3, zx_0_4, zx_0_5, zx_0_6, zx_0_7, zx_0_8, zx_0_9, zx_0_10, zx_1_0, zx_1_1, zx_2_0, zx_2_1, zx_2_2, zx_2_3, zx_2_4, zx_2_5, zx_10_0, zx_10_1, zx_11_0, zx_11_1, zx_11_2, zx_11_3, zx_17_0, zx_19_0, zx_19_1, zx_19_2, zx_20_0, zx_20_1, zx_20_3, zx_20_4, zx_20_5, zx_20_6, zx_20_7, zx_20_8, zx_20_9, zx_30_0, zx_30_1, zx_30_4, zx_30_5, zx_48_0, zx_50_0, zx_52_0, zx_52_1, zx_52_2, zx_56_0, zx_56_1, zx_56_2, zx_57_0, zx_59_0, zx_80_3, zx_80_4, zx_80_5, zx_81_0, zx_81_1, zx_81_2, zx_81_3, zx_81_4, zx_81_5, zx_88_0, zx_88_1, zx_88_2, zx_93_3, zx_93_4, zx_93_5, zx_94_0, zx_94_1, zx_94_2, zx_94_3, zx_94_4, zx_94_5, zx_101_0, zx_101_1, zx_101_2, zx_106_0, zx_106_1, zx_106_2, zx_110_0, zx_110_1, zx_110_2, zx_114_0, zx_114_1, zx_114_2, zgI_9, zsI_9, zgI_16, zsI_16, zgI_18, zsI_18, zgI_21, zsI_21, zgI_22, zsI_22, zgI_23, zsI_23, zgI_24, zsI_24, zgI_25, zsI_25, zgI_26, zsI_26, zgI_27, zsI_27, zgI_28, zsI_28, zgI_29, zsI_29, zgI_47, zsI_47, zgI_49, zsI_49, zgI_51, zsI_51, zgI_53, zsI_53, zgI_54, zsI_54, zgI_55, zsI_55, zgI_58, zsI_58, zgI_76, zsI_76, zgI_79, zsI_79, zb_57_10, hc, hrow]
        have e2 : zbl G lt (d + 1) (5 - (d + 1)) t1 = zbl G lt d (5 - d) (zbi G lt (t1.2.1 (5 - (d + 1))) t1 (2 * G.2.1)) := by
          conv => lhs; unfold zbl
          rw [if_pos q, show 5 - (d + 1) + 1 = 5 - d by omega]
        generalize t1.2.1 (5 - (d + 1)) = k at *
        refine zloop (fun l σ2 => (37, [(0, .ref 20), (1, .ref a), (2, .int (nI lt)), (3, .int (nI (2 * G.2.1))), (4, .int (nI (5 - (d + 1)))), (5, .int (nI k)), (6, .int (nI l))], [], zL, σ2, 0, 0)) (fun l σ2 => zCT σ2 (zbi G lt k t1 l) ∧ zKeep zFT σ σ2) (2 * G.2.1) (fun l σ2 hl hI ih2 => ?_) (fun σ2 hI => ?_) 0 σ1 (by omega) ⟨c1, hK⟩
        · obtain ⟨c2, hK2⟩ := hI
          have hF2 := hK2.fix hF rfl
          have hG2 := hG.keep hv hK2 (fun k _ => zFT_g (by omega)) (fun b k hb _ => zFT_g (by omega))
          obtain ⟨i2, ge2, -⟩ := zbi_ok (lt := lt) hv i1 hmet l (by omega)
          have hm2 := ge2.2.1 k hmet
          have hzl := zlv_ok (G := G) (lt := lt) hl
          have hmv := c_moved hF2 ha hG2 hv hklt hzl
          have hq := zmv_lt hv hklt hzl
          have eL : zbi G lt k t1 (l + 1) = zbs G lt k (zbi G lt k t1 l) l := rfl
          rw [eL] at ih2
          generalize zbi G lt k t1 l = t2 at *
          have hfar := ((c2.2.2 k (by omega)).1 hm2).2.2.1
          refine zW_of zg_57_37 ?_
          have elet : ∀ (σ : zm_Sig), zM 56 [.int (nI (if lt = 0 then l else 2 * G.2.1 - 1 - l))] zL σ = some (some (.int (zlv G lt l)), zL, σ) := fun σ => c_letterOf (by split <;> omega)
          by_cases hm : zMet t2 (zmv G k (zlv G lt l))
          · rw [zbs_m hm] at ih2
            have hw := ((c2.2.2 _ (show zmv G k (zlv G lt l) < 5 by omega)).1 hm).2.2.2
            have hwb := (i2.2.2.1 _ hm).1
            have hcn2 := i2.cnt
            rcases hlt with rfl | rfl
            · rw [if_pos rfl] at elet
              simp (disch := first | assumption | omega) only [zn0, zn1, Option.bind_some, zm_ai, zm_al, zm_av, zm_opt, zm_fw, zE_l, zE_r, nI_add, pk_mul, pk_sub, pk_div, pk_rem, zrem, zpm1, zB_i0, zB_i1, zB_ok, zB_T, zB_F, nI_toInt, zT_sub, zT_neg, zT_le, zT_lt, nI_eq, zne1, zne2, zne9, ite_not, or_true, true_or, if_true, if_false, if_pos, if_neg, zw_R, zw_RL, zw_I, zF_R, zw_same, zw_cell, zw_ne, zF_at, zF_ne, zi_0, zi_1, zi_10, zi_17, zi_19, zi_20, zi_30, zi_48, zi_50, zi_52, zi_57, zi_59, zi_80, zi_93, zi_106, zi_110, zi_114, zx_0_0, zx_0_1, zx_0_2, zx_0_3, zx_0_4, zx_0_5, zx_0_6, zx_0_7, zx_0_8, zx_0_9, zx_0_10, zx_1_0, zx_1_1, zx_2_0, zx_2_1, zx_2_2, zx_2_3, zx_2_4, zx_2_5, zx_10_0, zx_10_1, zx_11_0, zx_11_1, zx_11_2, zx_11_3, zx_17_0, zx_19_0, zx_19_1, zx_19_2, zx_20_0, zx_20_1, zx_20_3, zx_20_4, zx_20_5, zx_20_6, zx_20_7, zx_20_8, zx_20_9, zx_30_0, zx_30_1, zx_30_4, zx_30_5, zx_48_0, zx_50_0, zx_52_0, zx_52_1, zx_52_2, zx_56_0, zx_56_1, zx_56_2, zx_57_0, zx_59_0, zx_80_3, zx_80_4, zx_80_5, zx_81_0, zx_81_1, zx_81_2, zx_81_3, zx_81_4, zx_81_5, zx_88_0, zx_88_1, zx_88_2, zx_93_3, zx_93_4, zx_93_5, zx_94_0, zx_94_1, zx_94_2, zx_94_3, zx_94_4, zx_94_5, zx_101_0, zx_101_1, zx_101_2, zx_106_0, zx_106_1, zx_106_2, zx_110_0, zx_110_1, zx_110_2, zx_114_0, zx_114_1, zx_114_2, zgI_9, zsI_9, zgI_16, zsI_16, zgI_18, zsI_18, zgI_21, zsI_21, zgI_22, zsI_22, zgI_23, zsI_23, zgI_24, zsI_24, zgI_25, zsI_25, zgI_26, zsI_26, zgI_27, zsI_27, zgI_28, zsI_28, zgI_29, zsI_29, zgI_47, zsI_47, zgI_49, zsI_49, zgI_51, zsI_51, zgI_53, zsI_53, zgI_54, zsI_54, zgI_55, zsI_55, zgI_58, zsI_58, zgI_76, zsI_76, zgI_79, zsI_79, zb_57_37, elet, zGo_i, hmv, hw]
              exact ih2 σ2 ⟨c2, hK2⟩
            · rw [if_neg (by decide)] at elet
              simp (disch := first | assumption | omega) only [zn0, zn1, Option.bind_some, zm_ai, zm_al, zm_av, zm_opt, zm_fw, zE_l, zE_r, nI_add, pk_mul, pk_sub, pk_div, pk_rem, zrem, zpm1, zB_i0, zB_i1, zB_ok, zB_T, zB_F, nI_toInt, zT_sub, zT_neg, zT_le, zT_lt, nI_eq, zne1, zne2, zne9, ite_not, or_true, true_or, if_true, if_false, if_pos, if_neg, zw_R, zw_RL, zw_I, zF_R, zw_same, zw_cell, zw_ne, zF_at, zF_ne, zi_0, zi_1, zi_10, zi_17, zi_19, zi_20, zi_30, zi_48, zi_50, zi_52, zi_57, zi_59, zi_80, zi_93, zi_106, zi_110, zi_114, zx_0_0, zx_0_1, zx_0_2, zx_0_3, zx_0_4, zx_0_5, zx_0_6, zx_0_7, zx_0_8, zx_0_9, zx_0_10, zx_1_0, zx_1_1, zx_2_0, zx_2_1, zx_2_2, zx_2_3, zx_2_4, zx_2_5, zx_10_0, zx_10_1, zx_11_0, zx_11_1, zx_11_2, zx_11_3, zx_17_0, zx_19_0, zx_19_1, zx_19_2, zx_20_0, zx_20_1, zx_20_3, zx_20_4, zx_20_5, zx_20_6, zx_20_7, zx_20_8, zx_20_9, zx_30_0, zx_30_1, zx_30_4, zx_30_5, zx_48_0, zx_50_0, zx_52_0, zx_52_1, zx_52_2, zx_56_0, zx_56_1, zx_56_2, zx_57_0, zx_59_0, zx_80_3, zx_80_4, zx_80_5, zx_81_0, zx_81_1, zx_81_2, zx_81_3, zx_81_4, zx_81_5, zx_88_0, zx_88_1, zx_88_2, zx_93_3, zx_93_4, zx_93_5, zx_94_0, zx_94_1, zx_94_2, zx_94_3, zx_94_4, zx_94_5, zx_101_0, zx_101_1, zx_101_2, zx_106_0, zx_106_1, zx_106_2, zx_110_0, zx_110_1, zx_110_2, zx_114_0, zx_114_1, zx_114_2, zgI_9, zsI_9, zgI_16, zsI_16, zgI_18, zsI_18, zgI_21, zsI_21, zgI_22, zsI_22, zgI_23, zsI_23, zgI_24, zsI_24, zgI_25, zsI_25, zgI_26, zsI_26, zgI_27, zsI_27, zgI_28, zsI_28, zgI_29, zsI_29, zgI_47, zsI_47, zgI_49, zsI_49, zgI_51, zsI_51, zgI_53, zsI_53, zgI_54, zsI_54, zgI_55, zsI_55, zgI_58, zsI_58, zgI_76, zsI_76, zgI_79, zsI_79, zb_57_37, elet, zGo_i, hmv, hw]
              exact ih2 σ2 ⟨c2, hK2⟩
          · rw [zbs_n hm] at ih2
            have hw := (c2.2.2 _ (show zmv G k (zlv G lt l) < 5 by omega)).2 hm
            have hnew := i2.new hq hm
            obtain ⟨σ3, e3, c3, hK3⟩ := c_reach hF2 c2 (k := k) (show zmv G k (zlv G lt l) < 5 by omega) (by omega) (by omega) hm (zlv G lt l)
            rcases hlt with rfl | rfl
            · rw [if_pos rfl] at elet
              simp (disch := first | assumption | omega) only [zn0, zn1, Option.bind_some, zm_ai, zm_al, zm_av, zm_opt, zm_fw, zE_l, zE_r, nI_add, pk_mul, pk_sub, pk_div, pk_rem, zrem, zpm1, zB_i0, zB_i1, zB_ok, zB_T, zB_F, nI_toInt, zT_sub, zT_neg, zT_le, zT_lt, nI_eq, zne1, zne2, zne9, ite_not, or_true, true_or, if_true, if_false, if_pos, if_neg, zw_R, zw_RL, zw_I, zF_R, zw_same, zw_cell, zw_ne, zF_at, zF_ne, zi_0, zi_1, zi_10, zi_17, zi_19, zi_20, zi_30, zi_48, zi_50, zi_52, zi_57, zi_59, zi_80, zi_93, zi_106, zi_110, zi_114, zx_0_0, zx_0_1, zx_0_2, zx_0_3, zx_0_4, zx_0_5, zx_0_6, zx_0_7, zx_0_8, zx_0_9, zx_0_10, zx_1_0, zx_1_1, zx_2_0, zx_2_1, zx_2_2, zx_2_3, zx_2_4, zx_2_5, zx_10_0, zx_10_1, zx_11_0, zx_11_1, zx_11_2, zx_11_3, zx_17_0, zx_19_0, zx_19_1, zx_19_2, zx_20_0, zx_20_1, zx_20_3, zx_20_4, zx_20_5, zx_20_6, zx_20_7, zx_20_8, zx_20_9, zx_30_0, zx_30_1, zx_30_4, zx_30_5, zx_48_0, zx_50_0, zx_52_0, zx_52_1, zx_52_2, zx_56_0, zx_56_1, zx_56_2, zx_57_0, zx_59_0, zx_80_3, zx_80_4, zx_80_5, zx_81_0, zx_81_1, zx_81_2, zx_81_3, zx_81_4, zx_81_5, zx_88_0, zx_88_1, zx_88_2, zx_93_3, zx_93_4, zx_93_5, zx_94_0, zx_94_1, zx_94_2, zx_94_3, zx_94_4, zx_94_5, zx_101_0, zx_101_1, zx_101_2, zx_106_0, zx_106_1, zx_106_2, zx_110_0, zx_110_1, zx_110_2, zx_114_0, zx_114_1, zx_114_2, zgI_9, zsI_9, zgI_16, zsI_16, zgI_18, zsI_18, zgI_21, zsI_21, zgI_22, zsI_22, zgI_23, zsI_23, zgI_24, zsI_24, zgI_25, zsI_25, zgI_26, zsI_26, zgI_27, zsI_27, zgI_28, zsI_28, zgI_29, zsI_29, zgI_47, zsI_47, zgI_49, zsI_49, zgI_51, zsI_51, zgI_53, zsI_53, zgI_54, zsI_54, zgI_55, zsI_55, zgI_58, zsI_58, zgI_76, zsI_76, zgI_79, zsI_79, zb_57_37, elet, zGo_i, hmv, hw, hfar, e3]
              exact ih2 σ3 ⟨c3, hK2.tr hK3⟩
            · rw [if_neg (by decide)] at elet
              simp (disch := first | assumption | omega) only [zn0, zn1, Option.bind_some, zm_ai, zm_al, zm_av, zm_opt, zm_fw, zE_l, zE_r, nI_add, pk_mul, pk_sub, pk_div, pk_rem, zrem, zpm1, zB_i0, zB_i1, zB_ok, zB_T, zB_F, nI_toInt, zT_sub, zT_neg, zT_le, zT_lt, nI_eq, zne1, zne2, zne9, ite_not, or_true, true_or, if_true, if_false, if_pos, if_neg, zw_R, zw_RL, zw_I, zF_R, zw_same, zw_cell, zw_ne, zF_at, zF_ne, zi_0, zi_1, zi_10, zi_17, zi_19, zi_20, zi_30, zi_48, zi_50, zi_52, zi_57, zi_59, zi_80, zi_93, zi_106, zi_110, zi_114, zx_0_0, zx_0_1, zx_0_2, zx_0_3, zx_0_4, zx_0_5, zx_0_6, zx_0_7, zx_0_8, zx_0_9, zx_0_10, zx_1_0, zx_1_1, zx_2_0, zx_2_1, zx_2_2, zx_2_3, zx_2_4, zx_2_5, zx_10_0, zx_10_1, zx_11_0, zx_11_1, zx_11_2, zx_11_3, zx_17_0, zx_19_0, zx_19_1, zx_19_2, zx_20_0, zx_20_1, zx_20_3, zx_20_4, zx_20_5, zx_20_6, zx_20_7, zx_20_8, zx_20_9, zx_30_0, zx_30_1, zx_30_4, zx_30_5, zx_48_0, zx_50_0, zx_52_0, zx_52_1, zx_52_2, zx_56_0, zx_56_1, zx_56_2, zx_57_0, zx_59_0, zx_80_3, zx_80_4, zx_80_5, zx_81_0, zx_81_1, zx_81_2, zx_81_3, zx_81_4, zx_81_5, zx_88_0, zx_88_1, zx_88_2, zx_93_3, zx_93_4, zx_93_5, zx_94_0, zx_94_1, zx_94_2, zx_94_3, zx_94_4, zx_94_5, zx_101_0, zx_101_1, zx_101_2, zx_106_0, zx_106_1, zx_106_2, zx_110_0, zx_110_1, zx_110_2, zx_114_0, zx_114_1, zx_114_2, zgI_9, zsI_9, zgI_16, zsI_16, zgI_18, zsI_18, zgI_21, zsI_21, zgI_22, zsI_22, zgI_23, zsI_23, zgI_24, zsI_24, zgI_25, zsI_25, zgI_26, zsI_26, zgI_27, zsI_27, zgI_28, zsI_28, zgI_29, zsI_29, zgI_47, zsI_47, zgI_49, zsI_49, zgI_51, zsI_51, zgI_53, zsI_53, zgI_54, zsI_54, zgI_55, zsI_55, zgI_58, zsI_58, zgI_76, zsI_76, zgI_79, zsI_79, zb_57_37, elet, zGo_i, hmv, hw, hfar, e3]
              exact ih2 σ3 ⟨c3, hK2.tr hK3⟩
        · obtain ⟨c2, hK2⟩ := hI
          obtain ⟨i2, ge2, -⟩ := zbi_ok (lt := lt) hv i1 hmet (2 * G.2.1) (Nat.le_refl _)
          refine zW_of zg_57_37 ?_
          simp (disch := first | assumption | omega) only [zn0, zn1, Option.bind_some, zm_ai, zm_al, zm_av, zm_opt, zm_fw, zE_l, zE_r, nI_add, pk_mul, pk_sub, pk_div, pk_rem, zrem, zpm1, zB_i0, zB_i1, zB_ok, zB_T, zB_F, nI_toInt, zT_sub, zT_neg, zT_le, zT_lt, nI_eq, zne1, zne2, zne9, ite_not, or_true, true_or, if_true, if_false, if_pos, if_neg, zw_R, zw_RL, zw_I, zF_R, zw_same, zw_cell, zw_ne, zF_at, zF_ne, zi_0, zi_1, zi_10, zi_17, zi_19, zi_20, zi_30, zi_48, zi_50, zi_52, zi_57, zi_59, zi_80, zi_93, zi_106, zi_110, zi_114, zx_0_0, zx_0_1, zx_0_2, zx_0_3, zx_0_4, zx_0_5, zx_0_6, zx_0_7, zx_0_8, zx_0_9, zx_0_10, zx_1_0, zx_1_1, zx_2_0, zx_2_1, zx_2_2, zx_2_3, zx_2_4, zx_2_5, zx_10_0, zx_10_1, zx_11_0, zx_11_1, zx_11_2, zx_11_3, zx_17_0, zx_19_0, zx_19_1, zx_19_2, zx_20_0, zx_20_1, zx_20_3, zx_20_4, zx_20_5, zx_20_6, zx_20_7, zx_20_8, zx_20_9, zx_30_0, zx_30_1, zx_30_4, zx_30_5, zx_48_0, zx_50_0, zx_52_0, zx_52_1, zx_52_2, zx_56_0, zx_56_1, zx_56_2, zx_57_0, zx_59_0, zx_80_3, zx_80_4, zx_80_5, zx_81_0, zx_81_1, zx_81_2, zx_81_3, zx_81_4, zx_81_5, zx_88_0, zx_88_1, zx_88_2, zx_93_3, zx_93_4, zx_93_5, zx_94_0, zx_94_1, zx_94_2, zx_94_3, zx_94_4, zx_94_5, zx_101_0, zx_101_1, zx_101_2, zx_106_0, zx_106_1, zx_106_2, zx_110_0, zx_110_1, zx_110_2, zx_114_0, zx_114_1, zx_114_2, zgI_9, zsI_9, zgI_16, zsI_16, zgI_18, zsI_18, zgI_21, zsI_21, zgI_22, zsI_22, zgI_23, zsI_23, zgI_24, zsI_24, zgI_25, zsI_25, zgI_26, zsI_26, zgI_27, zsI_27, zgI_28, zsI_28, zgI_29, zsI_29, zgI_47, zsI_47, zgI_49, zsI_49, zgI_51, zsI_51, zgI_53, zsI_53, zgI_54, zsI_54, zgI_55, zsI_55, zgI_58, zsI_58, zgI_76, zsI_76, zgI_79, zsI_79, zb_57_37]
          rw [show 5 - (d + 1) + 1 = 5 - d by omega]
          exact ih σ2 ⟨_, c2, i2, hK2, by rw [← e2]; exact e1, by omega⟩
      · simp (disch := first | assumption | omega) only [zn0, zn1, Option.bind_some, zm_ai, zm_al, zm_av, zm_opt, zm_fw, zE_l, zE_r, nI_add, pk_mul, pk_sub, pk_div, pk_rem, zrem, zpm1, zB_i0, zB_i1, zB_ok, zB_T, zB_F, nI_toInt, zT_sub, zT_neg, zT_le, zT_lt, nI_eq, zne1, zne2, zne9, ite_not, or_true, true_or, if_true, if_false, if_pos, if_neg, zw_R, zw_RL, zw_I, zF_R, zw_same, zw_cell, zw_ne, zF_at, zF_ne, zi_0, zi_1, zi_10, zi_17, zi_19, zi_20, zi_30, zi_48, zi_50, zi_52, zi_57, zi_59, zi_80, zi_93, zi_106, zi_110, zi_114, zx_0_0, zx_0_1, zx_0_2, zx_0_3, zx_0_4, zx_0_5, zx_0_6, zx_0_7, zx_0_8, zx_0_9, zx_0_10, zx_1_0, zx_1_1, zx_2_0, zx_2_1, zx_2_2, zx_2_3, zx_2_4, zx_2_5, zx_10_0, zx_10_1, zx_11_0, zx_11_1, zx_11_2, zx_11_3, zx_17_0, zx_19_0, zx_19_1, zx_19_2, zx_20_0, zx_20_1, zx_20_3, zx_20_4, zx_20_5, zx_20_6, zx_20_7, zx_20_8, zx_20_9, zx_30_0, zx_30_1, zx_30_4, zx_30_5, zx_48_0, zx_50_0, zx_52_0, zx_52_1, zx_52_2, zx_56_0, zx_56_1, zx_56_2, zx_57_0, zx_59_0, zx_80_3, zx_80_4, zx_80_5, zx_81_0, zx_81_1, zx_81_2, zx_81_3, zx_81_4, zx_81_5, zx_88_0, zx_88_1, zx_88_2, zx_93_3, zx_93_4, zx_93_5, zx_94_0, zx_94_1, zx_94_2, zx_94_3, zx_94_4, zx_94_5, zx_101_0, zx_101_1, zx_101_2, zx_106_0, zx_106_1, zx_106_2, zx_110_0, zx_110_1, zx_110_2, zx_114_0, zx_114_1, zx_114_2, zgI_9, zsI_9, zgI_16, zsI_16, zgI_18, zsI_18, zgI_21, zsI_21, zgI_22, zsI_22, zgI_23, zsI_23, zgI_24, zsI_24, zgI_25, zsI_25, zgI_26, zsI_26, zgI_27, zsI_27, zgI_28, zsI_28, zgI_29, zsI_29, zgI_47, zsI_47, zgI_49, zsI_49, zgI_51, zsI_51, zgI_53, zsI_53, zgI_54, zsI_54, zgI_55, zsI_55, zgI_58, zsI_58, zgI_76, zsI_76, zgI_79, zsI_79, zb_57_10, hc]
        refine ⟨σ1, rfl, ?_, hK⟩
        have e2 : zbl G lt (d + 1) (5 - (d + 1)) t1 = t1 := by
          unfold zbl
          rw [if_neg q]
        rw [← e1, e2]
        exact c1
    · obtain ⟨t1, c1, i1, hK, e1, hd⟩ := hI
      have hc := c1.1
      have hcn := i1.cnt
      refine zW_of zg_57_10 ?_
      simp (disch := first | assumption | omega) only [zn0, zn1, Option.bind_some, zm_ai, zm_al, zm_av, zm_opt, zm_fw, zE_l, zE_r, nI_add, pk_mul, pk_sub, pk_div, pk_rem, zrem, zpm1, zB_i0, zB_i1, zB_ok, zB_T, zB_F, nI_toInt, zT_sub, zT_neg, zT_le, zT_lt, nI_eq, zne1, zne2, zne9, ite_not, or_true, true_or, if_true, if_false, if_pos, if_neg, zw_R, zw_RL, zw_I, zF_R, zw_same, zw_cell, zw_ne, zF_at, zF_ne, zi_0, zi_1, zi_10, zi_17, zi_19, zi_20, zi_30, zi_48, zi_50, zi_52, zi_57, zi_59, zi_80, zi_93, zi_106, zi_110, zi_114, zx_0_0, zx_0_1, zx_0_2, zx_0_3, zx_0_4, zx_0_5, zx_0_6, zx_0_7, zx_0_8, zx_0_9, zx_0_10, zx_1_0, zx_1_1, zx_2_0, zx_2_1, zx_2_2, zx_2_3, zx_2_4, zx_2_5, zx_10_0, zx_10_1, zx_11_0, zx_11_1, zx_11_2, zx_11_3, zx_17_0, zx_19_0, zx_19_1, zx_19_2, zx_20_0, zx_20_1, zx_20_3, zx_20_4, zx_20_5, zx_20_6, zx_20_7, zx_20_8, zx_20_9, zx_30_0, zx_30_1, zx_30_4, zx_30_5, zx_48_0, zx_50_0, zx_52_0, zx_52_1, zx_52_2, zx_56_0, zx_56_1, zx_56_2, zx_57_0, zx_59_0, zx_80_3, zx_80_4, zx_80_5, zx_81_0, zx_81_1, zx_81_2, zx_81_3, zx_81_4, zx_81_5, zx_88_0, zx_88_1, zx_88_2, zx_93_3, zx_93_4, zx_93_5, zx_94_0, zx_94_1, zx_94_2, zx_94_3, zx_94_4, zx_94_5, zx_101_0, zx_101_1, zx_101_2, zx_106_0, zx_106_1, zx_106_2, zx_110_0, zx_110_1, zx_110_2, zx_114_0, zx_114_1, zx_114_2, zgI_9, zsI_9, zgI_16, zsI_16, zgI_18, zsI_18, zgI_21, zsI_21, zgI_22, zsI_22, zgI_23, zsI_23, zgI_24, zsI_24, zgI_25, zsI_25, zgI_26, zsI_26, zgI_27, zsI_27, zgI_28, zsI_28, zgI_29, zsI_29, zgI_47, zsI_47, zgI_49, zsI_49, zgI_51, zsI_51, zgI_53, zsI_53, zgI_54, zsI_54, zgI_55, zsI_55, zgI_58, zsI_58, zgI_76, zsI_76, zgI_79, zsI_79, zb_57_10, hc]
      exact ⟨σ1, rfl, by rw [← e1]; exact c1, hK⟩
  exact key 5 σ ⟨t, h, hT, zKeep.rf _ _, rfl, Nat.le_refl _⟩
/-- the reference -/
theorem m_reaches (hF : zFix σ) (h : zMT σ t) {q k : Nat} (hq : q < 5) (hk : k < 5) (hc : t.1 < 5) (hqk : k ≠ q) (v : Int32) :
    ∃ σ', zM 207 [.ref 118, .int (nI q), .int (nI k), .int v] zL σ = some (none, zL, σ') ∧ zMT σ' (zreach t q k v) ∧ zKeep zFMT σ σ' := by
  obtain ⟨h1, h2, h3⟩ := h
  have hfar := (h3 k hk).2.2.1
  refine zS_ex (zS_of ze_207 ?_)
  simp (disch := first | assumption | omega) only [zn0, zn1, Option.bind_some, zm_ai, zm_al, zm_av, zm_opt, zm_fw, zE_l, zE_r, nI_add, pk_mul, pk_sub, pk_div, pk_rem, zrem, zpm1, zB_i0, zB_i1, zB_ok, zB_T, zB_F, nI_toInt, zT_sub, zT_neg, zT_le, zT_lt, nI_eq, zne1, zne2, zne9, ite_not, or_true, true_or, if_true, if_false, if_pos, if_neg, zw_R, zw_RL, zw_I, zF_R, zw_same, zw_cell, zw_ne, zF_at, zF_ne, zi_118, zx_118_0, zx_118_1, zx_118_2, zx_118_3, zx_118_7, zx_118_8, zx_118_9, zx_118_10, zx_118_11, zx_118_12, zx_118_13, zx_118_14, zx_118_15, zx_118_17, zx_118_18, zx_118_19, zx_118_21, zx_118_22, zx_118_24, zx_118_25, zx_118_30, zx_118_35, zx_118_36, zx_118_37, zx_118_38, zx_118_39, zx_118_41, zx_118_42, zx_118_44, zx_118_45, zx_118_46, zgI_119, zsI_119, zgI_120, zsI_120, zgI_121, zsI_121, zgI_122, zsI_122, zgI_123, zsI_123, zgI_124, zsI_124, zgI_125, zsI_125, zgI_126, zsI_126, zgI_127, zsI_127, zgI_128, zsI_128, zgI_129, zsI_129, zgI_130, zsI_130, zgI_131, zsI_131, zgI_132, zsI_132, zgI_133, zsI_133, zgI_134, zsI_134, zgI_135, zsI_135, zgI_136, zsI_136, zgI_137, zsI_137, zgI_139, zsI_139, zgI_140, zsI_140, zgI_141, zsI_141, zgI_142, zsI_142, zgI_143, zsI_143, zgI_144, zsI_144, zgI_145, zsI_145, zgI_146, zsI_146, zgI_147, zsI_147, zb_207_0, h1, hfar]
  refine ⟨_, rfl, ⟨?_, fun i hi => ?_, fun p hp => ?_⟩, ?_⟩
  · rw [zw_same]; rfl
  · have hi' : i < t.1 + 1 := hi
    rw [zw_cell _ _ (by decide)]
    show _ = nI (zup t.2.1 t.1 q i)
    by_cases e : i = t.1
    · subst e; rw [zw_same, zup_s]
    · rw [zw_ne _ _ (Or.inr e), zup_n _ _ e, zw_cell _ _ (by decide), zw_cell _ _ (by decide), zw_cell _ _ (by decide), zw_cell _ _ (by decide)]
      exact h2 i (by omega)
  · rw [zw_cell _ _ (show (127 : Nat) ≠ 118 by decide), zw_cell _ _ (show (127 : Nat) ≠ 131 by decide), zw_cell _ _ (show (127 : Nat) ≠ 130 by decide), zw_cell _ _ (show (127 : Nat) ≠ 129 by decide), zw_cell _ _ (show (127 : Nat) ≠ 128 by decide),
      zw_cell _ _ (show (128 : Nat) ≠ 118 by decide), zw_cell _ _ (show (128 : Nat) ≠ 131 by decide), zw_cell _ _ (show (128 : Nat) ≠ 130 by decide), zw_cell _ _ (show (128 : Nat) ≠ 129 by decide),
      zw_cell _ _ (show (129 : Nat) ≠ 118 by decide), zw_cell _ _ (show (129 : Nat) ≠ 131 by decide), zw_cell _ _ (show (129 : Nat) ≠ 130 by decide),
      zw_cell _ _ (show (130 : Nat) ≠ 118 by decide), zw_cell _ _ (show (130 : Nat) ≠ 131 by decide)]
    show _ = zup t.2.2.1 q (nI k) p ∧ _ = zup t.2.2.2.1 q v p ∧ _ = nI (zup t.2.2.2.2.1 q _ p) ∧ (zMet (zreach t q k v) p → _ = nI (zup t.2.2.2.2.2 q _ p))
    by_cases e : p = q
    · subst e
      rw [zup_s, zup_s, zup_s, zup_s, zw_same, zw_same, zw_same, zw_same]
      exact ⟨rfl, rfl, rfl, fun _ => rfl⟩
    · rw [zup_n _ _ e, zup_n _ _ e, zup_n _ _ e, zup_n _ _ e, zw_ne _ _ (Or.inr e)]
      repeat rw [zw_ne _ _ (Or.inr e)]
      obtain ⟨g1, g2, g3, g4⟩ := h3 p hp
      exact ⟨g1, g2, g3, fun hm => g4 ((zMet_reach.mp hm).resolve_right e)⟩
  · exact ((((((zKeep.rf zFMT σ).wI rfl).wI rfl).wI rfl).wI rfl).wI rfl).wI rfl
theorem m_isMet (hF : zFix σ) (h : zMT σ t) {p : Nat} (hp : p < 5) (hb : t.2.2.2.2.1 p < 100) : zM 206 [.ref 118, .int (nI p)] zL σ = some (some (.int (zB (zMet t p))), zL, σ) := by
  have hfar := (h.2.2 p hp).2.2.1
  refine zS_eq (zS_of ze_206 ?_)
  by_cases h0 : p = 0
  · simp (disch := first | assumption | omega) only [zn0, zn1, Option.bind_some, zm_ai, zm_al, zm_av, zm_opt, zm_fw, zE_l, zE_r, nI_add, pk_mul, pk_sub, pk_div, pk_rem, zrem, zpm1, zB_i0, zB_i1, zB_ok, zB_T, zB_F, nI_toInt, zT_sub, zT_neg, zT_le, zT_lt, nI_eq, zne1, zne2, zne9, ite_not, or_true, true_or, if_true, if_false, if_pos, if_neg, zw_R, zw_RL, zw_I, zF_R, zw_same, zw_cell, zw_ne, zF_at, zF_ne, zi_118, zx_118_0, zx_118_1, zx_118_2, zx_118_3, zx_118_7, zx_118_8, zx_118_9, zx_118_10, zx_118_11, zx_118_12, zx_118_13, zx_118_14, zx_118_15, zx_118_17, zx_118_18, zx_118_19, zx_118_21, zx_118_22, zx_118_24, zx_118_25, zx_118_30, zx_118_35, zx_118_36, zx_118_37, zx_118_38, zx_118_39, zx_118_41, zx_118_42, zx_118_44, zx_118_45, zx_118_46, zgI_119, zsI_119, zgI_120, zsI_120, zgI_121, zsI_121, zgI_122, zsI_122, zgI_123, zsI_123, zgI_124, zsI_124, zgI_125, zsI_125, zgI_126, zsI_126, zgI_127, zsI_127, zgI_128, zsI_128, zgI_129, zsI_129, zgI_130, zsI_130, zgI_131, zsI_131, zgI_132, zsI_132, zgI_133, zsI_133, zgI_134, zsI_134, zgI_135, zsI_135, zgI_136, zsI_136, zgI_137, zsI_137, zgI_139, zsI_139, zgI_140, zsI_140, zgI_141, zsI_141, zgI_142, zsI_142, zgI_143, zsI_143, zgI_144, zsI_144, zgI_145, zsI_145, zgI_146, zsI_146, zgI_147, zsI_147, zb_206_0]
    rw [zB_t (p := zMet t p) (Or.inl h0)]
  · by_cases h1 : t.2.2.2.2.1 p = 0
    · simp (disch := first | assumption | omega) only [zn0, zn1, Option.bind_some, zm_ai, zm_al, zm_av, zm_opt, zm_fw, zE_l, zE_r, nI_add, pk_mul, pk_sub, pk_div, pk_rem, zrem, zpm1, zB_i0, zB_i1, zB_ok, zB_T, zB_F, nI_toInt, zT_sub, zT_neg, zT_le, zT_lt, nI_eq, zne1, zne2, zne9, ite_not, or_true, true_or, if_true, if_false, if_pos, if_neg, zw_R, zw_RL, zw_I, zF_R, zw_same, zw_cell, zw_ne, zF_at, zF_ne, zi_118, zx_118_0, zx_118_1, zx_118_2, zx_118_3, zx_118_7, zx_118_8, zx_118_9, zx_118_10, zx_118_11, zx_118_12, zx_118_13, zx_118_14, zx_118_15, zx_118_17, zx_118_18, zx_118_19, zx_118_21, zx_118_22, zx_118_24, zx_118_25, zx_118_30, zx_118_35, zx_118_36, zx_118_37, zx_118_38, zx_118_39, zx_118_41, zx_118_42, zx_118_44, zx_118_45, zx_118_46, zgI_119, zsI_119, zgI_120, zsI_120, zgI_121, zsI_121, zgI_122, zsI_122, zgI_123, zsI_123, zgI_124, zsI_124, zgI_125, zsI_125, zgI_126, zsI_126, zgI_127, zsI_127, zgI_128, zsI_128, zgI_129, zsI_129, zgI_130, zsI_130, zgI_131, zsI_131, zgI_132, zsI_132, zgI_133, zsI_133, zgI_134, zsI_134, zgI_135, zsI_135, zgI_136, zsI_136, zgI_137, zsI_137, zgI_139, zsI_139, zgI_140, zsI_140, zgI_141, zsI_141, zgI_142, zsI_142, zgI_143, zsI_143, zgI_144, zsI_144, zgI_145, zsI_145, zgI_146, zsI_146, zgI_147, zsI_147, zb_206_0, hfar]
      rw [zB_f (p := zMet t p) (fun q => q.elim h0 (fun q => by omega))]
    · simp (disch := first | assumption | omega) only [zn0, zn1, Option.bind_some, zm_ai, zm_al, zm_av, zm_opt, zm_fw, zE_l, zE_r, nI_add, pk_mul, pk_sub, pk_div, pk_rem, zrem, zpm1, zB_i0, zB_i1, zB_ok, zB_T, zB_F, nI_toInt, zT_sub, zT_neg, zT_le, zT_lt, nI_eq, zne1, zne2, zne9, ite_not, or_true, true_or, if_true, if_false, if_pos, if_neg, zw_R, zw_RL, zw_I, zF_R, zw_same, zw_cell, zw_ne, zF_at, zF_ne, zi_118, zx_118_0, zx_118_1, zx_118_2, zx_118_3, zx_118_7, zx_118_8, zx_118_9, zx_118_10, zx_118_11, zx_118_12, zx_118_13, zx_118_14, zx_118_15, zx_118_17, zx_118_18, zx_118_19, zx_118_21, zx_118_22, zx_118_24, zx_118_25, zx_118_30, zx_118_35, zx_118_36, zx_118_37, zx_118_38, zx_118_39, zx_118_41, zx_118_42, zx_118_44, zx_118_45, zx_118_46, zgI_119, zsI_119, zgI_120, zsI_120, zgI_121, zsI_121, zgI_122, zsI_122, zgI_123, zsI_123, zgI_124, zsI_124, zgI_125, zsI_125, zgI_126, zsI_126, zgI_127, zsI_127, zgI_128, zsI_128, zgI_129, zsI_129, zgI_130, zsI_130, zgI_131, zsI_131, zgI_132, zsI_132, zgI_133, zsI_133, zgI_134, zsI_134, zgI_135, zsI_135, zgI_136, zsI_136, zgI_137, zsI_137, zgI_139, zsI_139, zgI_140, zsI_140, zgI_141, zsI_141, zgI_142, zsI_142, zgI_143, zsI_143, zgI_144, zsI_144, zgI_145, zsI_145, zgI_146, zsI_146, zgI_147, zsI_147, zb_206_0, hfar]
      rw [zB_t (p := zMet t p) (Or.inr (by omega))]
theorem zTi.farlt {G : zG} {t : zT} (hv : zGv G) (h : zTi G t) (p : Nat) : t.2.2.2.2.1 p < 100 := by
  by_cases hm : zMet t p
  · have := h.2.2.2.2 p hm
    have := (h.2.2.1 p hm).1
    have := h.cnt
    have := hv.1
    omega
  · have : ¬ 0 < t.2.2.2.2.1 p := fun c => hm (Or.inr c)
    omega
theorem zMG.keepT {σ' : zm_Sig} (h : zMG σ G) (hk : zKeep zFMT σ σ') : zMG σ' G := h.keep hk ⟨rfl, rfl, rfl⟩ fun k => ⟨rfl, rfl, rfl, rfl⟩
theorem m_goesBroad {lt : Nat} (hlt : lt = 0 ∨ lt = 1) (hF : zFix σ) (hG : zMG σ G) (hv : zGv G) (h : zMT σ t) (hT : zTi G t) :
    ∃ σ', zM 208 [.ref 118, .int (nI lt)] zL σ = some (none, zL, σ') ∧ zMT σ' (zbl G lt 5 0 t) ∧ zKeep zFMT σ σ' := by
  refine zS_ex (zS_of ze_208 ?_)
  have v1 := hv.1
  have v2 := hv.2.1
  simp (disch := first | assumption | omega) only [zn0, zn1, Option.bind_some, zm_ai, zm_al, zm_av, zm_opt, zm_fw, zE_l, zE_r, nI_add, pk_mul, pk_sub, pk_div, pk_rem, zrem, zpm1, zB_i0, zB_i1, zB_ok, zB_T, zB_F, nI_toInt, zT_sub, zT_neg, zT_le, zT_lt, nI_eq, zne1, zne2, zne9, ite_not, or_true, true_or, if_true, if_false, if_pos, if_neg, zw_R, zw_RL, zw_I, zF_R, zw_same, zw_cell, zw_ne, zF_at, zF_ne, zi_118, zx_118_0, zx_118_1, zx_118_2, zx_118_3, zx_118_7, zx_118_8, zx_118_9, zx_118_10, zx_118_11, zx_118_12, zx_118_13, zx_118_14, zx_118_15, zx_118_17, zx_118_18, zx_118_19, zx_118_21, zx_118_22, zx_118_24, zx_118_25, zx_118_30, zx_118_35, zx_118_36, zx_118_37, zx_118_38, zx_118_39, zx_118_41, zx_118_42, zx_118_44, zx_118_45, zx_118_46, zgI_119, zsI_119, zgI_120, zsI_120, zgI_121, zsI_121, zgI_122, zsI_122, zgI_123, zsI_123, zgI_124, zsI_124, zgI_125, zsI_125, zgI_126, zsI_126, zgI_127, zsI_127, zgI_128, zsI_128, zgI_129, zsI_129, zgI_130, zsI_130, zgI_131, zsI_131, zgI_132, zsI_132, zgI_133, zsI_133, zgI_134, zsI_134, zgI_135, zsI_135, zgI_136, zsI_136, zgI_137, zsI_137, zgI_139, zsI_139, zgI_140, zsI_140, zgI_141, zsI_141, zgI_142, zsI_142, zgI_143, zsI_143, zgI_144, zsI_144, zgI_145, zsI_145, zgI_146, zsI_146, zgI_147, zsI_147, zb_208_0]
  have key : ∀ d σ1, (∃ t1, zMT σ1 t1 ∧ zTi G t1 ∧ zKeep zFMT σ σ1 ∧ zbl G lt d (5 - d) t1 = zbl G lt 5 0 t ∧ d ≤ 5) → zW 208 (2, [(0, .ref 118), (1, .int (nI lt)), (2, .int (nI (5 - d)))], [], zL, σ1, 0, 0) (fun q => ∃ σ', q = (none, zL, σ') ∧ zMT σ' (zbl G lt 5 0 t) ∧ zKeep zFMT σ σ') := by
    refine zloopD (fun d σ1 => (2, [(0, .ref 118), (1, .int (nI lt)), (2, .int (nI (5 - d)))], [], zL, σ1, 0, 0)) _ (fun d σ1 hI ih => ?_) (fun σ1 hI => ?_)
    · obtain ⟨t1, c1, i1, hK, e1, hd⟩ := hI
      have hF1 := hK.fix hF rfl
      have hc := c1.1
      have hcn := i1.cnt
      refine zW_of zg_208_2 ?_
      by_cases q : 5 - (d + 1) < t1.1
      · have hrow := c1.2.1 (5 - (d + 1)) q
        have hmet := (i1.2.1 _ q).2.1
        have hklt := (i1.2.1 _ q).1
        simp (disch := first | assumption | omega) only [zn0, zn1, Option.bind_some, zm_ai, zm_al, zm_av, zm_opt, zm_fw, zE_l, zE_r, nI_add, pk_mul, pk_sub, pk_div, pk_rem, zrem, zpm1, zB_i0, zB_i1, zB_ok, zB_T, zB_F, nI_toInt, zT_sub, zT_neg, zT_le, zT_lt, nI_eq, zne1, zne2, zne9, ite_not, or_true, true_or, if_true, if_false, if_pos, if_neg, zw_R, zw_RL, zw_I, zF_R, zw_same, zw_cell, zw_ne, zF_at, zF_ne, zi_118, zx_118_0, zx_118_1, zx_118_2, zx_118_3, zx_118_7, zx_118_8, zx_118_9, zx_118_10, zx_118_11, zx_118_12, zx_118_13, zx_118_14, zx_118_15, zx_118_17, zx_118_18, zx_118_19, zx_118_21, zx_118_22, zx_118_24, zx_118_25, zx_118_30, zx_118_35, zx_118_36, zx_118_37, zx_118_38, zx_118_39, zx_118_41, zx_118_42, zx_118_44, zx_118_45, zx_118_46, zgI_119, zsI_119, zgI_120, zsI_120, zgI_121, zsI_121, zgI_122, zsI_122, zgI_123, zsI_123, zgI_124, zsI_124, zgI_125, zsI_125, zgI_126, zsI_126, zgI_127, zsI_127, zgI_128, zsI_128, zgI_129, zsI_129, zgI_130, zsI_130, zgI_131, zsI_131, zgI_132, zsI_132, zgI_133, zsI_133, zgI_134, zsI_134, zgI_135, zsI_135, zgI_136, zsI_136, zgI_137, zsI_137, zgI_139, zsI_139, zgI_140, zsI_140, zgI_141, zsI_141, zgI_142, zsI_142, zgI_143, zsI_143, zgI_144, zsI_144, zgI_145, zsI_145, zgI_146, zsI_146, zgI_147, zsI_147, zb_208_2, hc, hrow]
        have e2 : zbl G lt (d + 1) (5 - (d + 1)) t1 = zbl G lt d (5 - d) (zbi G lt (t1.2.1 (5 - (d + 1))) t1 (2 * G.2.1)) := by
          conv => lhs; unfold zbl
          rw [if_pos q, show 5 - (d + 1) + 1 = 5 - d by omega]
        generalize t1.2.1 (5 - (d + 1)) = k at *
        refine zloop (fun l σ2 => (20, [(0, .ref 118), (1, .int (nI lt)), (2, .int (nI (5 - (d + 1)))), (3, .int (nI k)), (4, .int (nI l))], [], zL, σ2, 0, 0)) (fun l σ2 => zMT σ2 (zbi G lt k t1 l) ∧ zKeep zFMT σ σ2) (2 * G.2.1) (fun l σ2 hl hI ih2 => ?_) (fun σ2 hI => ?_) 0 σ1 (by omega) ⟨c1, hK⟩
        · obtain ⟨c2, hK2⟩ := hI
          have hF2 := hK2.fix hF rfl
          have hG2 := hG.keepT hK2
          have hg2 := hG2.2.1
          obtain ⟨i2, ge2, -⟩ := zbi_ok (lt := lt) hv i1 hmet l (by omega)
          have hm2 := ge2.2.1 k hmet
          have hzl := zlv_ok (G := G) (lt := lt) hl
          have hmv := m_goesBy hF2 hG2 hv hklt hzl
          have hq := zmv_lt hv hklt hzl
          have eL : zbi G lt k t1 (l + 1) = zbs G lt k (zbi G lt k t1 l) l := rfl
          rw [eL] at ih2
          generalize zbi G lt k t1 l = t2 at *
          have him := m_isMet hF2 c2 (p := zmv G k (zlv G lt l)) (by omega) (i2.farlt hv _)
          have elet : zM 204 [.ref 118, .int (nI l), .int (nI lt)] zL σ2 = some (some (.int (zlv G lt l)), zL, σ2) := by
            unfold zlv
            rcases hlt with rfl | rfl
            · rw [if_pos rfl]; exact m_tried hF2 hG2 hv hl
            · rw [if_neg (by decide)]; exact m_triedL hF2 hG2 hv hl
          refine zW_of zg_208_20 ?_
          by_cases hm : zMet t2 (zmv G k (zlv G lt l))
          · rw [zbs_m hm] at ih2
            simp (disch := first | assumption | omega) only [zn0, zn1, Option.bind_some, zm_ai, zm_al, zm_av, zm_opt, zm_fw, zE_l, zE_r, nI_add, pk_mul, pk_sub, pk_div, pk_rem, zrem, zpm1, zB_i0, zB_i1, zB_ok, zB_T, zB_F, nI_toInt, zT_sub, zT_neg, zT_le, zT_lt, nI_eq, zne1, zne2, zne9, ite_not, or_true, true_or, if_true, if_false, if_pos, if_neg, zw_R, zw_RL, zw_I, zF_R, zw_same, zw_cell, zw_ne, zF_at, zF_ne, zi_118, zx_118_0, zx_118_1, zx_118_2, zx_118_3, zx_118_7, zx_118_8, zx_118_9, zx_118_10, zx_118_11, zx_118_12, zx_118_13, zx_118_14, zx_118_15, zx_118_17, zx_118_18, zx_118_19, zx_118_21, zx_118_22, zx_118_24, zx_118_25, zx_118_30, zx_118_35, zx_118_36, zx_118_37, zx_118_38, zx_118_39, zx_118_41, zx_118_42, zx_118_44, zx_118_45, zx_118_46, zgI_119, zsI_119, zgI_120, zsI_120, zgI_121, zsI_121, zgI_122, zsI_122, zgI_123, zsI_123, zgI_124, zsI_124, zgI_125, zsI_125, zgI_126, zsI_126, zgI_127, zsI_127, zgI_128, zsI_128, zgI_129, zsI_129, zgI_130, zsI_130, zgI_131, zsI_131, zgI_132, zsI_132, zgI_133, zsI_133, zgI_134, zsI_134, zgI_135, zsI_135, zgI_136, zsI_136, zgI_137, zsI_137, zgI_139, zsI_139, zgI_140, zsI_140, zgI_141, zsI_141, zgI_142, zsI_142, zgI_143, zsI_143, zgI_144, zsI_144, zgI_145, zsI_145, zgI_146, zsI_146, zgI_147, zsI_147, zb_208_20, hg2, elet, hmv, him]
            exact ih2 σ2 ⟨c2, hK2⟩
          · rw [zbs_n hm] at ih2
            have hnew := i2.new hq hm
            have hne : k ≠ zmv G k (zlv G lt l) := fun e => hm (e ▸ hm2)
            obtain ⟨σ3, e3, c3, hK3⟩ := m_reaches hF2 c2 (k := k) (show zmv G k (zlv G lt l) < 5 by omega) (by omega) (by omega) hne (zlv G lt l)
            simp (disch := first | assumption | omega) only [zn0, zn1, Option.bind_some, zm_ai, zm_al, zm_av, zm_opt, zm_fw, zE_l, zE_r, nI_add, pk_mul, pk_sub, pk_div, pk_rem, zrem, zpm1, zB_i0, zB_i1, zB_ok, zB_T, zB_F, nI_toInt, zT_sub, zT_neg, zT_le, zT_lt, nI_eq, zne1, zne2, zne9, ite_not, or_true, true_or, if_true, if_false, if_pos, if_neg, zw_R, zw_RL, zw_I, zF_R, zw_same, zw_cell, zw_ne, zF_at, zF_ne, zi_118, zx_118_0, zx_118_1, zx_118_2, zx_118_3, zx_118_7, zx_118_8, zx_118_9, zx_118_10, zx_118_11, zx_118_12, zx_118_13, zx_118_14, zx_118_15, zx_118_17, zx_118_18, zx_118_19, zx_118_21, zx_118_22, zx_118_24, zx_118_25, zx_118_30, zx_118_35, zx_118_36, zx_118_37, zx_118_38, zx_118_39, zx_118_41, zx_118_42, zx_118_44, zx_118_45, zx_118_46, zgI_119, zsI_119, zgI_120, zsI_120, zgI_121, zsI_121, zgI_122, zsI_122, zgI_123, zsI_123, zgI_124, zsI_124, zgI_125, zsI_125, zgI_126, zsI_126, zgI_127, zsI_127, zgI_128, zsI_128, zgI_129, zsI_129, zgI_130, zsI_130, zgI_131, zsI_131, zgI_132, zsI_132, zgI_133, zsI_133, zgI_134, zsI_134, zgI_135, zsI_135, zgI_136, zsI_136, zgI_137, zsI_137, zgI_139, zsI_139, zgI_140, zsI_140, zgI_141, zsI_141, zgI_142, zsI_142, zgI_143, zsI_143, zgI_144, zsI_144, zgI_145, zsI_145, zgI_146, zsI_146, zgI_147, zsI_147, zb_208_20, hg2, elet, hmv, him, e3]
            exact ih2 σ3 ⟨c3, hK2.tr hK3⟩
        · obtain ⟨c2, hK2⟩ := hI
          have hg2 := (hG.keepT hK2).2.1
          obtain ⟨i2, ge2, -⟩ := zbi_ok (lt := lt) hv i1 hmet (2 * G.2.1) (Nat.le_refl _)
          refine zW_of zg_208_20 ?_
          simp (disch := first | assumption | omega) only [zn0, zn1, Option.bind_some, zm_ai, zm_al, zm_av, zm_opt, zm_fw, zE_l, zE_r, nI_add, pk_mul, pk_sub, pk_div, pk_rem, zrem, zpm1, zB_i0, zB_i1, zB_ok, zB_T, zB_F, nI_toInt, zT_sub, zT_neg, zT_le, zT_lt, nI_eq, zne1, zne2, zne9, ite_not, or_true, true_or, if_true, if_false, if_pos, if_neg, zw_R, zw_RL, zw_I, zF_R, zw_same, zw_cell, zw_ne, zF_at, zF_ne, zi_118, zx_118_0, zx_118_1, zx_118_2, zx_118_3, zx_118_7, zx_118_8, zx_118_9, zx_118_10, zx_118_11, zx_118_12, zx_118_13, zx_118_14, zx_118_15, zx_118_17, zx_118_18, zx_118_19, zx_118_21, zx_118_22, zx_118_24, zx_118_25, zx_118_30, zx_118_35, zx_118_36, zx_118_37, zx_118_38, zx_118_39, zx_118_41, zx_118_42, zx_118_44, zx_118_45, zx_118_46, zgI_119, zsI_119, zgI_120, zsI_120, zgI_121, zsI_121, zgI_122, zsI_122, zgI_123, zsI_123, zgI_124, zsI_124, zgI_125, zsI_125, zgI_126, zsI_126, zgI_127, zsI_127, zgI_128, zsI_128, zgI_129, zsI_129, zgI_130, zsI_130, zgI_131, zsI_131, zgI_132, zsI_132, zgI_133, zsI_133, zgI_134, zsI_134, zgI_135, zsI_135, zgI_136, zsI_136, zgI_137, zsI_137, zgI_139, zsI_139, zgI_140, zsI_140, zgI_141, zsI_141, zgI_142, zsI_142, zgI_143, zsI_143, zgI_144, zsI_144, zgI_145, zsI_145, zgI_146, zsI_146, zgI_147, zsI_147, zb_208_20, hg2]
          rw [show 5 - (d + 1) + 1 = 5 - d by omega]
          exact ih σ2 ⟨_, c2, i2, hK2, by rw [← e2]; exact e1, by omega⟩
      · simp (disch := first | assumption | omega) only [zn0, zn1, Option.bind_some, zm_ai, zm_al, zm_av, zm_opt, zm_fw, zE_l, zE_r, nI_add, pk_mul, pk_sub, pk_div, pk_rem, zrem, zpm1, zB_i0, zB_i1, zB_ok, zB_T, zB_F, nI_toInt, zT_sub, zT_neg, zT_le, zT_lt, nI_eq, zne1, zne2, zne9, ite_not, or_true, true_or, if_true, if_false, if_pos, if_neg, zw_R, zw_RL, zw_I, zF_R, zw_same, zw_cell, zw_ne, zF_at, zF_ne, zi_118, zx_118_0, zx_118_1, zx_118_2, zx_118_3, zx_118_7, zx_118_8, zx_118_9, zx_118_10, zx_118_11, zx_118_12, zx_118_13, zx_118_14, zx_118_15, zx_118_17, zx_118_18, zx_118_19, zx_118_21, zx_118_22, zx_118_24, zx_118_25, zx_118_30, zx_118_35, zx_118_36, zx_118_37, zx_118_38, zx_118_39, zx_118_41, zx_118_42, zx_118_44, zx_118_45, zx_118_46, zgI_119, zsI_119, zgI_120, zsI_120, zgI_121, zsI_121, zgI_122, zsI_122, zgI_123, zsI_123, zgI_124, zsI_124, zgI_125, zsI_125, zgI_126, zsI_126, zgI_127, zsI_127, zgI_128, zsI_128, zgI_129, zsI_129, zgI_130, zsI_130, zgI_131, zsI_131, zgI_132, zsI_132, zgI_133, zsI_133, zgI_134, zsI_134, zgI_135, zsI_135, zgI_136, zsI_136, zgI_137, zsI_137, zgI_139, zsI_139, zgI_140, zsI_140, zgI_141, zsI_141, zgI_142, zsI_142, zgI_143, zsI_143, zgI_144, zsI_144, zgI_145, zsI_145, zgI_146, zsI_146, zgI_147, zsI_147, zb_208_2, hc]
        refine ⟨σ1, rfl, ?_, hK⟩
        have e2 : zbl G lt (d + 1) (5 - (d + 1)) t1 = t1 := by
          unfold zbl
          rw [if_neg q]
        rw [← e1, e2]
        exact c1
    · obtain ⟨t1, c1, i1, hK, e1, hd⟩ := hI
      have hc := c1.1
      have hcn := i1.cnt
      refine zW_of zg_208_2 ?_
      simp (disch := first | assumption | omega) only [zn0, zn1, Option.bind_some, zm_ai, zm_al, zm_av, zm_opt, zm_fw, zE_l, zE_r, nI_add, pk_mul, pk_sub, pk_div, pk_rem, zrem, zpm1, zB_i0, zB_i1, zB_ok, zB_T, zB_F, nI_toInt, zT_sub, zT_neg, zT_le, zT_lt, nI_eq, zne1, zne2, zne9, ite_not, or_true, true_or, if_true, if_false, if_pos, if_neg, zw_R, zw_RL, zw_I, zF_R, zw_same, zw_cell, zw_ne, zF_at, zF_ne, zi_118, zx_118_0, zx_118_1, zx_118_2, zx_118_3, zx_118_7, zx_118_8, zx_118_9, zx_118_10, zx_118_11, zx_118_12, zx_118_13, zx_118_14, zx_118_15, zx_118_17, zx_118_18, zx_118_19, zx_118_21, zx_118_22, zx_118_24, zx_118_25, zx_118_30, zx_118_35, zx_118_36, zx_118_37, zx_118_38, zx_118_39, zx_118_41, zx_118_42, zx_118_44, zx_118_45, zx_118_46, zgI_119, zsI_119, zgI_120, zsI_120, zgI_121, zsI_121, zgI_122, zsI_122, zgI_123, zsI_123, zgI_124, zsI_124, zgI_125, zsI_125, zgI_126, zsI_126, zgI_127, zsI_127, zgI_128, zsI_128, zgI_129, zsI_129, zgI_130, zsI_130, zgI_131, zsI_131, zgI_132, zsI_132, zgI_133, zsI_133, zgI_134, zsI_134, zgI_135, zsI_135, zgI_136, zsI_136, zgI_137, zsI_137, zgI_139, zsI_139, zgI_140, zsI_140, zgI_141, zsI_141, zgI_142, zsI_142, zgI_143, zsI_143, zgI_144, zsI_144, zgI_145, zsI_145, zgI_146, zsI_146, zgI_147, zsI_147, zb_208_2, hc]
      exact ⟨σ1, rfl, by rw [← e1]; exact c1, hK⟩
  exact key 5 σ ⟨t, h, hT, zKeep.rf _ _, rfl, Nat.le_refl _⟩
end ZGW
