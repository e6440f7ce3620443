/-! calls: spelt -/
theorem zsc_ex (G : zG) (t : zT) : ∀ (m b : Nat), 1 ≤ b → b ≤ zsc G t m → ∃ e, e < m ∧ ¬ zbe G t e ∧ zsg G t e = b
  | 0, b, h1, h2 => by
    have : zsc G t 0 = 0 := rfl
    omega
  | m + 1, b, h1, h2 => by
    by_cases hb : zbe G t m
    · rw [zsc_b hb] at h2
      obtain ⟨e, a1, a2, a3⟩ := zsc_ex G t m b h1 h2
      exact ⟨e, by omega, a2, a3⟩
    · by_cases q : b ≤ zsc G t m
      · obtain ⟨e, a1, a2, a3⟩ := zsc_ex G t m b h1 q
        exact ⟨e, by omega, a2, a3⟩
      · rw [zsc_n hb] at h2
        exact ⟨m, by omega, hb, by rw [zsg_n hb]; omega⟩
noncomputable def zeo (G : zG) (t : zT) (b : Nat) : Nat := @dite _ (∃ e, e < G.1 * G.2.1 ∧ ¬ zbe G t e ∧ zsg G t e = b) (Classical.propDecidable _) (fun h => h.choose) (fun _ => 0)
theorem zeo_ok {G : zG} {t : zT} {b : Nat} (h1 : 1 ≤ b) (h2 : b ≤ zsn G t) : zeo G t b < G.1 * G.2.1 ∧ ¬ zbe G t (zeo G t b) ∧ zsg G t (zeo G t b) = b := by
  have h : ∃ e, e < G.1 * G.2.1 ∧ ¬ zbe G t e ∧ zsg G t e = b := zsc_ex G t _ b h1 h2
  unfold zeo
  rw [dif_pos h]
  exact h.choose_spec
noncomputable def zspl (G : zG) (t : zT) (s : Int32) : List Int32 := if 0 < s.toInt then zway t (zeo G t s.toNatClampNeg / G.2.1) ++ ([nI (zeo G t s.toNatClampNeg % G.2.1 + 1)] ++ zinv (zway t (zto G (zeo G t s.toNatClampNeg)))) else zway t (zto G (zeo G t (-s).toNatClampNeg)) ++ ([-nI (zeo G t (-s).toNatClampNeg % G.2.1 + 1)] ++ zinv (zway t (zeo G t (-s).toNatClampNeg / G.2.1)))
theorem zspl_p (G : zG) (t : zT) {b : Nat} (h1 : 1 ≤ b) (h2 : b ≤ 15) : zspl G t (nI b) = zway t (zeo G t b / G.2.1) ++ ([nI (zeo G t b % G.2.1 + 1)] ++ zinv (zway t (zto G (zeo G t b)))) := by
  have e : (nI b).toNatClampNeg = b := nI_clamp (by omega)
  unfold zspl
  rw [if_pos (by rw [nI_toInt (by omega)]; omega), e]
theorem zspl_n (G : zG) (t : zT) {b : Nat} (h1 : 1 ≤ b) (h2 : b ≤ 15) : zspl G t (-nI b) = zway t (zto G (zeo G t b)) ++ ([-nI (zeo G t b % G.2.1 + 1)] ++ zinv (zway t (zeo G t b / G.2.1))) := by
  have e : (nI b).toNatClampNeg = b := nI_clamp (by omega)
  unfold zspl
  rw [if_neg (by rw [zT_neg (by omega)]; omega), Int32.neg_neg, e]
noncomputable def zspls (G : zG) (t : zT) (l : List Int32) : List Int32 := l.foldl (fun w s => (zspl G t s).foldl zpush w) []
theorem zspls_take {G : zG} {t : zT} {l : List Int32} {k : Nat} (h : k < l.length) : zspls G t (l.take (k + 1)) = (zspl G t (zat l k)).foldl zpush (zspls G t (l.take k)) := zfold_take _ _ h
theorem zf3 {x : Int32} {u v w : List Int32} : (u ++ ([x] ++ v)).foldl zpush w = v.foldl zpush (zpush (u.foldl zpush w) x) := by
  rw [List.foldl_append, List.foldl_append]
  rfl
section ZSP
variable {σ σ' : zm_Sig} {a : Nat} {G : zG} {ds : List zDd} {ks : zKs} {R T : zRo} {K : zK} {t : zT}
theorem zto_lt (hv : zGv G) {e : Nat} (he : e < G.1 * G.2.1) : zto G e < G.1 := by
  obtain ⟨a1, a2, a3⟩ := zedge he
  exact (hv.2.2.2.1 _ _ a3 a2).1
theorem zspl_len (hv : zGv G) (hT : zTi G t) (hal : ∀ p, p < G.1 → zMet t p) {s : Int32} (hs : zLt (zsn G t) s) : (zspl G t s).length ≤ 9 := by
  have h15 := zsn_le hv t
  obtain ⟨x, hx, rfl | rfl⟩ := hs
  · obtain ⟨e1, e2, e3⟩ := zeo_ok (G := G) (t := t) (b := x + 1) (by omega) (by omega)
    rw [zspl_p G t (by omega) (by omega)]
    simp only [List.length_append, List.length_singleton, zinv_len, zway_len]
    have := hT.far4 hv (hal _ (zedge e1).2.1)
    have := hT.far4 hv (hal _ (zto_lt hv e1))
    omega
  · obtain ⟨e1, e2, e3⟩ := zeo_ok (G := G) (t := t) (b := x + 1) (by omega) (by omega)
    rw [zspl_n G t (by omega) (by omega)]
    simp only [List.length_append, List.length_singleton, zinv_len, zway_len]
    have := hT.far4 hv (hal _ (zedge e1).2.1)
    have := hT.far4 hv (hal _ (zto_lt hv e1))
    omega
theorem c_isSigned (hv : zGv G) (h : zCN σ G t) (x : Int32) : zM 89 [.ref 20, .int x] zL σ = some (some (.int (zB (zLt (zsn G t) x))), zL, σ) := by
  have h1 := h.1
  have h15 := zsn_le hv t
  have hi := zisL_iff h15 x
  unfold zisL at hi
  refine zS_eq (zS_of ze_89 ?_)
  by_cases q : zLt (zsn G t) x
  · rw [zB_t q]
    obtain ⟨q1, q2, q3⟩ := hi.mpr q
    simp (disch := first | assumption | omega) only [zn0, zn1, Option.bind_some, zm_ai, zm_al, zm_av, zm_opt, zm_fw, zE_l, zE_r, nI_add, pk_mul, pk_sub, pk_div, pk_rem, zrem, zpm1, zB_i0, zB_i1, zB_ok, zB_T, zB_F, nI_toInt, zT_sub, zT_neg, zT_le, zT_lt, nI_eq, zne1, zne2, zne9, ite_not, or_true, true_or, if_true, if_false, if_pos, if_neg, zw_R, zw_RL, zw_I, zF_R, zw_same, zw_cell, zw_ne, zF_at, zF_ne, zi_0, zi_1, zi_10, zi_17, zi_19, zi_20, zi_30, zi_48, zi_50, zi_52, zi_57, zi_59, zi_80, zi_93, zi_106, zi_110, zi_114, zx_0_0, zx_0_1, zx_0_2, zx_0_3, zx_0_4, zx_0_5, zx_0_6, zx_0_7, zx_0_8, zx_0_9, zx_0_10, zx_1_0, zx_1_1, zx_2_0, zx_2_1, zx_2_2, zx_2_3, zx_2_4, zx_2_5, zx_10_0, zx_10_1, zx_11_0, zx_11_1, zx_11_2, zx_11_3, zx_17_0, zx_19_0, zx_19_1, zx_19_2, zx_20_0, zx_20_1, zx_20_3, zx_20_4, zx_20_5, zx_20_6, zx_20_7, zx_20_8, zx_20_9, zx_30_0, zx_30_1, zx_30_4, zx_30_5, zx_48_0, zx_50_0, zx_52_0, zx_52_1, zx_52_2, zx_56_0, zx_56_1, zx_56_2, zx_57_0, zx_59_0, zx_80_3, zx_80_4, zx_80_5, zx_81_0, zx_81_1, zx_81_2, zx_81_3, zx_81_4, zx_81_5, zx_88_0, zx_88_1, zx_88_2, zx_93_3, zx_93_4, zx_93_5, zx_94_0, zx_94_1, zx_94_2, zx_94_3, zx_94_4, zx_94_5, zx_101_0, zx_101_1, zx_101_2, zx_106_0, zx_106_1, zx_106_2, zx_110_0, zx_110_1, zx_110_2, zx_114_0, zx_114_1, zx_114_2, zgI_9, zsI_9, zgI_16, zsI_16, zgI_18, zsI_18, zgI_21, zsI_21, zgI_22, zsI_22, zgI_23, zsI_23, zgI_24, zsI_24, zgI_25, zsI_25, zgI_26, zsI_26, zgI_27, zsI_27, zgI_28, zsI_28, zgI_29, zsI_29, zgI_47, zsI_47, zgI_49, zsI_49, zgI_51, zsI_51, zgI_53, zsI_53, zgI_54, zsI_54, zgI_55, zsI_55, zgI_58, zsI_58, zgI_76, zsI_76, zgI_79, zsI_79, zb_89_0, h1]
  · rw [zB_f q]
    by_cases q1 : x = nI 0
    · simp (disch := first | assumption | omega) only [zn0, zn1, Option.bind_some, zm_ai, zm_al, zm_av, zm_opt, zm_fw, zE_l, zE_r, nI_add, pk_mul, pk_sub, pk_div, pk_rem, zrem, zpm1, zB_i0, zB_i1, zB_ok, zB_T, zB_F, nI_toInt, zT_sub, zT_neg, zT_le, zT_lt, nI_eq, zne1, zne2, zne9, ite_not, or_true, true_or, if_true, if_false, if_pos, if_neg, zw_R, zw_RL, zw_I, zF_R, zw_same, zw_cell, zw_ne, zF_at, zF_ne, zi_0, zi_1, zi_10, zi_17, zi_19, zi_20, zi_30, zi_48, zi_50, zi_52, zi_57, zi_59, zi_80, zi_93, zi_106, zi_110, zi_114, zx_0_0, zx_0_1, zx_0_2, zx_0_3, zx_0_4, zx_0_5, zx_0_6, zx_0_7, zx_0_8, zx_0_9, zx_0_10, zx_1_0, zx_1_1, zx_2_0, zx_2_1, zx_2_2, zx_2_3, zx_2_4, zx_2_5, zx_10_0, zx_10_1, zx_11_0, zx_11_1, zx_11_2, zx_11_3, zx_17_0, zx_19_0, zx_19_1, zx_19_2, zx_20_0, zx_20_1, zx_20_3, zx_20_4, zx_20_5, zx_20_6, zx_20_7, zx_20_8, zx_20_9, zx_30_0, zx_30_1, zx_30_4, zx_30_5, zx_48_0, zx_50_0, zx_52_0, zx_52_1, zx_52_2, zx_56_0, zx_56_1, zx_56_2, zx_57_0, zx_59_0, zx_80_3, zx_80_4, zx_80_5, zx_81_0, zx_81_1, zx_81_2, zx_81_3, zx_81_4, zx_81_5, zx_88_0, zx_88_1, zx_88_2, zx_93_3, zx_93_4, zx_93_5, zx_94_0, zx_94_1, zx_94_2, zx_94_3, zx_94_4, zx_94_5, zx_101_0, zx_101_1, zx_101_2, zx_106_0, zx_106_1, zx_106_2, zx_110_0, zx_110_1, zx_110_2, zx_114_0, zx_114_1, zx_114_2, zgI_9, zsI_9, zgI_16, zsI_16, zgI_18, zsI_18, zgI_21, zsI_21, zgI_22, zsI_22, zgI_23, zsI_23, zgI_24, zsI_24, zgI_25, zsI_25, zgI_26, zsI_26, zgI_27, zsI_27, zgI_28, zsI_28, zgI_29, zsI_29, zgI_47, zsI_47, zgI_49, zsI_49, zgI_51, zsI_51, zgI_53, zsI_53, zgI_54, zsI_54, zgI_55, zsI_55, zgI_58, zsI_58, zgI_76, zsI_76, zgI_79, zsI_79, zb_89_0, h1, q1]
    · by_cases q2 : x.toInt < -(zsn G t : Int)
      · simp (disch := first | assumption | omega) only [zn0, zn1, Option.bind_some, zm_ai, zm_al, zm_av, zm_opt, zm_fw, zE_l, zE_r, nI_add, pk_mul, pk_sub, pk_div, pk_rem, zrem, zpm1, zB_i0, zB_i1, zB_ok, zB_T, zB_F, nI_toInt, zT_sub, zT_neg, zT_le, zT_lt, nI_eq, zne1, zne2, zne9, ite_not, or_true, true_or, if_true, if_false, if_pos, if_neg, zw_R, zw_RL, zw_I, zF_R, zw_same, zw_cell, zw_ne, zF_at, zF_ne, zi_0, zi_1, zi_10, zi_17, zi_19, zi_20, zi_30, zi_48, zi_50, zi_52, zi_57, zi_59, zi_80, zi_93, zi_106, zi_110, zi_114, zx_0_0, zx_0_1, zx_0_2, zx_0_3, zx_0_4, zx_0_5, zx_0_6, zx_0_7, zx_0_8, zx_0_9, zx_0_10, zx_1_0, zx_1_1, zx_2_0, zx_2_1, zx_2_2, zx_2_3, zx_2_4, zx_2_5, zx_10_0, zx_10_1, zx_11_0, zx_11_1, zx_11_2, zx_11_3, zx_17_0, zx_19_0, zx_19_1, zx_19_2, zx_20_0, zx_20_1, zx_20_3, zx_20_4, zx_20_5, zx_20_6, zx_20_7, zx_20_8, zx_20_9, zx_30_0, zx_30_1, zx_30_4, zx_30_5, zx_48_0, zx_50_0, zx_52_0, zx_52_1, zx_52_2, zx_56_0, zx_56_1, zx_56_2, zx_57_0, zx_59_0, zx_80_3, zx_80_4, zx_80_5, zx_81_0, zx_81_1, zx_81_2, zx_81_3, zx_81_4, zx_81_5, zx_88_0, zx_88_1, zx_88_2, zx_93_3, zx_93_4, zx_93_5, zx_94_0, zx_94_1, zx_94_2, zx_94_3, zx_94_4, zx_94_5, zx_101_0, zx_101_1, zx_101_2, zx_106_0, zx_106_1, zx_106_2, zx_110_0, zx_110_1, zx_110_2, zx_114_0, zx_114_1, zx_114_2, zgI_9, zsI_9, zgI_16, zsI_16, zgI_18, zsI_18, zgI_21, zsI_21, zgI_22, zsI_22, zgI_23, zsI_23, zgI_24, zsI_24, zgI_25, zsI_25, zgI_26, zsI_26, zgI_27, zsI_27, zgI_28, zsI_28, zgI_29, zsI_29, zgI_47, zsI_47, zgI_49, zsI_49, zgI_51, zsI_51, zgI_53, zsI_53, zgI_54, zsI_54, zgI_55, zsI_55, zgI_58, zsI_58, zgI_76, zsI_76, zgI_79, zsI_79, zb_89_0, h1]
      · have q3 : (zsn G t : Int) < x.toInt := by
          rcases Int.lt_or_le (zsn G t : Int) x.toInt with z | z
          · exact z
          · exact absurd (hi.mp ⟨q1, by omega, z⟩) q
        simp (disch := first | assumption | omega) only [zn0, zn1, Option.bind_some, zm_ai, zm_al, zm_av, zm_opt, zm_fw, zE_l, zE_r, nI_add, pk_mul, pk_sub, pk_div, pk_rem, zrem, zpm1, zB_i0, zB_i1, zB_ok, zB_T, zB_F, nI_toInt, zT_sub, zT_neg, zT_le, zT_lt, nI_eq, zne1, zne2, zne9, ite_not, or_true, true_or, if_true, if_false, if_pos, if_neg, zw_R, zw_RL, zw_I, zF_R, zw_same, zw_cell, zw_ne, zF_at, zF_ne, zi_0, zi_1, zi_10, zi_17, zi_19, zi_20, zi_30, zi_48, zi_50, zi_52, zi_57, zi_59, zi_80, zi_93, zi_106, zi_110, zi_114, zx_0_0, zx_0_1, zx_0_2, zx_0_3, zx_0_4, zx_0_5, zx_0_6, zx_0_7, zx_0_8, zx_0_9, zx_0_10, zx_1_0, zx_1_1, zx_2_0, zx_2_1, zx_2_2, zx_2_3, zx_2_4, zx_2_5, zx_10_0, zx_10_1, zx_11_0, zx_11_1, zx_11_2, zx_11_3, zx_17_0, zx_19_0, zx_19_1, zx_19_2, zx_20_0, zx_20_1, zx_20_3, zx_20_4, zx_20_5, zx_20_6, zx_20_7, zx_20_8, zx_20_9, zx_30_0, zx_30_1, zx_30_4, zx_30_5, zx_48_0, zx_50_0, zx_52_0, zx_52_1, zx_52_2, zx_56_0, zx_56_1, zx_56_2, zx_57_0, zx_59_0, zx_80_3, zx_80_4, zx_80_5, zx_81_0, zx_81_1, zx_81_2, zx_81_3, zx_81_4, zx_81_5, zx_88_0, zx_88_1, zx_88_2, zx_93_3, zx_93_4, zx_93_5, zx_94_0, zx_94_1, zx_94_2, zx_94_3, zx_94_4, zx_94_5, zx_101_0, zx_101_1, zx_101_2, zx_106_0, zx_106_1, zx_106_2, zx_110_0, zx_110_1, zx_110_2, zx_114_0, zx_114_1, zx_114_2, zgI_9, zsI_9, zgI_16, zsI_16, zgI_18, zsI_18, zgI_21, zsI_21, zgI_22, zsI_22, zgI_23, zsI_23, zgI_24, zsI_24, zgI_25, zsI_25, zgI_26, zsI_26, zgI_27, zsI_27, zgI_28, zsI_28, zgI_29, zsI_29, zgI_47, zsI_47, zgI_49, zsI_49, zgI_51, zsI_51, zgI_53, zsI_53, zgI_54, zsI_54, zgI_55, zsI_55, zgI_58, zsI_58, zgI_76, zsI_76, zgI_79, zsI_79, zb_89_0, h1]
theorem zabs_p {b : Nat} (h : b < 1000) : zabs (nI b) = nI b := by
  unfold zabs
  rw [if_pos (by rw [nI_toInt (by omega)]; omega)]
theorem zabs_n {b : Nat} (h1 : 1 ≤ b) (h : b < 1000) : zabs (-nI b) = nI b := by
  unfold zabs
  rw [if_neg (by rw [zT_neg (by omega)]; omega), Int32.neg_neg]
theorem zFWy_G (ha : zGo a) (hv : zGv G) (h : zCG σ a G) (hK : zKeep (zFWy 57) σ σ') : zCG σ' a G := by
  have hge := ha.ge
  exact h.keep hv hK (fun k _ => zFWy_f zw57 (by omega)) (fun b k _ _ => zFWy_f zw57 (by omega))
theorem c_addSpelling {w : List Int32} (hF : zFix σ) (ha : zGo a) (hG : zCG σ a G) (hv : zGv G) (hN : zCN σ G t) (h : zCT σ t) (hT : zTi G t) (hal : ∀ p, p < G.1 → zMet t p) {s : Int32} (hs : zLt (zsn G t) s) (hw : zCW σ 57 w) (hl : w.length < 380) :
    ∃ σ', zM 90 [.ref 20, .ref a, .int s, .ref 57] zL σ = some (none, zL, σ') ∧ zCW σ' 57 ((zspl G t s).foldl zpush w) ∧ zKeep (zFWy 57) σ σ' := by
  have h15 := zsn_le hv t
  have h3 := hv.2.1
  have e0 := c_isSigned hv hN s
  rw [zB_t hs] at e0
  have e1 := c_abs σ s
  have hai := zGo_i ha
  have hwi : zm_is zL 57 8 = some () := rfl
  obtain ⟨x, hx, rfl | rfl⟩ := hs
  · obtain ⟨o1, o2, o3⟩ := zeo_ok (G := G) (t := t) (b := x + 1) (by omega) (by omega)
    have hE15 : zeo G t (x + 1) < 15 := by have := zng hv; omega
    have m1 := hal _ (zedge o1).2.1
    have m2 := hal _ (zto_lt hv o1)
    have f1 := hT.far4 hv m1
    have f2 := hT.far4 hv m2
    have n3 := (hN.2 _ o1).2.2 o2
    rw [o3] at n3
    rw [zspl_p G t (by omega) (by omega), zf3]
    rw [zabs_p (by omega)] at e1
    have a0 := c_generatorOf ha hG hv o1
    have a1 := c_startOf ha hG hv o1
    obtain ⟨σ1, e2, w1, hK1⟩ := c_addWay hF h hv hT m1 zw57 hw (by omega)
    have hF1 := hK1.fix hF (zFWy_fix zw57)
    have l1 := zfold_len (zway t (zeo G t (x + 1) / G.2.1)) w
    rw [zway_len] at l1
    have hlt : zLt G.2.1 (nI (zeo G t (x + 1) % G.2.1 + 1)) := ⟨_, (zedge o1).2.2, Or.inl rfl⟩
    obtain ⟨σ2, e3, w2, hK2⟩ := c_push hF1 zw57 w1 (by omega) (hlt.ne0 (by omega))
    have hK12 := hK1.tr (zFW_y hK2)
    have hF2 := hK12.fix hF (zFWy_fix zw57)
    have hG2 := zFWy_G ha hv hG hK12
    have a2 := c_endOf hF2 ha hG2 hv o1
    have l2 := zpush_len ((zway t (zeo G t (x + 1) / G.2.1)).foldl zpush w) (nI (zeo G t (x + 1) % G.2.1 + 1))
    obtain ⟨σ3, e4, w3, hK3⟩ := c_addWayBack hF2 (h.y zw57 hK12) hv hT m2 zw57 w2 (by omega)
    refine ⟨σ3, zS_eq (zS_of ze_90 ?_), w3, hK12.tr hK3⟩
    unfold zto at *
    simp (disch := first | assumption | omega) only [zn0, zn1, Option.bind_some, zm_ai, zm_al, zm_av, zm_opt, zm_fw, zE_l, zE_r, nI_add, pk_mul, pk_sub, pk_div, pk_rem, zrem, zpm1, zB_i0, zB_i1, zB_ok, zB_T, zB_F, nI_toInt, zT_sub, zT_neg, zT_le, zT_lt, nI_eq, zne1, zne2, zne9, ite_not, or_true, true_or, if_true, if_false, if_pos, if_neg, zw_R, zw_RL, zw_I, zF_R, zw_same, zw_cell, zw_ne, zF_at, zF_ne, zi_0, zi_1, zi_10, zi_17, zi_19, zi_20, zi_30, zi_48, zi_50, zi_52, zi_57, zi_59, zi_80, zi_93, zi_106, zi_110, zi_114, zx_0_0, zx_0_1, zx_0_2, zx_0_3, zx_0_4, zx_0_5, zx_0_6, zx_0_7, zx_0_8, zx_0_9, zx_0_10, zx_1_0, zx_1_1, zx_2_0, zx_2_1, zx_2_2, zx_2_3, zx_2_4, zx_2_5, zx_10_0, zx_10_1, zx_11_0, zx_11_1, zx_11_2, zx_11_3, zx_17_0, zx_19_0, zx_19_1, zx_19_2, zx_20_0, zx_20_1, zx_20_3, zx_20_4, zx_20_5, zx_20_6, zx_20_7, zx_20_8, zx_20_9, zx_30_0, zx_30_1, zx_30_4, zx_30_5, zx_48_0, zx_50_0, zx_52_0, zx_52_1, zx_52_2, zx_56_0, zx_56_1, zx_56_2, zx_57_0, zx_59_0, zx_80_3, zx_80_4, zx_80_5, zx_81_0, zx_81_1, zx_81_2, zx_81_3, zx_81_4, zx_81_5, zx_88_0, zx_88_1, zx_88_2, zx_93_3, zx_93_4, zx_93_5, zx_94_0, zx_94_1, zx_94_2, zx_94_3, zx_94_4, zx_94_5, zx_101_0, zx_101_1, zx_101_2, zx_106_0, zx_106_1, zx_106_2, zx_110_0, zx_110_1, zx_110_2, zx_114_0, zx_114_1, zx_114_2, zgI_9, zsI_9, zgI_16, zsI_16, zgI_18, zsI_18, zgI_21, zsI_21, zgI_22, zsI_22, zgI_23, zsI_23, zgI_24, zsI_24, zgI_25, zsI_25, zgI_26, zsI_26, zgI_27, zsI_27, zgI_28, zsI_28, zgI_29, zsI_29, zgI_47, zsI_47, zgI_49, zsI_49, zgI_51, zsI_51, zgI_53, zsI_53, zgI_54, zsI_54, zgI_55, zsI_55, zgI_58, zsI_58, zgI_76, zsI_76, zgI_79, zsI_79, zq_90_0_1, zq_90_0_2, zq_90_0_3, zq_90_0_4, zq_90_0_5, zq_90_0_6, zq_90_0_7, zq_90_0_8, zq_90_0_9, zq_90_0_10, zq_90_0_11, zq_90_0_12, zq_90_0_13, zq_90_0_14, zq_90_0_15, zq_90_0_16, zq_90_0_17, zq_90_0_18, zq_90_0_19, zq_90_0_20, zq_90_0_21, zq_90_0_22, zq_90_0_23, zq_90_0_24, zq_90_0_25, zq_90_0_26, zq_90_0_27, zh_90_0, e0, not_false, e1, n3, hai, a0, a1, e2, hwi, e3, a2, e4]
  · obtain ⟨o1, o2, o3⟩ := zeo_ok (G := G) (t := t) (b := x + 1) (by omega) (by omega)
    have hE15 : zeo G t (x + 1) < 15 := by have := zng hv; omega
    have m1 := hal _ (zto_lt hv o1)
    have m2 := hal _ (zedge o1).2.1
    have f1 := hT.far4 hv m1
    have f2 := hT.far4 hv m2
    have n3 := (hN.2 _ o1).2.2 o2
    rw [o3] at n3
    rw [zspl_n G t (by omega) (by omega), zf3]
    rw [zabs_n (by omega) (by omega)] at e1
    have a0 := c_generatorOf ha hG hv o1
    have a1 := c_endOf hF ha hG hv o1
    obtain ⟨σ1, e2, w1, hK1⟩ := c_addWay hF h hv hT m1 zw57 hw (by omega)
    have hF1 := hK1.fix hF (zFWy_fix zw57)
    have l1 := zfold_len (zway t (zto G (zeo G t (x + 1)))) w
    rw [zway_len] at l1
    have hlt : zLt G.2.1 (-nI (zeo G t (x + 1) % G.2.1 + 1)) := ⟨_, (zedge o1).2.2, Or.inr rfl⟩
    obtain ⟨σ2, e3, w2, hK2⟩ := c_push hF1 zw57 w1 (by omega) (hlt.ne0 (by omega))
    have hK12 := hK1.tr (zFW_y hK2)
    have hF2 := hK12.fix hF (zFWy_fix zw57)
    have hG2 := zFWy_G ha hv hG hK12
    have a2 := c_startOf ha hG2 hv o1
    have l2 := zpush_len ((zway t (zto G (zeo G t (x + 1)))).foldl zpush w) (-nI (zeo G t (x + 1) % G.2.1 + 1))
    obtain ⟨σ3, e4, w3, hK3⟩ := c_addWayBack hF2 (h.y zw57 hK12) hv hT m2 zw57 w2 (by omega)
    refine ⟨σ3, zS_eq (zS_of ze_90 ?_), w3, hK12.tr hK3⟩
    unfold zto at *
    simp (disch := first | assumption | omega) only [zn0, zn1, Option.bind_some, zm_ai, zm_al, zm_av, zm_opt, zm_fw, zE_l, zE_r, nI_add, pk_mul, pk_sub, pk_div, pk_rem, zrem, zpm1, zB_i0, zB_i1, zB_ok, zB_T, zB_F, nI_toInt, zT_sub, zT_neg, zT_le, zT_lt, nI_eq, zne1, zne2, zne9, ite_not, or_true, true_or, if_true, if_false, if_pos, if_neg, zw_R, zw_RL, zw_I, zF_R, zw_same, zw_cell, zw_ne, zF_at, zF_ne, zi_0, zi_1, zi_10, zi_17, zi_19, zi_20, zi_30, zi_48, zi_50, zi_52, zi_57, zi_59, zi_80, zi_93, zi_106, zi_110, zi_114, zx_0_0, zx_0_1, zx_0_2, zx_0_3, zx_0_4, zx_0_5, zx_0_6, zx_0_7, zx_0_8, zx_0_9, zx_0_10, zx_1_0, zx_1_1, zx_2_0, zx_2_1, zx_2_2, zx_2_3, zx_2_4, zx_2_5, zx_10_0, zx_10_1, zx_11_0, zx_11_1, zx_11_2, zx_11_3, zx_17_0, zx_19_0, zx_19_1, zx_19_2, zx_20_0, zx_20_1, zx_20_3, zx_20_4, zx_20_5, zx_20_6, zx_20_7, zx_20_8, zx_20_9, zx_30_0, zx_30_1, zx_30_4, zx_30_5, zx_48_0, zx_50_0, zx_52_0, zx_52_1, zx_52_2, zx_56_0, zx_56_1, zx_56_2, zx_57_0, zx_59_0, zx_80_3, zx_80_4, zx_80_5, zx_81_0, zx_81_1, zx_81_2, zx_81_3, zx_81_4, zx_81_5, zx_88_0, zx_88_1, zx_88_2, zx_93_3, zx_93_4, zx_93_5, zx_94_0, zx_94_1, zx_94_2, zx_94_3, zx_94_4, zx_94_5, zx_101_0, zx_101_1, zx_101_2, zx_106_0, zx_106_1, zx_106_2, zx_110_0, zx_110_1, zx_110_2, zx_114_0, zx_114_1, zx_114_2, zgI_9, zsI_9, zgI_16, zsI_16, zgI_18, zsI_18, zgI_21, zsI_21, zgI_22, zsI_22, zgI_23, zsI_23, zgI_24, zsI_24, zgI_25, zsI_25, zgI_26, zsI_26, zgI_27, zsI_27, zgI_28, zsI_28, zgI_29, zsI_29, zgI_47, zsI_47, zgI_49, zsI_49, zgI_51, zsI_51, zgI_53, zsI_53, zgI_54, zsI_54, zgI_55, zsI_55, zgI_58, zsI_58, zgI_76, zsI_76, zgI_79, zsI_79, zq_90_0_1, zq_90_0_2, zq_90_0_3, zq_90_0_4, zq_90_0_5, zq_90_0_6, zq_90_0_7, zq_90_0_8, zq_90_0_9, zq_90_0_10, zq_90_0_11, zq_90_0_12, zq_90_0_13, zq_90_0_14, zq_90_0_15, zq_90_0_16, zq_90_0_17, zq_90_0_18, zq_90_0_19, zq_90_0_20, zq_90_0_21, zq_90_0_22, zq_90_0_23, zq_90_0_24, zq_90_0_25, zq_90_0_26, zq_90_0_27, zh_90_0, e0, not_false, e1, n3, hai, a0, a1, e2, hwi, e3, a2, e4]
theorem m_spells {w : List Int32} (hF : zFix σ) (hG : zMG σ G) (hv : zGv G) (hN : zMN σ G t) (h : zMT σ t) (hT : zTi G t) (hal : ∀ p, p < G.1 → zMet t p) {s : Int32} (hs : zLt (zsn G t) s) (hw : zMW σ w) (hl : w.length < 380) :
    ∃ σ', zM 233 [.ref 118, .int s] zL σ = some (none, zL, σ') ∧ zMW σ' ((zspl G t s).foldl zpush w) ∧ zKeep zFMy σ σ' := by
  have h15 := zsn_le hv t
  have h3 := hv.2.1
  obtain ⟨x, hx, rfl | rfl⟩ := hs
  · obtain ⟨o1, o2, o3⟩ := zeo_ok (G := G) (t := t) (b := x + 1) (by omega) (by omega)
    have hE15 : zeo G t (x + 1) < 15 := by have := zng hv; omega
    have m1 := hal _ (zedge o1).2.1
    have m2 := hal _ (zto_lt hv o1)
    have f1 := hT.far4 hv m1
    have f2 := hT.far4 hv m2
    have n3 := (hN.2 _ o1).2.2 o2
    rw [o3] at n3
    rw [zspl_p G t (by omega) (by omega), zf3]
    have hg0 := (zedge o1).1
    have gg := hG.2.1
    obtain ⟨σ1, e2, w1, hK1⟩ := m_growsWay hF h hv hT m1 hw (by omega)
    have hF1 := hK1.fix hF rfl
    have l1 := zfold_len (zway t (zeo G t (x + 1) / G.2.1)) w
    rw [zway_len] at l1
    obtain ⟨σ2, e3, w2, hK2⟩ := m_grows hF1 w1 (by omega) (nI (zeo G t (x + 1) % G.2.1 + 1))
    have hK12 := hK1.tr (zFM_y hK2)
    have hF2 := hK12.fix hF rfl
    have hG2 : zMG σ2 G := hG.keep hK12 ⟨rfl, rfl, rfl⟩ fun k => ⟨rfl, rfl, rfl, rfl⟩
    have gg2 := hG2.2.1
    have a2 := m_endOf hF2 hG2 hv o1
    have l2 := zpush_len ((zway t (zeo G t (x + 1) / G.2.1)).foldl zpush w) (nI (zeo G t (x + 1) % G.2.1 + 1))
    obtain ⟨σ3, e4, w3, hK3⟩ := m_growsBack hv hT _ m2 σ2 _ hF2 (h.y hK12) w2 (by omega)
    refine ⟨σ3, zS_eq (zS_of ze_233 ?_), w3, hK12.tr (zFM_y hK3)⟩
    unfold zto at *
    simp (disch := first | assumption | omega) only [zn0, zn1, Option.bind_some, zm_ai, zm_al, zm_av, zm_opt, zm_fw, zE_l, zE_r, nI_add, pk_mul, pk_sub, pk_div, pk_rem, zrem, zpm1, zB_i0, zB_i1, zB_ok, zB_T, zB_F, nI_toInt, zT_sub, zT_neg, zT_le, zT_lt, nI_eq, zne1, zne2, zne9, ite_not, or_true, true_or, if_true, if_false, if_pos, if_neg, zw_R, zw_RL, zw_I, zF_R, zw_same, zw_cell, zw_ne, zF_at, zF_ne, zi_118, zx_118_0, zx_118_1, zx_118_2, zx_118_3, zx_118_7, zx_118_8, zx_118_9, zx_118_10, zx_118_11, zx_118_12, zx_118_13, zx_118_14, zx_118_15, zx_118_17, zx_118_18, zx_118_19, zx_118_21, zx_118_22, zx_118_24, zx_118_25, zx_118_30, zx_118_35, zx_118_36, zx_118_37, zx_118_38, zx_118_39, zx_118_41, zx_118_42, zx_118_44, zx_118_45, zx_118_46, zgI_119, zsI_119, zgI_120, zsI_120, zgI_121, zsI_121, zgI_122, zsI_122, zgI_123, zsI_123, zgI_124, zsI_124, zgI_125, zsI_125, zgI_126, zsI_126, zgI_127, zsI_127, zgI_128, zsI_128, zgI_129, zsI_129, zgI_130, zsI_130, zgI_131, zsI_131, zgI_132, zsI_132, zgI_133, zsI_133, zgI_134, zsI_134, zgI_135, zsI_135, zgI_136, zsI_136, zgI_137, zsI_137, zgI_139, zsI_139, zgI_140, zsI_140, zgI_141, zsI_141, zgI_142, zsI_142, zgI_143, zsI_143, zgI_144, zsI_144, zgI_145, zsI_145, zgI_146, zsI_146, zgI_147, zsI_147, zq_233_0_1, zq_233_0_2, zq_233_0_3, zq_233_0_4, zq_233_0_5, zq_233_0_6, zq_233_0_7, zq_233_0_8, zq_233_0_9, zq_233_0_10, zq_233_0_11, zq_233_0_12, zq_233_0_13, zq_233_0_14, zq_233_0_15, zq_233_0_16, zq_233_0_17, zq_233_0_18, zq_233_0_19, zq_233_0_20, zq_233_0_21, zq_233_0_22, zq_233_0_23, zq_233_0_24, zq_233_0_25, zq_233_0_26, zq_233_0_27, zq_233_0_28, zq_233_0_29, zq_233_0_30, zq_233_0_31, zq_233_0_32, zq_233_0_33, zq_233_0_34, zq_233_0_35, zq_233_0_36, zq_233_0_37, zq_233_0_38, zh_233_0, n3, gg, gg2, e2, e3, a2, e4]
  · obtain ⟨o1, o2, o3⟩ := zeo_ok (G := G) (t := t) (b := x + 1) (by omega) (by omega)
    have hE15 : zeo G t (x + 1) < 15 := by have := zng hv; omega
    have m1 := hal _ (zto_lt hv o1)
    have m2 := hal _ (zedge o1).2.1
    have f1 := hT.far4 hv m1
    have f2 := hT.far4 hv m2
    have n3 := (hN.2 _ o1).2.2 o2
    rw [o3] at n3
    rw [zspl_n G t (by omega) (by omega), zf3]
    have hg0 := (zedge o1).1
    have gg := hG.2.1
    have a1 := m_endOf hF hG hv o1
    obtain ⟨σ1, e2, w1, hK1⟩ := m_growsWay hF h hv hT m1 hw (by omega)
    have hF1 := hK1.fix hF rfl
    have l1 := zfold_len (zway t (zto G (zeo G t (x + 1)))) w
    rw [zway_len] at l1
    obtain ⟨σ2, e3, w2, hK2⟩ := m_grows hF1 w1 (by omega) (-nI (zeo G t (x + 1) % G.2.1 + 1))
    have hK12 := hK1.tr (zFM_y hK2)
    have hF2 := hK12.fix hF rfl
    have hG2 : zMG σ2 G := hG.keep hK12 ⟨rfl, rfl, rfl⟩ fun k => ⟨rfl, rfl, rfl, rfl⟩
    have gg2 := hG2.2.1
    have l2 := zpush_len ((zway t (zto G (zeo G t (x + 1)))).foldl zpush w) (-nI (zeo G t (x + 1) % G.2.1 + 1))
    obtain ⟨σ3, e4, w3, hK3⟩ := m_growsBack hv hT _ m2 σ2 _ hF2 (h.y hK12) w2 (by omega)
    refine ⟨σ3, zS_eq (zS_of ze_233 ?_), w3, hK12.tr (zFM_y hK3)⟩
    unfold zto at *
    simp (disch := first | assumption | omega) only [zn0, zn1, Option.bind_some, zm_ai, zm_al, zm_av, zm_opt, zm_fw, zE_l, zE_r, nI_add, pk_mul, pk_sub, pk_div, pk_rem, zrem, zpm1, zB_i0, zB_i1, zB_ok, zB_T, zB_F, nI_toInt, zT_sub, zT_neg, zT_le, zT_lt, nI_eq, zne1, zne2, zne9, ite_not, or_true, true_or, if_true, if_false, if_pos, if_neg, zw_R, zw_RL, zw_I, zF_R, zw_same, zw_cell, zw_ne, zF_at, zF_ne, zi_118, zx_118_0, zx_118_1, zx_118_2, zx_118_3, zx_118_7, zx_118_8, zx_118_9, zx_118_10, zx_118_11, zx_118_12, zx_118_13, zx_118_14, zx_118_15, zx_118_17, zx_118_18, zx_118_19, zx_118_21, zx_118_22, zx_118_24, zx_118_25, zx_118_30, zx_118_35, zx_118_36, zx_118_37, zx_118_38, zx_118_39, zx_118_41, zx_118_42, zx_118_44, zx_118_45, zx_118_46, zgI_119, zsI_119, zgI_120, zsI_120, zgI_121, zsI_121, zgI_122, zsI_122, zgI_123, zsI_123, zgI_124, zsI_124, zgI_125, zsI_125, zgI_126, zsI_126, zgI_127, zsI_127, zgI_128, zsI_128, zgI_129, zsI_129, zgI_130, zsI_130, zgI_131, zsI_131, zgI_132, zsI_132, zgI_133, zsI_133, zgI_134, zsI_134, zgI_135, zsI_135, zgI_136, zsI_136, zgI_137, zsI_137, zgI_139, zsI_139, zgI_140, zsI_140, zgI_141, zsI_141, zgI_142, zsI_142, zgI_143, zsI_143, zgI_144, zsI_144, zgI_145, zsI_145, zgI_146, zsI_146, zgI_147, zsI_147, zq_233_0_1, zq_233_0_2, zq_233_0_3, zq_233_0_4, zq_233_0_5, zq_233_0_6, zq_233_0_7, zq_233_0_8, zq_233_0_9, zq_233_0_10, zq_233_0_11, zq_233_0_12, zq_233_0_13, zq_233_0_14, zq_233_0_15, zq_233_0_16, zq_233_0_17, zq_233_0_18, zq_233_0_19, zq_233_0_20, zq_233_0_21, zq_233_0_22, zq_233_0_23, zq_233_0_24, zq_233_0_25, zq_233_0_26, zq_233_0_27, zq_233_0_28, zq_233_0_29, zq_233_0_30, zq_233_0_31, zq_233_0_32, zq_233_0_33, zq_233_0_34, zq_233_0_35, zq_233_0_36, zq_233_0_37, zq_233_0_38, zh_233_0, n3, gg, gg2, a1, e2, e3, e4, Int32.neg_neg]
theorem zspls_len (hv : zGv G) (hT : zTi G t) (hal : ∀ p, p < G.1 → zMet t p) {l : List Int32} (hl : ∀ x ∈ l, zLt (zsn G t) x) : ∀ k, k ≤ l.length → (zspls G t (l.take k)).length ≤ 9 * k
  | 0, _ => by rw [List.take_zero]; exact Nat.le_refl _
  | k + 1, hk => by
    have h1 := zspls_len hv hT hal hl k (by omega)
    have h2 := zspl_len hv hT hal (hl _ (zat_mem (show k < l.length by omega)))
    have h3 := zfold_len (zspl G t (zat l k)) (zspls G t (l.take k))
    rw [zspls_take (by omega)]
    omega
theorem k_spelt (r t : Int32) (h : zInv σ) : zCallV 88 232 [.int r, .int t] σ := by
  obtain ⟨a, R, T, K, G, ds, ks, hC, hM, hV⟩ := h
  obtain ⟨hF, hR, hT, hKc, ha, hcu, hsp, hG, hN, ⟨π, hCR⟩, hL, hO, hTl, hks, hpos, hzero⟩ := id hC
  have hv := hV.1
  have h5 := hv.1
  have h15 := zsn_le hv (ztree G (zrun G ds).1)
  have hai := zGo_i ha
  rcases z_c6 r with hb | ⟨r, hr, rfl⟩
  · refine zCallV.of hV hV hM (v := .int (-nI 1)) (zCo.same hC (zS_eq (zS_of ze_88 ?_))) fun σ1 hM1 => zMo.same hM1 (zS_eq (zS_of ze_232 ?_))
    · simp (disch := first | assumption | omega) only [zn0, zn1, Option.bind_some, zm_ai, zm_al, zm_av, zm_opt, zm_fw, zE_l, zE_r, nI_add, pk_mul, pk_sub, pk_div, pk_rem, zrem, zpm1, zB_i0, zB_i1, zB_ok, zB_T, zB_F, nI_toInt, zT_sub, zT_neg, zT_le, zT_lt, nI_eq, zne1, zne2, zne9, ite_not, or_true, true_or, if_true, if_false, if_pos, if_neg, zw_R, zw_RL, zw_I, zF_R, zw_same, zw_cell, zw_ne, zF_at, zF_ne, zi_0, zi_1, zi_10, zi_17, zi_19, zi_20, zi_30, zi_48, zi_50, zi_52, zi_57, zi_59, zi_80, zi_93, zi_106, zi_110, zi_114, zx_0_0, zx_0_1, zx_0_2, zx_0_3, zx_0_4, zx_0_5, zx_0_6, zx_0_7, zx_0_8, zx_0_9, zx_0_10, zx_1_0, zx_1_1, zx_2_0, zx_2_1, zx_2_2, zx_2_3, zx_2_4, zx_2_5, zx_10_0, zx_10_1, zx_11_0, zx_11_1, zx_11_2, zx_11_3, zx_17_0, zx_19_0, zx_19_1, zx_19_2, zx_20_0, zx_20_1, zx_20_3, zx_20_4, zx_20_5, zx_20_6, zx_20_7, zx_20_8, zx_20_9, zx_30_0, zx_30_1, zx_30_4, zx_30_5, zx_48_0, zx_50_0, zx_52_0, zx_52_1, zx_52_2, zx_56_0, zx_56_1, zx_56_2, zx_57_0, zx_59_0, zx_80_3, zx_80_4, zx_80_5, zx_81_0, zx_81_1, zx_81_2, zx_81_3, zx_81_4, zx_81_5, zx_88_0, zx_88_1, zx_88_2, zx_93_3, zx_93_4, zx_93_5, zx_94_0, zx_94_1, zx_94_2, zx_94_3, zx_94_4, zx_94_5, zx_101_0, zx_101_1, zx_101_2, zx_106_0, zx_106_1, zx_106_2, zx_110_0, zx_110_1, zx_110_2, zx_114_0, zx_114_1, zx_114_2, zgI_9, zsI_9, zgI_16, zsI_16, zgI_18, zsI_18, zgI_21, zsI_21, zgI_22, zsI_22, zgI_23, zsI_23, zgI_24, zsI_24, zgI_25, zsI_25, zgI_26, zsI_26, zgI_27, zsI_27, zgI_28, zsI_28, zgI_29, zsI_29, zgI_47, zsI_47, zgI_49, zsI_49, zgI_51, zsI_51, zgI_53, zsI_53, zgI_54, zsI_54, zgI_55, zsI_55, zgI_58, zsI_58, zgI_76, zsI_76, zgI_79, zsI_79, zb_88_0, c_no_f zS1, not_true]
    · simp (disch := first | assumption | omega) only [zn0, zn1, Option.bind_some, zm_ai, zm_al, zm_av, zm_opt, zm_fw, zE_l, zE_r, nI_add, pk_mul, pk_sub, pk_div, pk_rem, zrem, zpm1, zB_i0, zB_i1, zB_ok, zB_T, zB_F, nI_toInt, zT_sub, zT_neg, zT_le, zT_lt, nI_eq, zne1, zne2, zne9, ite_not, or_true, true_or, if_true, if_false, if_pos, if_neg, zw_R, zw_RL, zw_I, zF_R, zw_same, zw_cell, zw_ne, zF_at, zF_ne, zi_118, zx_118_0, zx_118_1, zx_118_2, zx_118_3, zx_118_7, zx_118_8, zx_118_9, zx_118_10, zx_118_11, zx_118_12, zx_118_13, zx_118_14, zx_118_15, zx_118_17, zx_118_18, zx_118_19, zx_118_21, zx_118_22, zx_118_24, zx_118_25, zx_118_30, zx_118_35, zx_118_36, zx_118_37, zx_118_38, zx_118_39, zx_118_41, zx_118_42, zx_118_44, zx_118_45, zx_118_46, zgI_119, zsI_119, zgI_120, zsI_120, zgI_121, zsI_121, zgI_122, zsI_122, zgI_123, zsI_123, zgI_124, zsI_124, zgI_125, zsI_125, zgI_126, zsI_126, zgI_127, zsI_127, zgI_128, zsI_128, zgI_129, zsI_129, zgI_130, zsI_130, zgI_131, zsI_131, zgI_132, zsI_132, zgI_133, zsI_133, zgI_134, zsI_134, zgI_135, zsI_135, zgI_136, zsI_136, zgI_137, zsI_137, zgI_139, zsI_139, zgI_140, zsI_140, zgI_141, zsI_141, zgI_142, zsI_142, zgI_143, zsI_143, zgI_144, zsI_144, zgI_145, zsI_145, zgI_146, zsI_146, zgI_147, zsI_147, zb_232_0, m_ir_f, not_true]
  · rcases z_c6 t with hb | ⟨t, ht, rfl⟩
    · refine zCallV.of hV hV hM (v := .int (-nI 1)) (zCo.same hC (zS_eq (zS_of ze_88 ?_))) fun σ1 hM1 => zMo.same hM1 (zS_eq (zS_of ze_232 ?_))
      · have e1 := c_no_f zS1 hF hb
        simp (disch := first | assumption | omega) only [zn0, zn1, Option.bind_some, zm_ai, zm_al, zm_av, zm_opt, zm_fw, zE_l, zE_r, nI_add, pk_mul, pk_sub, pk_div, pk_rem, zrem, zpm1, zB_i0, zB_i1, zB_ok, zB_T, zB_F, nI_toInt, zT_sub, zT_neg, zT_le, zT_lt, nI_eq, zne1, zne2, zne9, ite_not, or_true, true_or, if_true, if_false, if_pos, if_neg, zw_R, zw_RL, zw_I, zF_R, zw_same, zw_cell, zw_ne, zF_at, zF_ne, zi_0, zi_1, zi_10, zi_17, zi_19, zi_20, zi_30, zi_48, zi_50, zi_52, zi_57, zi_59, zi_80, zi_93, zi_106, zi_110, zi_114, zx_0_0, zx_0_1, zx_0_2, zx_0_3, zx_0_4, zx_0_5, zx_0_6, zx_0_7, zx_0_8, zx_0_9, zx_0_10, zx_1_0, zx_1_1, zx_2_0, zx_2_1, zx_2_2, zx_2_3, zx_2_4, zx_2_5, zx_10_0, zx_10_1, zx_11_0, zx_11_1, zx_11_2, zx_11_3, zx_17_0, zx_19_0, zx_19_1, zx_19_2, zx_20_0, zx_20_1, zx_20_3, zx_20_4, zx_20_5, zx_20_6, zx_20_7, zx_20_8, zx_20_9, zx_30_0, zx_30_1, zx_30_4, zx_30_5, zx_48_0, zx_50_0, zx_52_0, zx_52_1, zx_52_2, zx_56_0, zx_56_1, zx_56_2, zx_57_0, zx_59_0, zx_80_3, zx_80_4, zx_80_5, zx_81_0, zx_81_1, zx_81_2, zx_81_3, zx_81_4, zx_81_5, zx_88_0, zx_88_1, zx_88_2, zx_93_3, zx_93_4, zx_93_5, zx_94_0, zx_94_1, zx_94_2, zx_94_3, zx_94_4, zx_94_5, zx_101_0, zx_101_1, zx_101_2, zx_106_0, zx_106_1, zx_106_2, zx_110_0, zx_110_1, zx_110_2, zx_114_0, zx_114_1, zx_114_2, zgI_9, zsI_9, zgI_16, zsI_16, zgI_18, zsI_18, zgI_21, zsI_21, zgI_22, zsI_22, zgI_23, zsI_23, zgI_24, zsI_24, zgI_25, zsI_25, zgI_26, zsI_26, zgI_27, zsI_27, zgI_28, zsI_28, zgI_29, zsI_29, zgI_47, zsI_47, zgI_49, zsI_49, zgI_51, zsI_51, zgI_53, zsI_53, zgI_54, zsI_54, zgI_55, zsI_55, zgI_58, zsI_58, zgI_76, zsI_76, zgI_79, zsI_79, zb_88_0, c_no_t zS1, e1, not_true]
      · have e1 := m_ir_f (σ := σ1) hb
        simp (disch := first | assumption | omega) only [zn0, zn1, Option.bind_some, zm_ai, zm_al, zm_av, zm_opt, zm_fw, zE_l, zE_r, nI_add, pk_mul, pk_sub, pk_div, pk_rem, zrem, zpm1, zB_i0, zB_i1, zB_ok, zB_T, zB_F, nI_toInt, zT_sub, zT_neg, zT_le, zT_lt, nI_eq, zne1, zne2, zne9, ite_not, or_true, true_or, if_true, if_false, if_pos, if_neg, zw_R, zw_RL, zw_I, zF_R, zw_same, zw_cell, zw_ne, zF_at, zF_ne, zi_118, zx_118_0, zx_118_1, zx_118_2, zx_118_3, zx_118_7, zx_118_8, zx_118_9, zx_118_10, zx_118_11, zx_118_12, zx_118_13, zx_118_14, zx_118_15, zx_118_17, zx_118_18, zx_118_19, zx_118_21, zx_118_22, zx_118_24, zx_118_25, zx_118_30, zx_118_35, zx_118_36, zx_118_37, zx_118_38, zx_118_39, zx_118_41, zx_118_42, zx_118_44, zx_118_45, zx_118_46, zgI_119, zsI_119, zgI_120, zsI_120, zgI_121, zsI_121, zgI_122, zsI_122, zgI_123, zsI_123, zgI_124, zsI_124, zgI_125, zsI_125, zgI_126, zsI_126, zgI_127, zsI_127, zgI_128, zsI_128, zgI_129, zsI_129, zgI_130, zsI_130, zgI_131, zsI_131, zgI_132, zsI_132, zgI_133, zsI_133, zgI_134, zsI_134, zgI_135, zsI_135, zgI_136, zsI_136, zgI_137, zsI_137, zgI_139, zsI_139, zgI_140, zsI_140, zgI_141, zsI_141, zgI_142, zsI_142, zgI_143, zsI_143, zgI_144, zsI_144, zgI_145, zsI_145, zgI_146, zsI_146, zgI_147, zsI_147, zb_232_0, m_ir_t, e1, not_true]
    · cases e : R r with
      | none =>
        refine zCallV.of hV hV hM (v := .int (-3)) (zCo.found hC hV (f := 1) (by decide) (zS_eq (zS_of ze_88 ?_))) fun σ1 hM1 => zMo.found hM1 hV (by decide) (zS_eq (zS_of ze_232 ?_))
        · have e1 := c_found hF (f := 1) (by decide)
          simp (disch := first | assumption | omega) only [zn0, zn1, Option.bind_some, zm_ai, zm_al, zm_av, zm_opt, zm_fw, zE_l, zE_r, nI_add, pk_mul, pk_sub, pk_div, pk_rem, zrem, zpm1, zB_i0, zB_i1, zB_ok, zB_T, zB_F, nI_toInt, zT_sub, zT_neg, zT_le, zT_lt, nI_eq, zne1, zne2, zne9, ite_not, or_true, true_or, if_true, if_false, if_pos, if_neg, zw_R, zw_RL, zw_I, zF_R, zw_same, zw_cell, zw_ne, zF_at, zF_ne, zi_0, zi_1, zi_10, zi_17, zi_19, zi_20, zi_30, zi_48, zi_50, zi_52, zi_57, zi_59, zi_80, zi_93, zi_106, zi_110, zi_114, zx_0_0, zx_0_1, zx_0_2, zx_0_3, zx_0_4, zx_0_5, zx_0_6, zx_0_7, zx_0_8, zx_0_9, zx_0_10, zx_1_0, zx_1_1, zx_2_0, zx_2_1, zx_2_2, zx_2_3, zx_2_4, zx_2_5, zx_10_0, zx_10_1, zx_11_0, zx_11_1, zx_11_2, zx_11_3, zx_17_0, zx_19_0, zx_19_1, zx_19_2, zx_20_0, zx_20_1, zx_20_3, zx_20_4, zx_20_5, zx_20_6, zx_20_7, zx_20_8, zx_20_9, zx_30_0, zx_30_1, zx_30_4, zx_30_5, zx_48_0, zx_50_0, zx_52_0, zx_52_1, zx_52_2, zx_56_0, zx_56_1, zx_56_2, zx_57_0, zx_59_0, zx_80_3, zx_80_4, zx_80_5, zx_81_0, zx_81_1, zx_81_2, zx_81_3, zx_81_4, zx_81_5, zx_88_0, zx_88_1, zx_88_2, zx_93_3, zx_93_4, zx_93_5, zx_94_0, zx_94_1, zx_94_2, zx_94_3, zx_94_4, zx_94_5, zx_101_0, zx_101_1, zx_101_2, zx_106_0, zx_106_1, zx_106_2, zx_110_0, zx_110_1, zx_110_2, zx_114_0, zx_114_1, zx_114_2, zgI_9, zsI_9, zgI_16, zsI_16, zgI_18, zsI_18, zgI_21, zsI_21, zgI_22, zsI_22, zgI_23, zsI_23, zgI_24, zsI_24, zgI_25, zsI_25, zgI_26, zsI_26, zgI_27, zsI_27, zgI_28, zsI_28, zgI_29, zsI_29, zgI_47, zsI_47, zgI_49, zsI_49, zgI_51, zsI_51, zgI_53, zsI_53, zgI_54, zsI_54, zgI_55, zsI_55, zgI_58, zsI_58, zgI_76, zsI_76, zgI_79, zsI_79, zb_88_0, c_no_t zS1, not_false, c_ms_t zS1 hF hR hr e, e1]
        · have hF1 := hM1.1
          have h1 := (hM1.2.1 r hr).1 e
          have e1 := m_found hF1 (f := 1) (by decide)
          simp (disch := first | assumption | omega) only [zn0, zn1, Option.bind_some, zm_ai, zm_al, zm_av, zm_opt, zm_fw, zE_l, zE_r, nI_add, pk_mul, pk_sub, pk_div, pk_rem, zrem, zpm1, zB_i0, zB_i1, zB_ok, zB_T, zB_F, nI_toInt, zT_sub, zT_neg, zT_le, zT_lt, nI_eq, zne1, zne2, zne9, ite_not, or_true, true_or, if_true, if_false, if_pos, if_neg, zw_R, zw_RL, zw_I, zF_R, zw_same, zw_cell, zw_ne, zF_at, zF_ne, zi_118, zx_118_0, zx_118_1, zx_118_2, zx_118_3, zx_118_7, zx_118_8, zx_118_9, zx_118_10, zx_118_11, zx_118_12, zx_118_13, zx_118_14, zx_118_15, zx_118_17, zx_118_18, zx_118_19, zx_118_21, zx_118_22, zx_118_24, zx_118_25, zx_118_30, zx_118_35, zx_118_36, zx_118_37, zx_118_38, zx_118_39, zx_118_41, zx_118_42, zx_118_44, zx_118_45, zx_118_46, zgI_119, zsI_119, zgI_120, zsI_120, zgI_121, zsI_121, zgI_122, zsI_122, zgI_123, zsI_123, zgI_124, zsI_124, zgI_125, zsI_125, zgI_126, zsI_126, zgI_127, zsI_127, zgI_128, zsI_128, zgI_129, zsI_129, zgI_130, zsI_130, zgI_131, zsI_131, zgI_132, zsI_132, zgI_133, zsI_133, zgI_134, zsI_134, zgI_135, zsI_135, zgI_136, zsI_136, zgI_137, zsI_137, zgI_139, zsI_139, zgI_140, zsI_140, zgI_141, zsI_141, zgI_142, zsI_142, zgI_143, zsI_143, zgI_144, zsI_144, zgI_145, zsI_145, zgI_146, zsI_146, zgI_147, zsI_147, zb_232_0, m_ir_t, not_false, h1, e1]
      | some l =>
        have hl40 := ((hR r hr).2 l e).1
        have c1 := c_sz zS1 hF hR hr e
        have mnum : ∀ σ1, zMm σ1 R T K G ds ks → (G.1 = 0 → zM 230 [.ref 118, .int (nI r), .int (nI 0)] zL σ1 = some (some (.int (zB (zAll (fun j => zLt (zsn G (ztree G (zrun G ds).1)) (zat l j)) l.length))), zL, σ1)) ∧ (0 < G.1 → zM 230 [.ref 118, .int (nI r), .int (nI (zsn G (ztree G (zrun G ds).1)))] zL σ1 = some (some (.int (zB (zAll (fun j => zLt (zsn G (ztree G (zrun G ds).1)) (zat l j)) l.length))), zL, σ1)) := fun σ1 hM1 => ⟨fun q => by
          have := m_areNumbers hM1.1 hM1.2.1 hr e (m := 0) (by decide)
          rw [(hV.rs0 q).2.2.2]
          exact this, fun q => m_areNumbers hM1.1 hM1.2.1 hr e h15⟩
        by_cases hall : zAll (fun j => zLt (zsn G (ztree G (zrun G ds).1)) (zat l j)) l.length
        · have hmem := zAll_mem hall
          have hp0 : 0 < l.length → 0 < G.1 := fun q => Nat.pos_of_ne_zero fun z => by
            have := hall 0 q
            rw [(hV.rs0 z).2.2.2] at this
            obtain ⟨x, hx, -⟩ := this
            omega
          have hlen : ∀ k, k ≤ l.length → (zspls G (ztree G (zrun G ds).1) (l.take k)).length ≤ 9 * k := fun k hk => by
            rcases Nat.eq_zero_or_pos k with rfl | q
            · rw [List.take_zero]; exact Nat.le_refl _
            · obtain ⟨hTi, hal, -⟩ := hV.tr (hp0 (by omega)) (zrun G ds).1
              exact zspls_len hv hTi hal hmem k hk
          have e1 := c_clear (σ := σ) zw57
          obtain ⟨w1, hK1⟩ := zCW_clear 57 σ
          -- the class up to its last check
          have pre : ∀ Q : zm_Out → Prop, (∀ σ2, zCW σ2 57 (zspls G (ztree G (zrun G ds).1) l) → zKeep (zFWy 57) σ σ2 → zW 88 (98, [(0, .ref 0), (1, .int (nI r)), (2, .int (nI t)), (3, .int (nI l.length))], [], zL, σ2, 0, 0) Q) → zS 88 [.ref 0, .int (nI r), .int (nI t)] σ Q := by
            intro Q hQ
            refine zS_of ze_88 ?_
            simp (disch := first | assumption | omega) only [zn0, zn1, Option.bind_some, zm_ai, zm_al, zm_av, zm_opt, zm_fw, zE_l, zE_r, nI_add, pk_mul, pk_sub, pk_div, pk_rem, zrem, zpm1, zB_i0, zB_i1, zB_ok, zB_T, zB_F, nI_toInt, zT_sub, zT_neg, zT_le, zT_lt, nI_eq, zne1, zne2, zne9, ite_not, or_true, true_or, if_true, if_false, if_pos, if_neg, zw_R, zw_RL, zw_I, zF_R, zw_same, zw_cell, zw_ne, zF_at, zF_ne, zi_0, zi_1, zi_10, zi_17, zi_19, zi_20, zi_30, zi_48, zi_50, zi_52, zi_57, zi_59, zi_80, zi_93, zi_106, zi_110, zi_114, zx_0_0, zx_0_1, zx_0_2, zx_0_3, zx_0_4, zx_0_5, zx_0_6, zx_0_7, zx_0_8, zx_0_9, zx_0_10, zx_1_0, zx_1_1, zx_2_0, zx_2_1, zx_2_2, zx_2_3, zx_2_4, zx_2_5, zx_10_0, zx_10_1, zx_11_0, zx_11_1, zx_11_2, zx_11_3, zx_17_0, zx_19_0, zx_19_1, zx_19_2, zx_20_0, zx_20_1, zx_20_3, zx_20_4, zx_20_5, zx_20_6, zx_20_7, zx_20_8, zx_20_9, zx_30_0, zx_30_1, zx_30_4, zx_30_5, zx_48_0, zx_50_0, zx_52_0, zx_52_1, zx_52_2, zx_56_0, zx_56_1, zx_56_2, zx_57_0, zx_59_0, zx_80_3, zx_80_4, zx_80_5, zx_81_0, zx_81_1, zx_81_2, zx_81_3, zx_81_4, zx_81_5, zx_88_0, zx_88_1, zx_88_2, zx_93_3, zx_93_4, zx_93_5, zx_94_0, zx_94_1, zx_94_2, zx_94_3, zx_94_4, zx_94_5, zx_101_0, zx_101_1, zx_101_2, zx_106_0, zx_106_1, zx_106_2, zx_110_0, zx_110_1, zx_110_2, zx_114_0, zx_114_1, zx_114_2, zgI_9, zsI_9, zgI_16, zsI_16, zgI_18, zsI_18, zgI_21, zsI_21, zgI_22, zsI_22, zgI_23, zsI_23, zgI_24, zsI_24, zgI_25, zsI_25, zgI_26, zsI_26, zgI_27, zsI_27, zgI_28, zsI_28, zgI_29, zsI_29, zgI_47, zsI_47, zgI_49, zsI_49, zgI_51, zsI_51, zgI_53, zsI_53, zgI_54, zsI_54, zgI_55, zsI_55, zgI_58, zsI_58, zgI_76, zsI_76, zgI_79, zsI_79, zb_88_0, c_no_t zS1, not_false, c_ms_f zS1 hF hR hr e]
            refine zloopP (fun k => (43, [(0, .ref 0), (1, .int (nI r)), (2, .int (nI t)), (3, .int (nI k))], [], zL, σ, 0, 0)) (fun _ => True) l.length (fun k hk _ ih => ?_) (fun _ => ?_) trivial
            · have ih := ih trivial
              have hlt := hall k hk
              have e5 := c_rd zS1 hF hR hr e hk
              refine zW_of zg_88_43 ?_
              simp (disch := first | assumption | omega) only [zn0, zn1, Option.bind_some, zm_ai, zm_al, zm_av, zm_opt, zm_fw, zE_l, zE_r, nI_add, pk_mul, pk_sub, pk_div, pk_rem, zrem, zpm1, zB_i0, zB_i1, zB_ok, zB_T, zB_F, nI_toInt, zT_sub, zT_neg, zT_le, zT_lt, nI_eq, zne1, zne2, zne9, ite_not, or_true, true_or, if_true, if_false, if_pos, if_neg, zw_R, zw_RL, zw_I, zF_R, zw_same, zw_cell, zw_ne, zF_at, zF_ne, zi_0, zi_1, zi_10, zi_17, zi_19, zi_20, zi_30, zi_48, zi_50, zi_52, zi_57, zi_59, zi_80, zi_93, zi_106, zi_110, zi_114, zx_0_0, zx_0_1, zx_0_2, zx_0_3, zx_0_4, zx_0_5, zx_0_6, zx_0_7, zx_0_8, zx_0_9, zx_0_10, zx_1_0, zx_1_1, zx_2_0, zx_2_1, zx_2_2, zx_2_3, zx_2_4, zx_2_5, zx_10_0, zx_10_1, zx_11_0, zx_11_1, zx_11_2, zx_11_3, zx_17_0, zx_19_0, zx_19_1, zx_19_2, zx_20_0, zx_20_1, zx_20_3, zx_20_4, zx_20_5, zx_20_6, zx_20_7, zx_20_8, zx_20_9, zx_30_0, zx_30_1, zx_30_4, zx_30_5, zx_48_0, zx_50_0, zx_52_0, zx_52_1, zx_52_2, zx_56_0, zx_56_1, zx_56_2, zx_57_0, zx_59_0, zx_80_3, zx_80_4, zx_80_5, zx_81_0, zx_81_1, zx_81_2, zx_81_3, zx_81_4, zx_81_5, zx_88_0, zx_88_1, zx_88_2, zx_93_3, zx_93_4, zx_93_5, zx_94_0, zx_94_1, zx_94_2, zx_94_3, zx_94_4, zx_94_5, zx_101_0, zx_101_1, zx_101_2, zx_106_0, zx_106_1, zx_106_2, zx_110_0, zx_110_1, zx_110_2, zx_114_0, zx_114_1, zx_114_2, zgI_9, zsI_9, zgI_16, zsI_16, zgI_18, zsI_18, zgI_21, zsI_21, zgI_22, zsI_22, zgI_23, zsI_23, zgI_24, zsI_24, zgI_25, zsI_25, zgI_26, zsI_26, zgI_27, zsI_27, zgI_28, zsI_28, zgI_29, zsI_29, zgI_47, zsI_47, zgI_49, zsI_49, zgI_51, zsI_51, zgI_53, zsI_53, zgI_54, zsI_54, zgI_55, zsI_55, zgI_58, zsI_58, zgI_76, zsI_76, zgI_79, zsI_79, zb_88_43, c1, e5, c_isSigned hv hN, not_false]
              exact ih
            · refine zW_of zg_88_43 ?_
              simp (disch := first | assumption | omega) only [zn0, zn1, Option.bind_some, zm_ai, zm_al, zm_av, zm_opt, zm_fw, zE_l, zE_r, nI_add, pk_mul, pk_sub, pk_div, pk_rem, zrem, zpm1, zB_i0, zB_i1, zB_ok, zB_T, zB_F, nI_toInt, zT_sub, zT_neg, zT_le, zT_lt, nI_eq, zne1, zne2, zne9, ite_not, or_true, true_or, if_true, if_false, if_pos, if_neg, zw_R, zw_RL, zw_I, zF_R, zw_same, zw_cell, zw_ne, zF_at, zF_ne, zi_0, zi_1, zi_10, zi_17, zi_19, zi_20, zi_30, zi_48, zi_50, zi_52, zi_57, zi_59, zi_80, zi_93, zi_106, zi_110, zi_114, zx_0_0, zx_0_1, zx_0_2, zx_0_3, zx_0_4, zx_0_5, zx_0_6, zx_0_7, zx_0_8, zx_0_9, zx_0_10, zx_1_0, zx_1_1, zx_2_0, zx_2_1, zx_2_2, zx_2_3, zx_2_4, zx_2_5, zx_10_0, zx_10_1, zx_11_0, zx_11_1, zx_11_2, zx_11_3, zx_17_0, zx_19_0, zx_19_1, zx_19_2, zx_20_0, zx_20_1, zx_20_3, zx_20_4, zx_20_5, zx_20_6, zx_20_7, zx_20_8, zx_20_9, zx_30_0, zx_30_1, zx_30_4, zx_30_5, zx_48_0, zx_50_0, zx_52_0, zx_52_1, zx_52_2, zx_56_0, zx_56_1, zx_56_2, zx_57_0, zx_59_0, zx_80_3, zx_80_4, zx_80_5, zx_81_0, zx_81_1, zx_81_2, zx_81_3, zx_81_4, zx_81_5, zx_88_0, zx_88_1, zx_88_2, zx_93_3, zx_93_4, zx_93_5, zx_94_0, zx_94_1, zx_94_2, zx_94_3, zx_94_4, zx_94_5, zx_101_0, zx_101_1, zx_101_2, zx_106_0, zx_106_1, zx_106_2, zx_110_0, zx_110_1, zx_110_2, zx_114_0, zx_114_1, zx_114_2, zgI_9, zsI_9, zgI_16, zsI_16, zgI_18, zsI_18, zgI_21, zsI_21, zgI_22, zsI_22, zgI_23, zsI_23, zgI_24, zsI_24, zgI_25, zsI_25, zgI_26, zsI_26, zgI_27, zsI_27, zgI_28, zsI_28, zgI_29, zsI_29, zgI_47, zsI_47, zgI_49, zsI_49, zgI_51, zsI_51, zgI_53, zsI_53, zgI_54, zsI_54, zgI_55, zsI_55, zgI_58, zsI_58, zgI_76, zsI_76, zgI_79, zsI_79, zb_88_43, c1, e1]
              refine zloop (fun k σ2 => (98, [(0, .ref 0), (1, .int (nI r)), (2, .int (nI t)), (3, .int (nI k))], [], zL, σ2, 0, 0)) (fun k σ2 => zCW σ2 57 (zspls G (ztree G (zrun G ds).1) (l.take k)) ∧ zKeep (zFWy 57) σ σ2) l.length (fun k σ2 hk hI ih => ?_) (fun σ2 hI => ?_) 0 _ (by omega) ⟨w1, zFW_y hK1⟩
              · obtain ⟨w2, hK2⟩ := hI
                have h0 := hp0 (by omega)
                obtain ⟨hTi, hal, -⟩ := hV.tr h0 (zrun G ds).1
                have hC2 := hC.scr hV (zFWy_scr zw57 hK2)
                obtain ⟨hF2, hR2, -, -, -, hcu2, -, hG2, hN2, -, -, -, -, -, hpos2, -⟩ := id hC2
                have c2 := c_sz zS1 hF2 hR2 hr e
                have e5 := c_rd zS1 hF2 hR2 hr e hk
                have hlk := hlen k (by omega)
                obtain ⟨σ3, e3, w3, hK3⟩ := c_addSpelling hF2 ha hG2 hv hN2 (hpos2 h0).1 hTi hal (hall k hk) w2 (by omega)
                refine zW_of zg_88_98 ?_
                simp (disch := first | assumption | omega) only [zn0, zn1, Option.bind_some, zm_ai, zm_al, zm_av, zm_opt, zm_fw, zE_l, zE_r, nI_add, pk_mul, pk_sub, pk_div, pk_rem, zrem, zpm1, zB_i0, zB_i1, zB_ok, zB_T, zB_F, nI_toInt, zT_sub, zT_neg, zT_le, zT_lt, nI_eq, zne1, zne2, zne9, ite_not, or_true, true_or, if_true, if_false, if_pos, if_neg, zw_R, zw_RL, zw_I, zF_R, zw_same, zw_cell, zw_ne, zF_at, zF_ne, zi_0, zi_1, zi_10, zi_17, zi_19, zi_20, zi_30, zi_48, zi_50, zi_52, zi_57, zi_59, zi_80, zi_93, zi_106, zi_110, zi_114, zx_0_0, zx_0_1, zx_0_2, zx_0_3, zx_0_4, zx_0_5, zx_0_6, zx_0_7, zx_0_8, zx_0_9, zx_0_10, zx_1_0, zx_1_1, zx_2_0, zx_2_1, zx_2_2, zx_2_3, zx_2_4, zx_2_5, zx_10_0, zx_10_1, zx_11_0, zx_11_1, zx_11_2, zx_11_3, zx_17_0, zx_19_0, zx_19_1, zx_19_2, zx_20_0, zx_20_1, zx_20_3, zx_20_4, zx_20_5, zx_20_6, zx_20_7, zx_20_8, zx_20_9, zx_30_0, zx_30_1, zx_30_4, zx_30_5, zx_48_0, zx_50_0, zx_52_0, zx_52_1, zx_52_2, zx_56_0, zx_56_1, zx_56_2, zx_57_0, zx_59_0, zx_80_3, zx_80_4, zx_80_5, zx_81_0, zx_81_1, zx_81_2, zx_81_3, zx_81_4, zx_81_5, zx_88_0, zx_88_1, zx_88_2, zx_93_3, zx_93_4, zx_93_5, zx_94_0, zx_94_1, zx_94_2, zx_94_3, zx_94_4, zx_94_5, zx_101_0, zx_101_1, zx_101_2, zx_106_0, zx_106_1, zx_106_2, zx_110_0, zx_110_1, zx_110_2, zx_114_0, zx_114_1, zx_114_2, zgI_9, zsI_9, zgI_16, zsI_16, zgI_18, zsI_18, zgI_21, zsI_21, zgI_22, zsI_22, zgI_23, zsI_23, zgI_24, zsI_24, zgI_25, zsI_25, zgI_26, zsI_26, zgI_27, zsI_27, zgI_28, zsI_28, zgI_29, zsI_29, zgI_47, zsI_47, zgI_49, zsI_49, zgI_51, zsI_51, zgI_53, zsI_53, zgI_54, zsI_54, zgI_55, zsI_55, zgI_58, zsI_58, zgI_76, zsI_76, zgI_79, zsI_79, zb_88_98, c2, hcu2, e5, e3]
                have ih := ih σ3
                rw [zspls_take hk] at ih
                exact ih ⟨w3, hK2.tr hK3⟩
              · rw [List.take_length] at hI
                exact hQ σ2 hI.1 hI.2
          have mpre : ∀ σ1, zMm σ1 R T K G ds ks → ∀ Q : zm_Out → Prop, (∀ σ2, zMW σ2 (zspls G (ztree G (zrun G ds).1) l) → zKeep zFMy σ1 σ2 → zW 232 (67, [(0, .ref 118), (1, .int (nI r)), (2, .int (nI t)), (3, .int (nI l.length))], [], zL, σ2, 0, 0) Q) → zS 232 [.ref 118, .int (nI r), .int (nI t)] σ1 Q := by
            intro σ1 hM1 Q hQ
            obtain ⟨hF1, hR1, hT1, hKm, gG, gN, gB, gd, gb, gk, gp⟩ := id hM1
            obtain ⟨g1, g2, g3⟩ := (hR1 r hr).2 l e
            have gp4 := gG.1
            have gs := gN.1
            obtain ⟨mn1, mn2⟩ := mnum σ1 hM1
            rw [zB_t hall] at mn1 mn2
            obtain ⟨w0, hK0⟩ := zMW_clear σ1
            have loop : zW 232 (67, [(0, .ref 118), (1, .int (nI r)), (2, .int (nI t)), (3, .int (nI 0))], [], zL, zm_wI σ1 118 40 (nI 0), 0, 0) Q := by
              refine zloop (fun k σ2 => (67, [(0, .ref 118), (1, .int (nI r)), (2, .int (nI t)), (3, .int (nI k))], [], zL, σ2, 0, 0)) (fun k σ2 => zMW σ2 (zspls G (ztree G (zrun G ds).1) (l.take k)) ∧ zKeep zFMy σ1 σ2) l.length (fun k σ2 hk hI ih => ?_) (fun σ2 hI => ?_) 0 _ (by omega) ⟨w0, zFM_y hK0⟩
              · obtain ⟨w2, hK2⟩ := hI
                have h0 := hp0 (by omega)
                obtain ⟨hTi, hal, -⟩ := hV.tr h0 (zrun G ds).1
                have hM2 := hM1.scr hV (zFMy_msc hK2)
                obtain ⟨hF2, hR2, -, -, gG2, gN2, -, -, -, -, gp2⟩ := id hM2
                obtain ⟨q1, q2, q3⟩ := (hR2 r hr).2 l e
                have q3 := q3 k hk
                have hlk := hlen k (by omega)
                obtain ⟨σ3, e3, w3, hK3⟩ := m_spells hF2 gG2 hv gN2 (gp2 h0) hTi hal (hall k hk) w2 (by omega)
                refine zW_of zg_232_67 ?_
                simp (disch := first | assumption | omega) only [zn0, zn1, Option.bind_some, zm_ai, zm_al, zm_av, zm_opt, zm_fw, zE_l, zE_r, nI_add, pk_mul, pk_sub, pk_div, pk_rem, zrem, zpm1, zB_i0, zB_i1, zB_ok, zB_T, zB_F, nI_toInt, zT_sub, zT_neg, zT_le, zT_lt, nI_eq, zne1, zne2, zne9, ite_not, or_true, true_or, if_true, if_false, if_pos, if_neg, zw_R, zw_RL, zw_I, zF_R, zw_same, zw_cell, zw_ne, zF_at, zF_ne, zi_118, zx_118_0, zx_118_1, zx_118_2, zx_118_3, zx_118_7, zx_118_8, zx_118_9, zx_118_10, zx_118_11, zx_118_12, zx_118_13, zx_118_14, zx_118_15, zx_118_17, zx_118_18, zx_118_19, zx_118_21, zx_118_22, zx_118_24, zx_118_25, zx_118_30, zx_118_35, zx_118_36, zx_118_37, zx_118_38, zx_118_39, zx_118_41, zx_118_42, zx_118_44, zx_118_45, zx_118_46, zgI_119, zsI_119, zgI_120, zsI_120, zgI_121, zsI_121, zgI_122, zsI_122, zgI_123, zsI_123, zgI_124, zsI_124, zgI_125, zsI_125, zgI_126, zsI_126, zgI_127, zsI_127, zgI_128, zsI_128, zgI_129, zsI_129, zgI_130, zsI_130, zgI_131, zsI_131, zgI_132, zsI_132, zgI_133, zsI_133, zgI_134, zsI_134, zgI_135, zsI_135, zgI_136, zsI_136, zgI_137, zsI_137, zgI_139, zsI_139, zgI_140, zsI_140, zgI_141, zsI_141, zgI_142, zsI_142, zgI_143, zsI_143, zgI_144, zsI_144, zgI_145, zsI_145, zgI_146, zsI_146, zgI_147, zsI_147, zb_232_67, q2, q3, e3]
                have ih := ih σ3
                rw [zspls_take hk] at ih
                exact ih ⟨w3, hK2.tr hK3⟩
              · rw [List.take_length] at hI
                exact hQ σ2 hI.1 hI.2
            refine zS_of ze_232 ?_
            by_cases z : G.1 = 0
            · have mn := mn1 z
              rw [z] at gp4
              simp (disch := first | assumption | omega) only [zn0, zn1, Option.bind_some, zm_ai, zm_al, zm_av, zm_opt, zm_fw, zE_l, zE_r, nI_add, pk_mul, pk_sub, pk_div, pk_rem, zrem, zpm1, zB_i0, zB_i1, zB_ok, zB_T, zB_F, nI_toInt, zT_sub, zT_neg, zT_le, zT_lt, nI_eq, zne1, zne2, zne9, ite_not, or_true, true_or, if_true, if_false, if_pos, if_neg, zw_R, zw_RL, zw_I, zF_R, zw_same, zw_cell, zw_ne, zF_at, zF_ne, zi_118, zx_118_0, zx_118_1, zx_118_2, zx_118_3, zx_118_7, zx_118_8, zx_118_9, zx_118_10, zx_118_11, zx_118_12, zx_118_13, zx_118_14, zx_118_15, zx_118_17, zx_118_18, zx_118_19, zx_118_21, zx_118_22, zx_118_24, zx_118_25, zx_118_30, zx_118_35, zx_118_36, zx_118_37, zx_118_38, zx_118_39, zx_118_41, zx_118_42, zx_118_44, zx_118_45, zx_118_46, zgI_119, zsI_119, zgI_120, zsI_120, zgI_121, zsI_121, zgI_122, zsI_122, zgI_123, zsI_123, zgI_124, zsI_124, zgI_125, zsI_125, zgI_126, zsI_126, zgI_127, zsI_127, zgI_128, zsI_128, zgI_129, zsI_129, zgI_130, zsI_130, zgI_131, zsI_131, zgI_132, zsI_132, zgI_133, zsI_133, zgI_134, zsI_134, zgI_135, zsI_135, zgI_136, zsI_136, zgI_137, zsI_137, zgI_139, zsI_139, zgI_140, zsI_140, zgI_141, zsI_141, zgI_142, zsI_142, zgI_143, zsI_143, zgI_144, zsI_144, zgI_145, zsI_145, zgI_146, zsI_146, zgI_147, zsI_147, zb_232_0, m_ir_t, not_false, not_true, g2, gp4, mn]
              exact loop
            · have mn := mn2 (by omega)
              simp (disch := first | assumption | omega) only [zn0, zn1, Option.bind_some, zm_ai, zm_al, zm_av, zm_opt, zm_fw, zE_l, zE_r, nI_add, pk_mul, pk_sub, pk_div, pk_rem, zrem, zpm1, zB_i0, zB_i1, zB_ok, zB_T, zB_F, nI_toInt, zT_sub, zT_neg, zT_le, zT_lt, nI_eq, zne1, zne2, zne9, ite_not, or_true, true_or, if_true, if_false, if_pos, if_neg, zw_R, zw_RL, zw_I, zF_R, zw_same, zw_cell, zw_ne, zF_at, zF_ne, zi_118, zx_118_0, zx_118_1, zx_118_2, zx_118_3, zx_118_7, zx_118_8, zx_118_9, zx_118_10, zx_118_11, zx_118_12, zx_118_13, zx_118_14, zx_118_15, zx_118_17, zx_118_18, zx_118_19, zx_118_21, zx_118_22, zx_118_24, zx_118_25, zx_118_30, zx_118_35, zx_118_36, zx_118_37, zx_118_38, zx_118_39, zx_118_41, zx_118_42, zx_118_44, zx_118_45, zx_118_46, zgI_119, zsI_119, zgI_120, zsI_120, zgI_121, zsI_121, zgI_122, zsI_122, zgI_123, zsI_123, zgI_124, zsI_124, zgI_125, zsI_125, zgI_126, zsI_126, zgI_127, zsI_127, zgI_128, zsI_128, zgI_129, zsI_129, zgI_130, zsI_130, zgI_131, zsI_131, zgI_132, zsI_132, zgI_133, zsI_133, zgI_134, zsI_134, zgI_135, zsI_135, zgI_136, zsI_136, zgI_137, zsI_137, zgI_139, zsI_139, zgI_140, zsI_140, zgI_141, zsI_141, zgI_142, zsI_142, zgI_143, zsI_143, zgI_144, zsI_144, zgI_145, zsI_145, zgI_146, zsI_146, zgI_147, zsI_147, zb_232_0, m_ir_t, not_false, g2, gp4, gs, mn]
              exact loop
          have hll := hlen l.length (Nat.le_refl _)
          rw [List.take_length] at hll
          by_cases hs : (zspls G (ztree G (zrun G ds).1) l).length ≤ 40
          · refine zCallV.of hV hV hM (v := .int (nI (zspls G (ztree G (zrun G ds).1) l).length)) (a' := a) (R' := zRs R t (some (zspls G (ztree G (zrun G ds).1) l))) (T' := T) (K' := K) ?_ fun σ1 hM1 => ?_
            · refine zS_ex (pre _ fun σ2 w2 hK2 => ?_)
              have hC2 := hC.scr hV (zFWy_scr zw57 hK2)
              have hF2 := hC2.1
              have c2 := c_sz zS1 hF2 hC2.2.1 hr e
              have s2 := w2.1
              obtain ⟨σ3, e3, r3, hK3⟩ := c_hand hF2 hC2.2.1 w2 hs ht
              refine zW_of zg_88_98 ?_
              simp (disch := first | assumption | omega) only [zn0, zn1, Option.bind_some, zm_ai, zm_al, zm_av, zm_opt, zm_fw, zE_l, zE_r, nI_add, pk_mul, pk_sub, pk_div, pk_rem, zrem, zpm1, zB_i0, zB_i1, zB_ok, zB_T, zB_F, nI_toInt, zT_sub, zT_neg, zT_le, zT_lt, nI_eq, zne1, zne2, zne9, ite_not, or_true, true_or, if_true, if_false, if_pos, if_neg, zw_R, zw_RL, zw_I, zF_R, zw_same, zw_cell, zw_ne, zF_at, zF_ne, zi_0, zi_1, zi_10, zi_17, zi_19, zi_20, zi_30, zi_48, zi_50, zi_52, zi_57, zi_59, zi_80, zi_93, zi_106, zi_110, zi_114, zx_0_0, zx_0_1, zx_0_2, zx_0_3, zx_0_4, zx_0_5, zx_0_6, zx_0_7, zx_0_8, zx_0_9, zx_0_10, zx_1_0, zx_1_1, zx_2_0, zx_2_1, zx_2_2, zx_2_3, zx_2_4, zx_2_5, zx_10_0, zx_10_1, zx_11_0, zx_11_1, zx_11_2, zx_11_3, zx_17_0, zx_19_0, zx_19_1, zx_19_2, zx_20_0, zx_20_1, zx_20_3, zx_20_4, zx_20_5, zx_20_6, zx_20_7, zx_20_8, zx_20_9, zx_30_0, zx_30_1, zx_30_4, zx_30_5, zx_48_0, zx_50_0, zx_52_0, zx_52_1, zx_52_2, zx_56_0, zx_56_1, zx_56_2, zx_57_0, zx_59_0, zx_80_3, zx_80_4, zx_80_5, zx_81_0, zx_81_1, zx_81_2, zx_81_3, zx_81_4, zx_81_5, zx_88_0, zx_88_1, zx_88_2, zx_93_3, zx_93_4, zx_93_5, zx_94_0, zx_94_1, zx_94_2, zx_94_3, zx_94_4, zx_94_5, zx_101_0, zx_101_1, zx_101_2, zx_106_0, zx_106_1, zx_106_2, zx_110_0, zx_110_1, zx_110_2, zx_114_0, zx_114_1, zx_114_2, zgI_9, zsI_9, zgI_16, zsI_16, zgI_18, zsI_18, zgI_21, zsI_21, zgI_22, zsI_22, zgI_23, zsI_23, zgI_24, zsI_24, zgI_25, zsI_25, zgI_26, zsI_26, zgI_27, zsI_27, zgI_28, zsI_28, zgI_29, zsI_29, zgI_47, zsI_47, zgI_49, zsI_49, zgI_51, zsI_51, zgI_53, zsI_53, zgI_54, zsI_54, zgI_55, zsI_55, zgI_58, zsI_58, zgI_76, zsI_76, zgI_79, zsI_79, zb_88_98, c2, s2, e3]
              exact ⟨σ3, rfl, hC2.rowsTo hV hK3 r3, (zScr_cls (zFWy_scr zw57 hK2)).tr (zFr_cls hK3)⟩
            · refine zS_ex (mpre σ1 hM1 _ fun σ2 w2 hK2 => ?_)
              have hM2 := hM1.scr hV (zFMy_msc hK2)
              have hF2 := hM2.1
              obtain ⟨q1, q2, q3⟩ := (hM2.2.1 r hr).2 l e
              have s2 := w2.1
              obtain ⟨σ3, e3, r3, hK3⟩ := m_wordTo hF2 hM2.2.1 w2 hs ht
              have s3 := (w2.keep hK3 rfl (fun k => rfl)).1
              refine zW_of zg_232_67 ?_
              simp (disch := first | assumption | omega) only [zn0, zn1, Option.bind_some, zm_ai, zm_al, zm_av, zm_opt, zm_fw, zE_l, zE_r, nI_add, pk_mul, pk_sub, pk_div, pk_rem, zrem, zpm1, zB_i0, zB_i1, zB_ok, zB_T, zB_F, nI_toInt, zT_sub, zT_neg, zT_le, zT_lt, nI_eq, zne1, zne2, zne9, ite_not, or_true, true_or, if_true, if_false, if_pos, if_neg, zw_R, zw_RL, zw_I, zF_R, zw_same, zw_cell, zw_ne, zF_at, zF_ne, zi_118, zx_118_0, zx_118_1, zx_118_2, zx_118_3, zx_118_7, zx_118_8, zx_118_9, zx_118_10, zx_118_11, zx_118_12, zx_118_13, zx_118_14, zx_118_15, zx_118_17, zx_118_18, zx_118_19, zx_118_21, zx_118_22, zx_118_24, zx_118_25, zx_118_30, zx_118_35, zx_118_36, zx_118_37, zx_118_38, zx_118_39, zx_118_41, zx_118_42, zx_118_44, zx_118_45, zx_118_46, zgI_119, zsI_119, zgI_120, zsI_120, zgI_121, zsI_121, zgI_122, zsI_122, zgI_123, zsI_123, zgI_124, zsI_124, zgI_125, zsI_125, zgI_126, zsI_126, zgI_127, zsI_127, zgI_128, zsI_128, zgI_129, zsI_129, zgI_130, zsI_130, zgI_131, zsI_131, zgI_132, zsI_132, zgI_133, zsI_133, zgI_134, zsI_134, zgI_135, zsI_135, zgI_136, zsI_136, zgI_137, zsI_137, zgI_139, zsI_139, zgI_140, zsI_140, zgI_141, zsI_141, zgI_142, zsI_142, zgI_143, zsI_143, zgI_144, zsI_144, zgI_145, zsI_145, zgI_146, zsI_146, zgI_147, zsI_147, zb_232_67, q2, s2, e3, s3]
              exact ⟨σ3, rfl, hM2.rowsTo hV hK3 r3, (zMsc_rfs (zFMy_msc hK2)).tr (zFmr_rfs hK3)⟩
          · refine zCallV.of hV hV hM (v := .int (-6)) (a' := a) (R' := R) (T' := T) (K' := K) ?_ fun σ1 hM1 => ?_
            · refine zS_ex (pre _ fun σ2 w2 hK2 => ?_)
              have hC2 := hC.scr hV (zFWy_scr zw57 hK2)
              have hF2 := hC2.1
              have c2 := c_sz zS1 hF2 hC2.2.1 hr e
              have s2 := w2.1
              refine zW_of zg_88_98 ?_
              simp (disch := first | assumption | omega) only [zn0, zn1, Option.bind_some, zm_ai, zm_al, zm_av, zm_opt, zm_fw, zE_l, zE_r, nI_add, pk_mul, pk_sub, pk_div, pk_rem, zrem, zpm1, zB_i0, zB_i1, zB_ok, zB_T, zB_F, nI_toInt, zT_sub, zT_neg, zT_le, zT_lt, nI_eq, zne1, zne2, zne9, ite_not, or_true, true_or, if_true, if_false, if_pos, if_neg, zw_R, zw_RL, zw_I, zF_R, zw_same, zw_cell, zw_ne, zF_at, zF_ne, zi_0, zi_1, zi_10, zi_17, zi_19, zi_20, zi_30, zi_48, zi_50, zi_52, zi_57, zi_59, zi_80, zi_93, zi_106, zi_110, zi_114, zx_0_0, zx_0_1, zx_0_2, zx_0_3, zx_0_4, zx_0_5, zx_0_6, zx_0_7, zx_0_8, zx_0_9, zx_0_10, zx_1_0, zx_1_1, zx_2_0, zx_2_1, zx_2_2, zx_2_3, zx_2_4, zx_2_5, zx_10_0, zx_10_1, zx_11_0, zx_11_1, zx_11_2, zx_11_3, zx_17_0, zx_19_0, zx_19_1, zx_19_2, zx_20_0, zx_20_1, zx_20_3, zx_20_4, zx_20_5, zx_20_6, zx_20_7, zx_20_8, zx_20_9, zx_30_0, zx_30_1, zx_30_4, zx_30_5, zx_48_0, zx_50_0, zx_52_0, zx_52_1, zx_52_2, zx_56_0, zx_56_1, zx_56_2, zx_57_0, zx_59_0, zx_80_3, zx_80_4, zx_80_5, zx_81_0, zx_81_1, zx_81_2, zx_81_3, zx_81_4, zx_81_5, zx_88_0, zx_88_1, zx_88_2, zx_93_3, zx_93_4, zx_93_5, zx_94_0, zx_94_1, zx_94_2, zx_94_3, zx_94_4, zx_94_5, zx_101_0, zx_101_1, zx_101_2, zx_106_0, zx_106_1, zx_106_2, zx_110_0, zx_110_1, zx_110_2, zx_114_0, zx_114_1, zx_114_2, zgI_9, zsI_9, zgI_16, zsI_16, zgI_18, zsI_18, zgI_21, zsI_21, zgI_22, zsI_22, zgI_23, zsI_23, zgI_24, zsI_24, zgI_25, zsI_25, zgI_26, zsI_26, zgI_27, zsI_27, zgI_28, zsI_28, zgI_29, zsI_29, zgI_47, zsI_47, zgI_49, zsI_49, zgI_51, zsI_51, zgI_53, zsI_53, zgI_54, zsI_54, zgI_55, zsI_55, zgI_58, zsI_58, zgI_76, zsI_76, zgI_79, zsI_79, zb_88_98, c2, s2]
              exact ⟨σ2, rfl, hC2, zScr_cls (zFWy_scr zw57 hK2)⟩
            · refine zS_ex (mpre σ1 hM1 _ fun σ2 w2 hK2 => ?_)
              have hM2 := hM1.scr hV (zFMy_msc hK2)
              have hF2 := hM2.1
              obtain ⟨q1, q2, q3⟩ := (hM2.2.1 r hr).2 l e
              have s2 := w2.1
              refine zW_of zg_232_67 ?_
              simp (disch := first | assumption | omega) only [zn0, zn1, Option.bind_some, zm_ai, zm_al, zm_av, zm_opt, zm_fw, zE_l, zE_r, nI_add, pk_mul, pk_sub, pk_div, pk_rem, zrem, zpm1, zB_i0, zB_i1, zB_ok, zB_T, zB_F, nI_toInt, zT_sub, zT_neg, zT_le, zT_lt, nI_eq, zne1, zne2, zne9, ite_not, or_true, true_or, if_true, if_false, if_pos, if_neg, zw_R, zw_RL, zw_I, zF_R, zw_same, zw_cell, zw_ne, zF_at, zF_ne, zi_118, zx_118_0, zx_118_1, zx_118_2, zx_118_3, zx_118_7, zx_118_8, zx_118_9, zx_118_10, zx_118_11, zx_118_12, zx_118_13, zx_118_14, zx_118_15, zx_118_17, zx_118_18, zx_118_19, zx_118_21, zx_118_22, zx_118_24, zx_118_25, zx_118_30, zx_118_35, zx_118_36, zx_118_37, zx_118_38, zx_118_39, zx_118_41, zx_118_42, zx_118_44, zx_118_45, zx_118_46, zgI_119, zsI_119, zgI_120, zsI_120, zgI_121, zsI_121, zgI_122, zsI_122, zgI_123, zsI_123, zgI_124, zsI_124, zgI_125, zsI_125, zgI_126, zsI_126, zgI_127, zsI_127, zgI_128, zsI_128, zgI_129, zsI_129, zgI_130, zsI_130, zgI_131, zsI_131, zgI_132, zsI_132, zgI_133, zsI_133, zgI_134, zsI_134, zgI_135, zsI_135, zgI_136, zsI_136, zgI_137, zsI_137, zgI_139, zsI_139, zgI_140, zsI_140, zgI_141, zsI_141, zgI_142, zsI_142, zgI_143, zsI_143, zgI_144, zsI_144, zgI_145, zsI_145, zgI_146, zsI_146, zgI_147, zsI_147, zb_232_67, q2, s2]
              exact ⟨σ2, rfl, hM2, zMsc_rfs (zFMy_msc hK2)⟩
        · refine zCallV.of hV hV hM (v := .int (-3)) (zCo.found hC hV (f := 3) (by decide) (zS_eq (zS_of ze_88 ?_))) fun σ1 hM1 => zMo.found hM1 hV (by decide) (zS_eq (zS_of ze_232 ?_))
          · have hex : ∃ j, j < l.length ∧ ¬ zLt (zsn G (ztree G (zrun G ds).1)) (zat l j) := Classical.byContradiction fun q => hall fun j hj => Classical.byContradiction fun z => q ⟨j, hj, z⟩
            obtain ⟨j, hj, hbad, hgood⟩ := zleast hex
            have e1 := c_found hF (f := 3) (by decide)
            simp (disch := first | assumption | omega) only [zn0, zn1, Option.bind_some, zm_ai, zm_al, zm_av, zm_opt, zm_fw, zE_l, zE_r, nI_add, pk_mul, pk_sub, pk_div, pk_rem, zrem, zpm1, zB_i0, zB_i1, zB_ok, zB_T, zB_F, nI_toInt, zT_sub, zT_neg, zT_le, zT_lt, nI_eq, zne1, zne2, zne9, ite_not, or_true, true_or, if_true, if_false, if_pos, if_neg, zw_R, zw_RL, zw_I, zF_R, zw_same, zw_cell, zw_ne, zF_at, zF_ne, zi_0, zi_1, zi_10, zi_17, zi_19, zi_20, zi_30, zi_48, zi_50, zi_52, zi_57, zi_59, zi_80, zi_93, zi_106, zi_110, zi_114, zx_0_0, zx_0_1, zx_0_2, zx_0_3, zx_0_4, zx_0_5, zx_0_6, zx_0_7, zx_0_8, zx_0_9, zx_0_10, zx_1_0, zx_1_1, zx_2_0, zx_2_1, zx_2_2, zx_2_3, zx_2_4, zx_2_5, zx_10_0, zx_10_1, zx_11_0, zx_11_1, zx_11_2, zx_11_3, zx_17_0, zx_19_0, zx_19_1, zx_19_2, zx_20_0, zx_20_1, zx_20_3, zx_20_4, zx_20_5, zx_20_6, zx_20_7, zx_20_8, zx_20_9, zx_30_0, zx_30_1, zx_30_4, zx_30_5, zx_48_0, zx_50_0, zx_52_0, zx_52_1, zx_52_2, zx_56_0, zx_56_1, zx_56_2, zx_57_0, zx_59_0, zx_80_3, zx_80_4, zx_80_5, zx_81_0, zx_81_1, zx_81_2, zx_81_3, zx_81_4, zx_81_5, zx_88_0, zx_88_1, zx_88_2, zx_93_3, zx_93_4, zx_93_5, zx_94_0, zx_94_1, zx_94_2, zx_94_3, zx_94_4, zx_94_5, zx_101_0, zx_101_1, zx_101_2, zx_106_0, zx_106_1, zx_106_2, zx_110_0, zx_110_1, zx_110_2, zx_114_0, zx_114_1, zx_114_2, zgI_9, zsI_9, zgI_16, zsI_16, zgI_18, zsI_18, zgI_21, zsI_21, zgI_22, zsI_22, zgI_23, zsI_23, zgI_24, zsI_24, zgI_25, zsI_25, zgI_26, zsI_26, zgI_27, zsI_27, zgI_28, zsI_28, zgI_29, zsI_29, zgI_47, zsI_47, zgI_49, zsI_49, zgI_51, zsI_51, zgI_53, zsI_53, zgI_54, zsI_54, zgI_55, zsI_55, zgI_58, zsI_58, zgI_76, zsI_76, zgI_79, zsI_79, zb_88_0, c_no_t zS1, not_false, c_ms_f zS1 hF hR hr e]
            refine zloopP (fun k => (43, [(0, .ref 0), (1, .int (nI r)), (2, .int (nI t)), (3, .int (nI k))], [], zL, σ, 0, 0)) (fun _ => True) j (fun k hk _ ih => ?_) (fun _ => ?_) trivial
            · have ih := ih trivial
              have hlt := Classical.not_not.mp (hgood k hk)
              have e5 := c_rd zS1 hF hR hr e (show k < l.length by omega)
              refine zW_of zg_88_43 ?_
              simp (disch := first | assumption | omega) only [zn0, zn1, Option.bind_some, zm_ai, zm_al, zm_av, zm_opt, zm_fw, zE_l, zE_r, nI_add, pk_mul, pk_sub, pk_div, pk_rem, zrem, zpm1, zB_i0, zB_i1, zB_ok, zB_T, zB_F, nI_toInt, zT_sub, zT_neg, zT_le, zT_lt, nI_eq, zne1, zne2, zne9, ite_not, or_true, true_or, if_true, if_false, if_pos, if_neg, zw_R, zw_RL, zw_I, zF_R, zw_same, zw_cell, zw_ne, zF_at, zF_ne, zi_0, zi_1, zi_10, zi_17, zi_19, zi_20, zi_30, zi_48, zi_50, zi_52, zi_57, zi_59, zi_80, zi_93, zi_106, zi_110, zi_114, zx_0_0, zx_0_1, zx_0_2, zx_0_3, zx_0_4, zx_0_5, zx_0_6, zx_0_7, zx_0_8, zx_0_9, zx_0_10, zx_1_0, zx_1_1, zx_2_0, zx_2_1, zx_2_2, zx_2_3, zx_2_4, zx_2_5, zx_10_0, zx_10_1, zx_11_0, zx_11_1, zx_11_2, zx_11_3, zx_17_0, zx_19_0, zx_19_1, zx_19_2, zx_20_0, zx_20_1, zx_20_3, zx_20_4, zx_20_5, zx_20_6, zx_20_7, zx_20_8, zx_20_9, zx_30_0, zx_30_1, zx_30_4, zx_30_5, zx_48_0, zx_50_0, zx_52_0, zx_52_1, zx_52_2, zx_56_0, zx_56_1, zx_56_2, zx_57_0, zx_59_0, zx_80_3, zx_80_4, zx_80_5, zx_81_0, zx_81_1, zx_81_2, zx_81_3, zx_81_4, zx_81_5, zx_88_0, zx_88_1, zx_88_2, zx_93_3, zx_93_4, zx_93_5, zx_94_0, zx_94_1, zx_94_2, zx_94_3, zx_94_4, zx_94_5, zx_101_0, zx_101_1, zx_101_2, zx_106_0, zx_106_1, zx_106_2, zx_110_0, zx_110_1, zx_110_2, zx_114_0, zx_114_1, zx_114_2, zgI_9, zsI_9, zgI_16, zsI_16, zgI_18, zsI_18, zgI_21, zsI_21, zgI_22, zsI_22, zgI_23, zsI_23, zgI_24, zsI_24, zgI_25, zsI_25, zgI_26, zsI_26, zgI_27, zsI_27, zgI_28, zsI_28, zgI_29, zsI_29, zgI_47, zsI_47, zgI_49, zsI_49, zgI_51, zsI_51, zgI_53, zsI_53, zgI_54, zsI_54, zgI_55, zsI_55, zgI_58, zsI_58, zgI_76, zsI_76, zgI_79, zsI_79, zb_88_43, c1, e5, c_isSigned hv hN, not_false]
              exact ih
            · have e5 := c_rd zS1 hF hR hr e hj
              refine zW_of zg_88_43 ?_
              simp (disch := first | assumption | omega) only [zn0, zn1, Option.bind_some, zm_ai, zm_al, zm_av, zm_opt, zm_fw, zE_l, zE_r, nI_add, pk_mul, pk_sub, pk_div, pk_rem, zrem, zpm1, zB_i0, zB_i1, zB_ok, zB_T, zB_F, nI_toInt, zT_sub, zT_neg, zT_le, zT_lt, nI_eq, zne1, zne2, zne9, ite_not, or_true, true_or, if_true, if_false, if_pos, if_neg, zw_R, zw_RL, zw_I, zF_R, zw_same, zw_cell, zw_ne, zF_at, zF_ne, zi_0, zi_1, zi_10, zi_17, zi_19, zi_20, zi_30, zi_48, zi_50, zi_52, zi_57, zi_59, zi_80, zi_93, zi_106, zi_110, zi_114, zx_0_0, zx_0_1, zx_0_2, zx_0_3, zx_0_4, zx_0_5, zx_0_6, zx_0_7, zx_0_8, zx_0_9, zx_0_10, zx_1_0, zx_1_1, zx_2_0, zx_2_1, zx_2_2, zx_2_3, zx_2_4, zx_2_5, zx_10_0, zx_10_1, zx_11_0, zx_11_1, zx_11_2, zx_11_3, zx_17_0, zx_19_0, zx_19_1, zx_19_2, zx_20_0, zx_20_1, zx_20_3, zx_20_4, zx_20_5, zx_20_6, zx_20_7, zx_20_8, zx_20_9, zx_30_0, zx_30_1, zx_30_4, zx_30_5, zx_48_0, zx_50_0, zx_52_0, zx_52_1, zx_52_2, zx_56_0, zx_56_1, zx_56_2, zx_57_0, zx_59_0, zx_80_3, zx_80_4, zx_80_5, zx_81_0, zx_81_1, zx_81_2, zx_81_3, zx_81_4, zx_81_5, zx_88_0, zx_88_1, zx_88_2, zx_93_3, zx_93_4, zx_93_5, zx_94_0, zx_94_1, zx_94_2, zx_94_3, zx_94_4, zx_94_5, zx_101_0, zx_101_1, zx_101_2, zx_106_0, zx_106_1, zx_106_2, zx_110_0, zx_110_1, zx_110_2, zx_114_0, zx_114_1, zx_114_2, zgI_9, zsI_9, zgI_16, zsI_16, zgI_18, zsI_18, zgI_21, zsI_21, zgI_22, zsI_22, zgI_23, zsI_23, zgI_24, zsI_24, zgI_25, zsI_25, zgI_26, zsI_26, zgI_27, zsI_27, zgI_28, zsI_28, zgI_29, zsI_29, zgI_47, zsI_47, zgI_49, zsI_49, zgI_51, zsI_51, zgI_53, zsI_53, zgI_54, zsI_54, zgI_55, zsI_55, zgI_58, zsI_58, zgI_76, zsI_76, zgI_79, zsI_79, zb_88_43, c1, e5, c_isSigned hv hN, not_false, e1]
          · obtain ⟨hF1, hR1, hT1, hKm, gG, gN, gB, gd, gb, gk, gp⟩ := id hM1
            obtain ⟨g1, g2, g3⟩ := (hR1 r hr).2 l e
            have gp4 := gG.1
            have gs := gN.1
            obtain ⟨mn1, mn2⟩ := mnum σ1 hM1
            rw [zB_f hall] at mn1 mn2
            have e2 := m_found hF1 (f := 3) (by decide)
            by_cases z : G.1 = 0
            · have mn := mn1 z
              rw [z] at gp4
              simp (disch := first | assumption | omega) only [zn0, zn1, Option.bind_some, zm_ai, zm_al, zm_av, zm_opt, zm_fw, zE_l, zE_r, nI_add, pk_mul, pk_sub, pk_div, pk_rem, zrem, zpm1, zB_i0, zB_i1, zB_ok, zB_T, zB_F, nI_toInt, zT_sub, zT_neg, zT_le, zT_lt, nI_eq, zne1, zne2, zne9, ite_not, or_true, true_or, if_true, if_false, if_pos, if_neg, zw_R, zw_RL, zw_I, zF_R, zw_same, zw_cell, zw_ne, zF_at, zF_ne, zi_118, zx_118_0, zx_118_1, zx_118_2, zx_118_3, zx_118_7, zx_118_8, zx_118_9, zx_118_10, zx_118_11, zx_118_12, zx_118_13, zx_118_14, zx_118_15, zx_118_17, zx_118_18, zx_118_19, zx_118_21, zx_118_22, zx_118_24, zx_118_25, zx_118_30, zx_118_35, zx_118_36, zx_118_37, zx_118_38, zx_118_39, zx_118_41, zx_118_42, zx_118_44, zx_118_45, zx_118_46, zgI_119, zsI_119, zgI_120, zsI_120, zgI_121, zsI_121, zgI_122, zsI_122, zgI_123, zsI_123, zgI_124, zsI_124, zgI_125, zsI_125, zgI_126, zsI_126, zgI_127, zsI_127, zgI_128, zsI_128, zgI_129, zsI_129, zgI_130, zsI_130, zgI_131, zsI_131, zgI_132, zsI_132, zgI_133, zsI_133, zgI_134, zsI_134, zgI_135, zsI_135, zgI_136, zsI_136, zgI_137, zsI_137, zgI_139, zsI_139, zgI_140, zsI_140, zgI_141, zsI_141, zgI_142, zsI_142, zgI_143, zsI_143, zgI_144, zsI_144, zgI_145, zsI_145, zgI_146, zsI_146, zgI_147, zsI_147, zb_232_0, m_ir_t, not_false, not_true, g2, gp4, mn, e2]
            · have mn := mn2 (by omega)
              simp (disch := first | assumption | omega) only [zn0, zn1, Option.bind_some, zm_ai, zm_al, zm_av, zm_opt, zm_fw, zE_l, zE_r, nI_add, pk_mul, pk_sub, pk_div, pk_rem, zrem, zpm1, zB_i0, zB_i1, zB_ok, zB_T, zB_F, nI_toInt, zT_sub, zT_neg, zT_le, zT_lt, nI_eq, zne1, zne2, zne9, ite_not, or_true, true_or, if_true, if_false, if_pos, if_neg, zw_R, zw_RL, zw_I, zF_R, zw_same, zw_cell, zw_ne, zF_at, zF_ne, zi_118, zx_118_0, zx_118_1, zx_118_2, zx_118_3, zx_118_7, zx_118_8, zx_118_9, zx_118_10, zx_118_11, zx_118_12, zx_118_13, zx_118_14, zx_118_15, zx_118_17, zx_118_18, zx_118_19, zx_118_21, zx_118_22, zx_118_24, zx_118_25, zx_118_30, zx_118_35, zx_118_36, zx_118_37, zx_118_38, zx_118_39, zx_118_41, zx_118_42, zx_118_44, zx_118_45, zx_118_46, zgI_119, zsI_119, zgI_120, zsI_120, zgI_121, zsI_121, zgI_122, zsI_122, zgI_123, zsI_123, zgI_124, zsI_124, zgI_125, zsI_125, zgI_126, zsI_126, zgI_127, zsI_127, zgI_128, zsI_128, zgI_129, zsI_129, zgI_130, zsI_130, zgI_131, zsI_131, zgI_132, zsI_132, zgI_133, zsI_133, zgI_134, zsI_134, zgI_135, zsI_135, zgI_136, zsI_136, zgI_137, zsI_137, zgI_139, zsI_139, zgI_140, zsI_140, zgI_141, zsI_141, zgI_142, zsI_142, zgI_143, zsI_143, zgI_144, zsI_144, zgI_145, zsI_145, zgI_146, zsI_146, zgI_147, zsI_147, zb_232_0, m_ir_t, not_false, not_true, g2, gp4, gs, mn, e2]
end ZSP
