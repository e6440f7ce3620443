/-! ways, words written and spelt: what class and reference make of them -/
def zwy (t : zT) : Nat → Nat → List Int32
  | 0, _ => []
  | d + 1, p => zwy t d (zpar t p) ++ [t.2.2.2.1 p]
def zway (t : zT) (p : Nat) : List Int32 := zwy t (t.2.2.2.2.1 p) p
theorem zwy_len (t : zT) : ∀ d p, (zwy t d p).length = d
  | 0, _ => rfl
  | d + 1, p => by
    show (zwy t d (zpar t p) ++ [t.2.2.2.1 p]).length = d + 1
    rw [List.length_append, zwy_len t d]
    rfl
theorem zway_len (t : zT) (p : Nat) : (zway t p).length = t.2.2.2.2.1 p := zwy_len t _ p
section ZWY
variable {σ σ' : zm_Sig} {a : Nat} {G : zG} {t : zT} {p o : Nat}
theorem zTi.ind (hv : zGv G) (h : zTi G t) {P : Nat → Prop} (h0 : P 0) (hs : ∀ p, zMet t p → p ≠ 0 → P (zpar t p) → P p) : ∀ p, zMet t p → P p := by
  have key : ∀ d p, zMet t p → t.2.2.2.2.1 p = d → P p := by
    intro d
    induction d with
    | zero =>
      intro p hp e
      rcases hp with rfl | q
      · exact h0
      · omega
    | succ d ih =>
      intro p hp e
      by_cases q : p = 0
      · rw [q]; exact h0
      · obtain ⟨a1, a2, a3⟩ := h.par hv hp q
        exact hs p hp q (ih _ a1 (by omega))
  exact fun p hp => key _ p hp rfl
theorem zTi.far0 (h : zTi G t) (hp : zMet t p) (e : t.2.2.2.2.1 p = 0) : p = 0 := by
  rcases hp with q | q
  · exact q
  · omega
theorem zTi.fz (h : zTi G t) : t.2.2.2.2.1 0 = 0 := h.1.2.2.2.2.1
theorem zTi.far4 (hv : zGv G) (h : zTi G t) (hp : zMet t p) : t.2.2.2.2.1 p ≤ 4 := by
  have h1 := h.2.2.2.2 p hp
  have h2 := (h.2.2.1 p hp).1
  have h3 := h.cnt
  have h4 := hv.1
  omega
theorem zway_0 (h : zTi G t) : zway t 0 = [] := by
  unfold zway
  rw [h.fz]
  rfl
theorem zway_s (hv : zGv G) (h : zTi G t) (hp : zMet t p) (h0 : p ≠ 0) : zway t p = zway t (zpar t p) ++ [t.2.2.2.1 p] := by
  unfold zway
  rw [(h.par hv hp h0).2.1]
  rfl
theorem zTi.by (hv : zGv G) (h : zTi G t) (hp : zMet t p) (h0 : p ≠ 0) : zLt G.2.1 (t.2.2.2.1 p) ∧ zmv G (zpar t p) (t.2.2.2.1 p) = p := by
  obtain ⟨k, v, k1, k2, k3, k4, k5, k6, k7⟩ := h.2.2.2.1 p hp h0
  obtain ⟨a1, a2, a3⟩ := h.par hv hp h0
  have b1 := h.lt k1
  have b2 := h.lt a1
  have b3 := hv.1
  have e : zpar t p = k := by
    rw [k2] at a3
    have := congrArg Int32.toInt a3
    rw [nI_toInt (by omega), nI_toInt (by omega)] at this
    omega
  rw [e, k3]
  exact ⟨k4, k5⟩
theorem zway_mem (hv : zGv G) (h : zTi G t) : ∀ p, zMet t p → ∀ x ∈ zway t p, zLt G.2.1 x := by
  refine h.ind hv ?_ fun p hp h0 ih x hx => ?_
  · rw [zway_0 h]
    intro x hx
    cases hx
  · rw [zway_s hv h hp h0] at hx
    rcases List.mem_append.mp hx with q | q
    · exact ih x q
    · rw [List.mem_singleton.mp q]
      exact (h.by hv hp h0).1
theorem zway_red (hv : zGv G) (h : zTi G t) : ∀ p, zMet t p → zRed (zway t p) := by
  refine h.ind hv ?_ fun p hp h0 ih => ?_
  · rw [zway_0 h]
    exact zRed.nil
  · rw [zway_s hv h hp h0]
    refine ih.app fun q => ?_
    obtain ⟨a1, a2, a3⟩ := h.par hv hp h0
    by_cases e : zpar t p = 0
    · rw [e, zway_0 h] at q
      cases q
    · rw [zway_s hv h a1 e, List.getLast?_append] at q
      have q : t.2.2.2.1 (zpar t p) = -t.2.2.2.1 p := by simpa using q
      obtain ⟨b1, b2, b3⟩ := h.par hv a1 e
      obtain ⟨c1, c2⟩ := h.by hv hp h0
      obtain ⟨d1, d2⟩ := h.by hv a1 e
      have := zmv_inv hv (h.lt b1) d1
      rw [d2, q, Int32.neg_neg, c2] at this
      rw [← this] at b2
      omega
theorem zLt.ne0 {g : Nat} (hg : g ≤ 1000) {v : Int32} (h : zLt g v) : ¬ v = nI 0 := by
  obtain ⟨x, hx, rfl | rfl⟩ := h
  · intro e
    have := congrArg Int32.toInt e
    rw [nI_toInt (by omega), nI_toInt (by omega)] at this
    omega
  · intro e
    have := congrArg Int32.toInt e
    rw [zT_neg (by omega), nI_toInt (by omega)] at this
    omega
theorem zsn1 (d : Nat) : nI d + -nI 1 = nI d - nI 1 := (Int32.sub_eq_add_neg _ _).symm
def zF29 (x k : Nat) : Bool := x == 29
theorem c_fillLoop (hv : zGv G) (hT : zTi G t) (Q : zm_Out → Prop) : ∀ (d q : Nat) (σ1 : zm_Sig), zFix σ1 → zCT σ1 t → zMet t q → t.2.2.2.2.1 q = d → (∀ σ', zKeep zF29 σ1 σ' → (∀ k, k < d → σ'.1 29 k = zat (zway t q) k) → (∀ k, d ≤ k → σ'.1 29 k = σ1.1 29 k) → Q (none, zL, σ')) → zW 74 (11, [(0, .ref 20), (2, .int (nI q)), (3, .int (nI d - nI 1))], [], zL, σ1, 0, 0) Q
  | 0, q, σ1, hF, h, hq, hd, hQ => by
    refine zW_of zg_74_11 ?_
    simp (disch := first | assumption | omega) only [zn0, zn1, Option.bind_some, zm_ai, zm_al, zm_av, zm_opt, zm_fw, zE_l, zE_r, nI_add, pk_mul, pk_sub, pk_div, pk_rem, zrem, zpm1, zB_i0, zB_i1, zB_ok, zB_T, zB_F, nI_toInt, zT_sub, zT_neg, zT_le, zT_lt, nI_eq, zne1, zne2, zne9, ite_not, or_true, true_or, if_true, if_false, if_pos, if_neg, zw_R, zw_RL, zw_I, zF_R, zw_same, zw_cell, zw_ne, zF_at, zF_ne, ↓zib_0, ↓zib_1, ↓zib_10, ↓zib_17, ↓zib_19, ↓zib_20, ↓zib_30, ↓zib_48, ↓zib_50, ↓zib_52, ↓zib_57, ↓zib_59, ↓zib_80, ↓zib_93, ↓zib_106, ↓zib_110, ↓zib_114, ↓zxb_0_0, ↓zxb_0_1, ↓zxb_0_2, ↓zxb_0_3, ↓zxb_0_4, ↓zxb_0_5, ↓zxb_0_6, ↓zxb_0_7, ↓zxb_0_8, ↓zxb_0_9, ↓zxb_0_10, ↓zxb_1_0, ↓zxb_1_1, ↓zxb_2_0, ↓zxb_2_1, ↓zxb_2_2, ↓zxb_2_3, ↓zxb_2_4, ↓zxb_2_5, ↓zxb_10_0, ↓zxb_10_1, ↓zxb_11_0, ↓zxb_11_1, ↓zxb_11_2, ↓zxb_11_3, ↓zxb_17_0, ↓zxb_19_0, ↓zxb_19_1, ↓zxb_19_2, ↓zxb_20_0, ↓zxb_20_1, ↓zxb_20_3, ↓zxb_20_4, ↓zxb_20_5, ↓zxb_20_6, ↓zxb_20_7, ↓zxb_20_8, ↓zxb_20_9, ↓zxb_30_0, ↓zxb_30_1, ↓zxb_30_4, ↓zxb_30_5, ↓zxb_48_0, ↓zxb_50_0, ↓zxb_52_0, ↓zxb_52_1, ↓zxb_52_2, ↓zxb_56_0, ↓zxb_56_1, ↓zxb_56_2, ↓zxb_57_0, ↓zxb_59_0, ↓zxb_80_3, ↓zxb_80_4, ↓zxb_80_5, ↓zxb_81_0, ↓zxb_81_1, ↓zxb_81_2, ↓zxb_81_3, ↓zxb_81_4, ↓zxb_81_5, ↓zxb_88_0, ↓zxb_88_1, ↓zxb_88_2, ↓zxb_93_3, ↓zxb_93_4, ↓zxb_93_5, ↓zxb_94_0, ↓zxb_94_1, ↓zxb_94_2, ↓zxb_94_3, ↓zxb_94_4, ↓zxb_94_5, ↓zxb_101_0, ↓zxb_101_1, ↓zxb_101_2, ↓zxb_106_0, ↓zxb_106_1, ↓zxb_106_2, ↓zxb_110_0, ↓zxb_110_1, ↓zxb_110_2, ↓zxb_114_0, ↓zxb_114_1, ↓zxb_114_2, ↓zgb_9, ↓zsb_9, ↓zgb_16, ↓zsb_16, ↓zgb_18, ↓zsb_18, ↓zgb_21, ↓zsb_21, ↓zgb_22, ↓zsb_22, ↓zgb_23, ↓zsb_23, ↓zgb_24, ↓zsb_24, ↓zgb_25, ↓zsb_25, ↓zgb_26, ↓zsb_26, ↓zgb_27, ↓zsb_27, ↓zgb_28, ↓zsb_28, ↓zgb_29, ↓zsb_29, ↓zgb_47, ↓zsb_47, ↓zgb_49, ↓zsb_49, ↓zgb_51, ↓zsb_51, ↓zgb_53, ↓zsb_53, ↓zgb_54, ↓zsb_54, ↓zgb_55, ↓zsb_55, ↓zgb_58, ↓zsb_58, ↓zgb_76, ↓zsb_76, ↓zgb_79, ↓zsb_79, zi_0, zi_1, zi_10, zi_17, zi_19, zi_20, zi_30, zi_48, zi_50, zi_52, zi_57, zi_59, zi_80, zi_93, zi_106, zi_110, zi_114, zx_0_0, zx_0_1, zx_0_2, zx_0_3, zx_0_4, zx_0_5, zx_0_6, zx_0_7, zx_0_8, zx_0_9, zx_0_10, zx_1_0, zx_1_1, zx_2_0, zx_2_1, zx_2_2, zx_2_3, zx_2_4, zx_2_5, zx_10_0, zx_10_1, zx_11_0, zx_11_1, zx_11_2, zx_11_3, zx_17_0, zx_19_0, zx_19_1, zx_19_2, zx_20_0, zx_20_1, zx_20_3, zx_20_4, zx_20_5, zx_20_6, zx_20_7, zx_20_8, zx_20_9, zx_30_0, zx_30_1, zx_30_4, zx_30_5, zx_48_0, zx_50_0, zx_52_0, zx_52_1, zx_52_2, zx_56_0, zx_56_1, zx_56_2, zx_57_0, zx_59_0, zx_80_3, zx_80_4, zx_80_5, zx_81_0, zx_81_1, zx_81_2, zx_81_3, zx_81_4, zx_81_5, zx_88_0, zx_88_1, zx_88_2, zx_93_3, zx_93_4, zx_93_5, zx_94_0, zx_94_1, zx_94_2, zx_94_3, zx_94_4, zx_94_5, zx_101_0, zx_101_1, zx_101_2, zx_106_0, zx_106_1, zx_106_2, zx_110_0, zx_110_1, zx_110_2, zx_114_0, zx_114_1, zx_114_2, zgI_9, zsI_9, zgI_16, zsI_16, zgI_18, zsI_18, zgI_21, zsI_21, zgI_22, zsI_22, zgI_23, zsI_23, zgI_24, zsI_24, zgI_25, zsI_25, zgI_26, zsI_26, zgI_27, zsI_27, zgI_28, zsI_28, zgI_29, zsI_29, zgI_47, zsI_47, zgI_49, zsI_49, zgI_51, zsI_51, zgI_53, zsI_53, zgI_54, zsI_54, zgI_55, zsI_55, zgI_58, zsI_58, zgI_76, zsI_76, zgI_79, zsI_79, zb_74_11]
    exact hQ σ1 (zKeep.rf _ _) (fun k hk => by omega) (fun k _ => rfl)
  | d + 1, q, σ1, hF, h, hq, hd, hQ => by
    have hq0 : q ≠ 0 := fun e => by
      rw [e, hT.fz] at hd
      omega
    obtain ⟨a1, a2, a3⟩ := hT.par hv hq hq0
    have l1 := hT.lt hq
    have v1 := hv.1
    have f4 := hT.far4 hv hq
    obtain ⟨t1, t2, t3, t4⟩ := (h.2.2 q (by omega)).1 hq
    rw [a3] at t1
    have e : nI (d + 1) - nI 1 = nI d := pk_sub (by omega)
    have hK : zKeep zF29 σ1 (zm_wI σ1 29 d (t.2.2.2.1 q)) := (zKeep.rf _ _).wI rfl
    have hF2 : zFix (zm_wI σ1 29 d (t.2.2.2.1 q)) := hF
    refine zW_of zg_74_11 ?_
    rw [e]
    simp (disch := first | assumption | omega) only [zn0, zn1, Option.bind_some, zm_ai, zm_al, zm_av, zm_opt, zm_fw, zE_l, zE_r, nI_add, pk_mul, pk_sub, pk_div, pk_rem, zrem, zpm1, zB_i0, zB_i1, zB_ok, zB_T, zB_F, nI_toInt, zT_sub, zT_neg, zT_le, zT_lt, nI_eq, zne1, zne2, zne9, ite_not, or_true, true_or, if_true, if_false, if_pos, if_neg, zw_R, zw_RL, zw_I, zF_R, zw_same, zw_cell, zw_ne, zF_at, zF_ne, ↓zib_0, ↓zib_1, ↓zib_10, ↓zib_17, ↓zib_19, ↓zib_20, ↓zib_30, ↓zib_48, ↓zib_50, ↓zib_52, ↓zib_57, ↓zib_59, ↓zib_80, ↓zib_93, ↓zib_106, ↓zib_110, ↓zib_114, ↓zxb_0_0, ↓zxb_0_1, ↓zxb_0_2, ↓zxb_0_3, ↓zxb_0_4, ↓zxb_0_5, ↓zxb_0_6, ↓zxb_0_7, ↓zxb_0_8, ↓zxb_0_9, ↓zxb_0_10, ↓zxb_1_0, ↓zxb_1_1, ↓zxb_2_0, ↓zxb_2_1, ↓zxb_2_2, ↓zxb_2_3, ↓zxb_2_4, ↓zxb_2_5, ↓zxb_10_0, ↓zxb_10_1, ↓zxb_11_0, ↓zxb_11_1, ↓zxb_11_2, ↓zxb_11_3, ↓zxb_17_0, ↓zxb_19_0, ↓zxb_19_1, ↓zxb_19_2, ↓zxb_20_0, ↓zxb_20_1, ↓zxb_20_3, ↓zxb_20_4, ↓zxb_20_5, ↓zxb_20_6, ↓zxb_20_7, ↓zxb_20_8, ↓zxb_20_9, ↓zxb_30_0, ↓zxb_30_1, ↓zxb_30_4, ↓zxb_30_5, ↓zxb_48_0, ↓zxb_50_0, ↓zxb_52_0, ↓zxb_52_1, ↓zxb_52_2, ↓zxb_56_0, ↓zxb_56_1, ↓zxb_56_2, ↓zxb_57_0, ↓zxb_59_0, ↓zxb_80_3, ↓zxb_80_4, ↓zxb_80_5, ↓zxb_81_0, ↓zxb_81_1, ↓zxb_81_2, ↓zxb_81_3, ↓zxb_81_4, ↓zxb_81_5, ↓zxb_88_0, ↓zxb_88_1, ↓zxb_88_2, ↓zxb_93_3, ↓zxb_93_4, ↓zxb_93_5, ↓zxb_94_0, ↓zxb_94_1, ↓zxb_94_2, ↓zxb_94_3, ↓zxb_94_4, ↓zxb_94_5, ↓zxb_101_0, ↓zxb_101_1, ↓zxb_101_2, ↓zxb_106_0, ↓zxb_106_1, ↓zxb_106_2, ↓zxb_110_0, ↓zxb_110_1, ↓zxb_110_2, ↓zxb_114_0, ↓zxb_114_1, ↓zxb_114_2, ↓zgb_9, ↓zsb_9, ↓zgb_16, ↓zsb_16, ↓zgb_18, ↓zsb_18, ↓zgb_21, ↓zsb_21, ↓zgb_22, ↓zsb_22, ↓zgb_23, ↓zsb_23, ↓zgb_24, ↓zsb_24, ↓zgb_25, ↓zsb_25, ↓zgb_26, ↓zsb_26, ↓zgb_27, ↓zsb_27, ↓zgb_28, ↓zsb_28, ↓zgb_29, ↓zsb_29, ↓zgb_47, ↓zsb_47, ↓zgb_49, ↓zsb_49, ↓zgb_51, ↓zsb_51, ↓zgb_53, ↓zsb_53, ↓zgb_54, ↓zsb_54, ↓zgb_55, ↓zsb_55, ↓zgb_58, ↓zsb_58, ↓zgb_76, ↓zsb_76, ↓zgb_79, ↓zsb_79, zi_0, zi_1, zi_10, zi_17, zi_19, zi_20, zi_30, zi_48, zi_50, zi_52, zi_57, zi_59, zi_80, zi_93, zi_106, zi_110, zi_114, zx_0_0, zx_0_1, zx_0_2, zx_0_3, zx_0_4, zx_0_5, zx_0_6, zx_0_7, zx_0_8, zx_0_9, zx_0_10, zx_1_0, zx_1_1, zx_2_0, zx_2_1, zx_2_2, zx_2_3, zx_2_4, zx_2_5, zx_10_0, zx_10_1, zx_11_0, zx_11_1, zx_11_2, zx_11_3, zx_17_0, zx_19_0, zx_19_1, zx_19_2, zx_20_0, zx_20_1, zx_20_3, zx_20_4, zx_20_5, zx_20_6, zx_20_7, zx_20_8, zx_20_9, zx_30_0, zx_30_1, zx_30_4, zx_30_5, zx_48_0, zx_50_0, zx_52_0, zx_52_1, zx_52_2, zx_56_0, zx_56_1, zx_56_2, zx_57_0, zx_59_0, zx_80_3, zx_80_4, zx_80_5, zx_81_0, zx_81_1, zx_81_2, zx_81_3, zx_81_4, zx_81_5, zx_88_0, zx_88_1, zx_88_2, zx_93_3, zx_93_4, zx_93_5, zx_94_0, zx_94_1, zx_94_2, zx_94_3, zx_94_4, zx_94_5, zx_101_0, zx_101_1, zx_101_2, zx_106_0, zx_106_1, zx_106_2, zx_110_0, zx_110_1, zx_110_2, zx_114_0, zx_114_1, zx_114_2, zgI_9, zsI_9, zgI_16, zsI_16, zgI_18, zsI_18, zgI_21, zsI_21, zgI_22, zsI_22, zgI_23, zsI_23, zgI_24, zsI_24, zgI_25, zsI_25, zgI_26, zsI_26, zgI_27, zsI_27, zgI_28, zsI_28, zgI_29, zsI_29, zgI_47, zsI_47, zgI_49, zsI_49, zgI_51, zsI_51, zgI_53, zsI_53, zgI_54, zsI_54, zgI_55, zsI_55, zgI_58, zsI_58, zgI_76, zsI_76, zgI_79, zsI_79, zb_74_11, t1, t2]
    rw [zsn1]
    refine c_fillLoop hv hT Q d (zpar t q) _ hF2 (h.keep hK rfl fun k => ⟨rfl, rfl, rfl, rfl, rfl⟩) a1 (by omega) fun σ' hK' g1 g2 => hQ σ' (hK.tr hK') (fun k hk => ?_) (fun k hk => ?_)
    · have hl : (zway t (zpar t q)).length = d := by rw [zway_len]; omega
      rw [zway_s hv hT hq hq0]
      by_cases e : k = d
      · rw [e, g2 d (Nat.le_refl _), zw_same, zat_app2 (by omega), hl, Nat.sub_self]
        rfl
      · rw [zat_app1 (by omega)]
        exact g1 k (by omega)
    · rw [g2 k (by omega), zw_ne _ _ (Or.inr (by omega))]
theorem c_fillWay (hF : zFix σ) (h : zCT σ t) (hv : zGv G) (hT : zTi G t) (hp : zMet t p) : ∃ σ', zM 74 [.ref 20, .int (nI p)] zL σ = some (none, zL, σ') ∧ (∀ k, k < (zway t p).length → σ'.1 29 k = zat (zway t p) k) ∧ zKeep zF29 σ σ' := by
  refine zS_ex (zS_of ze_74 ?_)
  have l1 := hT.lt hp
  have v1 := hv.1
  obtain ⟨t1, t2, t3, t4⟩ := (h.2.2 p (by omega)).1 hp
  simp only [zb_74_0, zn1, zi_20, Option.bind_some, zx_20_5 hF, zm_opt, zgI_25 (show p < 5 by omega), t3, zE_l]
  refine c_fillLoop hv hT _ _ p σ hF h hp rfl fun σ' hK g1 g2 => ⟨σ', rfl, fun k hk => g1 k ?_, hK⟩
  rw [zway_len] at hk
  exact hk
def zFWy (o x k : Nat) : Bool := zFW o x k || x == 29
theorem zFWy_f {x k : Nat} (ho : zWo o) (h : x ≠ 29 ∧ ¬ (48 ≤ x ∧ x ≤ 51) ∧ ¬ (57 ≤ x ∧ x ≤ 58)) : zFWy o x k = false := zff fun q => by
  simp only [zFWy, zFW, Bool.or_eq_true, Bool.and_eq_true, beq_iff_eq] at q
  unfold zWo at ho
  omega
theorem zFWy_scr (ho : zWo o) (hK : zKeep (zFWy o) σ σ') : zKeep zScr σ σ' := hK.mo fun x k q => by
  simp only [zFWy, zFW, Bool.or_eq_true, Bool.and_eq_true, beq_iff_eq] at q
  simp only [zScr, Bool.or_eq_true, Bool.and_eq_true, decide_eq_true_eq, beq_iff_eq]
  unfold zWo at ho
  omega
theorem zFWy_fix (ho : zWo o) : zFx.all (fun q => !zFWy o q.1 q.2.1) = true := by rcases ho with rfl | rfl | rfl <;> rfl
theorem zFW_y (hK : zKeep (zFW o) σ σ') : zKeep (zFWy o) σ σ' := hK.mo fun x k q => by simp [zFWy, q]
theorem zF29_y (hK : zKeep zF29 σ σ') : zKeep (zFWy o) σ σ' := hK.mo fun x k q => by
  simp only [zF29, beq_iff_eq] at q
  simp [zFWy, q]
theorem zCT.y (ho : zWo o) (h : zCT σ t) (hK : zKeep (zFWy o) σ σ') : zCT σ' t := h.keep hK (zFWy_f ho (by omega)) fun k => ⟨zFWy_f ho (by omega), zFWy_f ho (by omega), zFWy_f ho (by omega), zFWy_f ho (by omega), zFWy_f ho (by omega)⟩
theorem c_addWay {w : List Int32} (hF : zFix σ) (h : zCT σ t) (hv : zGv G) (hT : zTi G t) (hp : zMet t p) (ho : zWo o) (hw : zCW σ o w) (hl : w.length < 390) : ∃ σ', zM 73 [.ref 20, .int (nI p), .ref o] zL σ = some (none, zL, σ') ∧ zCW σ' o ((zway t p).foldl zpush w) ∧ zKeep (zFWy o) σ σ' := by
  obtain ⟨σ0, e0, f0, hK0⟩ := c_fillWay hF h hv hT hp
  have hK0' : zKeep (zFWy o) σ σ0 := zF29_y hK0
  have l1 := hT.lt hp
  have v1 := hv.1
  have v2 := hv.2.1
  have f4 := hT.far4 hv hp
  have hlen := zway_len t p
  have hwo := ho
  unfold zWo at hwo
  have w0 : zCW σ0 o w := hw.keep hK0 (zff fun q => by simp only [zF29, beq_iff_eq] at q; omega) (fun k => zff fun q => by simp only [zF29, beq_iff_eq] at q; omega)
  refine zS_ex (zS_of ze_73 ?_)
  simp (disch := first | assumption | omega) only [zn0, zn1, Option.bind_some, zm_ai, zm_al, zm_av, zm_opt, zm_fw, zE_l, zE_r, nI_add, pk_mul, pk_sub, pk_div, pk_rem, zrem, zpm1, zB_i0, zB_i1, zB_ok, zB_T, zB_F, nI_toInt, zT_sub, zT_neg, zT_le, zT_lt, nI_eq, zne1, zne2, zne9, ite_not, or_true, true_or, if_true, if_false, if_pos, if_neg, zw_R, zw_RL, zw_I, zF_R, zw_same, zw_cell, zw_ne, zF_at, zF_ne, ↓zib_0, ↓zib_1, ↓zib_10, ↓zib_17, ↓zib_19, ↓zib_20, ↓zib_30, ↓zib_48, ↓zib_50, ↓zib_52, ↓zib_57, ↓zib_59, ↓zib_80, ↓zib_93, ↓zib_106, ↓zib_110, ↓zib_114, ↓zxb_0_0, ↓zxb_0_1, ↓zxb_0_2, ↓zxb_0_3, ↓zxb_0_4, ↓zxb_0_5, ↓zxb_0_6, ↓zxb_0_7, ↓zxb_0_8, ↓zxb_0_9, ↓zxb_0_10, ↓zxb_1_0, ↓zxb_1_1, ↓zxb_2_0, ↓zxb_2_1, ↓zxb_2_2, ↓zxb_2_3, ↓zxb_2_4, ↓zxb_2_5, ↓zxb_10_0, ↓zxb_10_1, ↓zxb_11_0, ↓zxb_11_1, ↓zxb_11_2, ↓zxb_11_3, ↓zxb_17_0, ↓zxb_19_0, ↓zxb_19_1, ↓zxb_19_2, ↓zxb_20_0, ↓zxb_20_1, ↓zxb_20_3, ↓zxb_20_4, ↓zxb_20_5, ↓zxb_20_6, ↓zxb_20_7, ↓zxb_20_8, ↓zxb_20_9, ↓zxb_30_0, ↓zxb_30_1, ↓zxb_30_4, ↓zxb_30_5, ↓zxb_48_0, ↓zxb_50_0, ↓zxb_52_0, ↓zxb_52_1, ↓zxb_52_2, ↓zxb_56_0, ↓zxb_56_1, ↓zxb_56_2, ↓zxb_57_0, ↓zxb_59_0, ↓zxb_80_3, ↓zxb_80_4, ↓zxb_80_5, ↓zxb_81_0, ↓zxb_81_1, ↓zxb_81_2, ↓zxb_81_3, ↓zxb_81_4, ↓zxb_81_5, ↓zxb_88_0, ↓zxb_88_1, ↓zxb_88_2, ↓zxb_93_3, ↓zxb_93_4, ↓zxb_93_5, ↓zxb_94_0, ↓zxb_94_1, ↓zxb_94_2, ↓zxb_94_3, ↓zxb_94_4, ↓zxb_94_5, ↓zxb_101_0, ↓zxb_101_1, ↓zxb_101_2, ↓zxb_106_0, ↓zxb_106_1, ↓zxb_106_2, ↓zxb_110_0, ↓zxb_110_1, ↓zxb_110_2, ↓zxb_114_0, ↓zxb_114_1, ↓zxb_114_2, ↓zgb_9, ↓zsb_9, ↓zgb_16, ↓zsb_16, ↓zgb_18, ↓zsb_18, ↓zgb_21, ↓zsb_21, ↓zgb_22, ↓zsb_22, ↓zgb_23, ↓zsb_23, ↓zgb_24, ↓zsb_24, ↓zgb_25, ↓zsb_25, ↓zgb_26, ↓zsb_26, ↓zgb_27, ↓zsb_27, ↓zgb_28, ↓zsb_28, ↓zgb_29, ↓zsb_29, ↓zgb_47, ↓zsb_47, ↓zgb_49, ↓zsb_49, ↓zgb_51, ↓zsb_51, ↓zgb_53, ↓zsb_53, ↓zgb_54, ↓zsb_54, ↓zgb_55, ↓zsb_55, ↓zgb_58, ↓zsb_58, ↓zgb_76, ↓zsb_76, ↓zgb_79, ↓zsb_79, zi_0, zi_1, zi_10, zi_17, zi_19, zi_20, zi_30, zi_48, zi_50, zi_52, zi_57, zi_59, zi_80, zi_93, zi_106, zi_110, zi_114, zx_0_0, zx_0_1, zx_0_2, zx_0_3, zx_0_4, zx_0_5, zx_0_6, zx_0_7, zx_0_8, zx_0_9, zx_0_10, zx_1_0, zx_1_1, zx_2_0, zx_2_1, zx_2_2, zx_2_3, zx_2_4, zx_2_5, zx_10_0, zx_10_1, zx_11_0, zx_11_1, zx_11_2, zx_11_3, zx_17_0, zx_19_0, zx_19_1, zx_19_2, zx_20_0, zx_20_1, zx_20_3, zx_20_4, zx_20_5, zx_20_6, zx_20_7, zx_20_8, zx_20_9, zx_30_0, zx_30_1, zx_30_4, zx_30_5, zx_48_0, zx_50_0, zx_52_0, zx_52_1, zx_52_2, zx_56_0, zx_56_1, zx_56_2, zx_57_0, zx_59_0, zx_80_3, zx_80_4, zx_80_5, zx_81_0, zx_81_1, zx_81_2, zx_81_3, zx_81_4, zx_81_5, zx_88_0, zx_88_1, zx_88_2, zx_93_3, zx_93_4, zx_93_5, zx_94_0, zx_94_1, zx_94_2, zx_94_3, zx_94_4, zx_94_5, zx_101_0, zx_101_1, zx_101_2, zx_106_0, zx_106_1, zx_106_2, zx_110_0, zx_110_1, zx_110_2, zx_114_0, zx_114_1, zx_114_2, zgI_9, zsI_9, zgI_16, zsI_16, zgI_18, zsI_18, zgI_21, zsI_21, zgI_22, zsI_22, zgI_23, zsI_23, zgI_24, zsI_24, zgI_25, zsI_25, zgI_26, zsI_26, zgI_27, zsI_27, zgI_28, zsI_28, zgI_29, zsI_29, zgI_47, zsI_47, zgI_49, zsI_49, zgI_51, zsI_51, zgI_53, zsI_53, zgI_54, zsI_54, zgI_55, zsI_55, zgI_58, zsI_58, zgI_76, zsI_76, zgI_79, zsI_79, zb_73_0, e0]
  refine zloop (fun k σ1 => (7, [(0, .ref 20), (1, .int (nI p)), (2, .ref o), (3, .int (nI k))], [], zL, σ1, 0, 0)) (fun k σ1 => zCW σ1 o (((zway t p).take k).foldl zpush w) ∧ zKeep (zFW o) σ0 σ1) (zway t p).length (fun k σ1 hk hI ih => ?_) (fun σ1 hI => ?_) 0 σ0 (by omega) ⟨w0, zKeep.rf _ _⟩
  · obtain ⟨i1, hK⟩ := hI
    have hK1 := hK0'.tr (zFW_y hK)
    have hF1 := hK1.fix hF (zFWy_fix ho)
    have h1 := h.y ho hK1
    obtain ⟨t1, t2, t3, t4⟩ := (h1.2.2 p (by omega)).1 hp
    rw [← hlen] at t3
    have hln := zfold_len ((zway t p).take k) w
    rw [List.length_take] at hln
    have hat : σ1.1 29 k = zat (zway t p) k := (hK.i (zFW_lo ho (by omega))).trans (f0 k hk)
    obtain ⟨σ2, e2, w2, hK2⟩ := c_push hF1 ho i1 (by omega) (v := zat (zway t p) k) ((zway_mem hv hT p hp _ (zat_mem hk)).ne0 (by omega))
    have hi8 := zWo_i ho
    refine zW_of zg_73_7 ?_
    simp (disch := first | assumption | omega) only [zn0, zn1, Option.bind_some, zm_ai, zm_al, zm_av, zm_opt, zm_fw, zE_l, zE_r, nI_add, pk_mul, pk_sub, pk_div, pk_rem, zrem, zpm1, zB_i0, zB_i1, zB_ok, zB_T, zB_F, nI_toInt, zT_sub, zT_neg, zT_le, zT_lt, nI_eq, zne1, zne2, zne9, ite_not, or_true, true_or, if_true, if_false, if_pos, if_neg, zw_R, zw_RL, zw_I, zF_R, zw_same, zw_cell, zw_ne, zF_at, zF_ne, ↓zib_0, ↓zib_1, ↓zib_10, ↓zib_17, ↓zib_19, ↓zib_20, ↓zib_30, ↓zib_48, ↓zib_50, ↓zib_52, ↓zib_57, ↓zib_59, ↓zib_80, ↓zib_93, ↓zib_106, ↓zib_110, ↓zib_114, ↓zxb_0_0, ↓zxb_0_1, ↓zxb_0_2, ↓zxb_0_3, ↓zxb_0_4, ↓zxb_0_5, ↓zxb_0_6, ↓zxb_0_7, ↓zxb_0_8, ↓zxb_0_9, ↓zxb_0_10, ↓zxb_1_0, ↓zxb_1_1, ↓zxb_2_0, ↓zxb_2_1, ↓zxb_2_2, ↓zxb_2_3, ↓zxb_2_4, ↓zxb_2_5, ↓zxb_10_0, ↓zxb_10_1, ↓zxb_11_0, ↓zxb_11_1, ↓zxb_11_2, ↓zxb_11_3, ↓zxb_17_0, ↓zxb_19_0, ↓zxb_19_1, ↓zxb_19_2, ↓zxb_20_0, ↓zxb_20_1, ↓zxb_20_3, ↓zxb_20_4, ↓zxb_20_5, ↓zxb_20_6, ↓zxb_20_7, ↓zxb_20_8, ↓zxb_20_9, ↓zxb_30_0, ↓zxb_30_1, ↓zxb_30_4, ↓zxb_30_5, ↓zxb_48_0, ↓zxb_50_0, ↓zxb_52_0, ↓zxb_52_1, ↓zxb_52_2, ↓zxb_56_0, ↓zxb_56_1, ↓zxb_56_2, ↓zxb_57_0, ↓zxb_59_0, ↓zxb_80_3, ↓zxb_80_4, ↓zxb_80_5, ↓zxb_81_0, ↓zxb_81_1, ↓zxb_81_2, ↓zxb_81_3, ↓zxb_81_4, ↓zxb_81_5, ↓zxb_88_0, ↓zxb_88_1, ↓zxb_88_2, ↓zxb_93_3, ↓zxb_93_4, ↓zxb_93_5, ↓zxb_94_0, ↓zxb_94_1, ↓zxb_94_2, ↓zxb_94_3, ↓zxb_94_4, ↓zxb_94_5, ↓zxb_101_0, ↓zxb_101_1, ↓zxb_101_2, ↓zxb_106_0, ↓zxb_106_1, ↓zxb_106_2, ↓zxb_110_0, ↓zxb_110_1, ↓zxb_110_2, ↓zxb_114_0, ↓zxb_114_1, ↓zxb_114_2, ↓zgb_9, ↓zsb_9, ↓zgb_16, ↓zsb_16, ↓zgb_18, ↓zsb_18, ↓zgb_21, ↓zsb_21, ↓zgb_22, ↓zsb_22, ↓zgb_23, ↓zsb_23, ↓zgb_24, ↓zsb_24, ↓zgb_25, ↓zsb_25, ↓zgb_26, ↓zsb_26, ↓zgb_27, ↓zsb_27, ↓zgb_28, ↓zsb_28, ↓zgb_29, ↓zsb_29, ↓zgb_47, ↓zsb_47, ↓zgb_49, ↓zsb_49, ↓zgb_51, ↓zsb_51, ↓zgb_53, ↓zsb_53, ↓zgb_54, ↓zsb_54, ↓zgb_55, ↓zsb_55, ↓zgb_58, ↓zsb_58, ↓zgb_76, ↓zsb_76, ↓zgb_79, ↓zsb_79, zi_0, zi_1, zi_10, zi_17, zi_19, zi_20, zi_30, zi_48, zi_50, zi_52, zi_57, zi_59, zi_80, zi_93, zi_106, zi_110, zi_114, zx_0_0, zx_0_1, zx_0_2, zx_0_3, zx_0_4, zx_0_5, zx_0_6, zx_0_7, zx_0_8, zx_0_9, zx_0_10, zx_1_0, zx_1_1, zx_2_0, zx_2_1, zx_2_2, zx_2_3, zx_2_4, zx_2_5, zx_10_0, zx_10_1, zx_11_0, zx_11_1, zx_11_2, zx_11_3, zx_17_0, zx_19_0, zx_19_1, zx_19_2, zx_20_0, zx_20_1, zx_20_3, zx_20_4, zx_20_5, zx_20_6, zx_20_7, zx_20_8, zx_20_9, zx_30_0, zx_30_1, zx_30_4, zx_30_5, zx_48_0, zx_50_0, zx_52_0, zx_52_1, zx_52_2, zx_56_0, zx_56_1, zx_56_2, zx_57_0, zx_59_0, zx_80_3, zx_80_4, zx_80_5, zx_81_0, zx_81_1, zx_81_2, zx_81_3, zx_81_4, zx_81_5, zx_88_0, zx_88_1, zx_88_2, zx_93_3, zx_93_4, zx_93_5, zx_94_0, zx_94_1, zx_94_2, zx_94_3, zx_94_4, zx_94_5, zx_101_0, zx_101_1, zx_101_2, zx_106_0, zx_106_1, zx_106_2, zx_110_0, zx_110_1, zx_110_2, zx_114_0, zx_114_1, zx_114_2, zgI_9, zsI_9, zgI_16, zsI_16, zgI_18, zsI_18, zgI_21, zsI_21, zgI_22, zsI_22, zgI_23, zsI_23, zgI_24, zsI_24, zgI_25, zsI_25, zgI_26, zsI_26, zgI_27, zsI_27, zgI_28, zsI_28, zgI_29, zsI_29, zgI_47, zsI_47, zgI_49, zsI_49, zgI_51, zsI_51, zgI_53, zsI_53, zgI_54, zsI_54, zgI_55, zsI_55, zgI_58, zsI_58, zgI_76, zsI_76, zgI_79, zsI_79, zb_73_7, t3, hat, hi8, e2]
    refine ih σ2 ⟨?_, hK.tr hK2⟩
    rw [zfold_take _ _ hk]
    exact w2
  · obtain ⟨i1, hK⟩ := hI
    have hK1 := hK0'.tr (zFW_y hK)
    have hF1 := hK1.fix hF (zFWy_fix ho)
    have h1 := h.y ho hK1
    obtain ⟨t1, t2, t3, t4⟩ := (h1.2.2 p (by omega)).1 hp
    rw [← hlen] at t3
    rw [List.take_length] at i1
    refine zW_of zg_73_7 ?_
    simp (disch := first | assumption | omega) only [zn0, zn1, Option.bind_some, zm_ai, zm_al, zm_av, zm_opt, zm_fw, zE_l, zE_r, nI_add, pk_mul, pk_sub, pk_div, pk_rem, zrem, zpm1, zB_i0, zB_i1, zB_ok, zB_T, zB_F, nI_toInt, zT_sub, zT_neg, zT_le, zT_lt, nI_eq, zne1, zne2, zne9, ite_not, or_true, true_or, if_true, if_false, if_pos, if_neg, zw_R, zw_RL, zw_I, zF_R, zw_same, zw_cell, zw_ne, zF_at, zF_ne, ↓zib_0, ↓zib_1, ↓zib_10, ↓zib_17, ↓zib_19, ↓zib_20, ↓zib_30, ↓zib_48, ↓zib_50, ↓zib_52, ↓zib_57, ↓zib_59, ↓zib_80, ↓zib_93, ↓zib_106, ↓zib_110, ↓zib_114, ↓zxb_0_0, ↓zxb_0_1, ↓zxb_0_2, ↓zxb_0_3, ↓zxb_0_4, ↓zxb_0_5, ↓zxb_0_6, ↓zxb_0_7, ↓zxb_0_8, ↓zxb_0_9, ↓zxb_0_10, ↓zxb_1_0, ↓zxb_1_1, ↓zxb_2_0, ↓zxb_2_1, ↓zxb_2_2, ↓zxb_2_3, ↓zxb_2_4, ↓zxb_2_5, ↓zxb_10_0, ↓zxb_10_1, ↓zxb_11_0, ↓zxb_11_1, ↓zxb_11_2, ↓zxb_11_3, ↓zxb_17_0, ↓zxb_19_0, ↓zxb_19_1, ↓zxb_19_2, ↓zxb_20_0, ↓zxb_20_1, ↓zxb_20_3, ↓zxb_20_4, ↓zxb_20_5, ↓zxb_20_6, ↓zxb_20_7, ↓zxb_20_8, ↓zxb_20_9, ↓zxb_30_0, ↓zxb_30_1, ↓zxb_30_4, ↓zxb_30_5, ↓zxb_48_0, ↓zxb_50_0, ↓zxb_52_0, ↓zxb_52_1, ↓zxb_52_2, ↓zxb_56_0, ↓zxb_56_1, ↓zxb_56_2, ↓zxb_57_0, ↓zxb_59_0, ↓zxb_80_3, ↓zxb_80_4, ↓zxb_80_5, ↓zxb_81_0, ↓zxb_81_1, ↓zxb_81_2, ↓zxb_81_3, ↓zxb_81_4, ↓zxb_81_5, ↓zxb_88_0, ↓zxb_88_1, ↓zxb_88_2, ↓zxb_93_3, ↓zxb_93_4, ↓zxb_93_5, ↓zxb_94_0, ↓zxb_94_1, ↓zxb_94_2, ↓zxb_94_3, ↓zxb_94_4, ↓zxb_94_5, ↓zxb_101_0, ↓zxb_101_1, ↓zxb_101_2, ↓zxb_106_0, ↓zxb_106_1, ↓zxb_106_2, ↓zxb_110_0, ↓zxb_110_1, ↓zxb_110_2, ↓zxb_114_0, ↓zxb_114_1, ↓zxb_114_2, ↓zgb_9, ↓zsb_9, ↓zgb_16, ↓zsb_16, ↓zgb_18, ↓zsb_18, ↓zgb_21, ↓zsb_21, ↓zgb_22, ↓zsb_22, ↓zgb_23, ↓zsb_23, ↓zgb_24, ↓zsb_24, ↓zgb_25, ↓zsb_25, ↓zgb_26, ↓zsb_26, ↓zgb_27, ↓zsb_27, ↓zgb_28, ↓zsb_28, ↓zgb_29, ↓zsb_29, ↓zgb_47, ↓zsb_47, ↓zgb_49, ↓zsb_49, ↓zgb_51, ↓zsb_51, ↓zgb_53, ↓zsb_53, ↓zgb_54, ↓zsb_54, ↓zgb_55, ↓zsb_55, ↓zgb_58, ↓zsb_58, ↓zgb_76, ↓zsb_76, ↓zgb_79, ↓zsb_79, zi_0, zi_1, zi_10, zi_17, zi_19, zi_20, zi_30, zi_48, zi_50, zi_52, zi_57, zi_59, zi_80, zi_93, zi_106, zi_110, zi_114, zx_0_0, zx_0_1, zx_0_2, zx_0_3, zx_0_4, zx_0_5, zx_0_6, zx_0_7, zx_0_8, zx_0_9, zx_0_10, zx_1_0, zx_1_1, zx_2_0, zx_2_1, zx_2_2, zx_2_3, zx_2_4, zx_2_5, zx_10_0, zx_10_1, zx_11_0, zx_11_1, zx_11_2, zx_11_3, zx_17_0, zx_19_0, zx_19_1, zx_19_2, zx_20_0, zx_20_1, zx_20_3, zx_20_4, zx_20_5, zx_20_6, zx_20_7, zx_20_8, zx_20_9, zx_30_0, zx_30_1, zx_30_4, zx_30_5, zx_48_0, zx_50_0, zx_52_0, zx_52_1, zx_52_2, zx_56_0, zx_56_1, zx_56_2, zx_57_0, zx_59_0, zx_80_3, zx_80_4, zx_80_5, zx_81_0, zx_81_1, zx_81_2, zx_81_3, zx_81_4, zx_81_5, zx_88_0, zx_88_1, zx_88_2, zx_93_3, zx_93_4, zx_93_5, zx_94_0, zx_94_1, zx_94_2, zx_94_3, zx_94_4, zx_94_5, zx_101_0, zx_101_1, zx_101_2, zx_106_0, zx_106_1, zx_106_2, zx_110_0, zx_110_1, zx_110_2, zx_114_0, zx_114_1, zx_114_2, zgI_9, zsI_9, zgI_16, zsI_16, zgI_18, zsI_18, zgI_21, zsI_21, zgI_22, zsI_22, zgI_23, zsI_23, zgI_24, zsI_24, zgI_25, zsI_25, zgI_26, zsI_26, zgI_27, zsI_27, zgI_28, zsI_28, zgI_29, zsI_29, zgI_47, zsI_47, zgI_49, zsI_49, zgI_51, zsI_51, zgI_53, zsI_53, zgI_54, zsI_54, zgI_55, zsI_55, zgI_58, zsI_58, zgI_76, zsI_76, zgI_79, zsI_79, zb_73_7, t3]
    exact ⟨σ1, rfl, i1, hK1⟩
theorem c_addWayBack {w : List Int32} (hF : zFix σ) (h : zCT σ t) (hv : zGv G) (hT : zTi G t) (hp : zMet t p) (ho : zWo o) (hw : zCW σ o w) (hl : w.length < 390) : ∃ σ', zM 92 [.ref 20, .int (nI p), .ref o] zL σ = some (none, zL, σ') ∧ zCW σ' o ((zinv (zway t p)).foldl zpush w) ∧ zKeep (zFWy o) σ σ' := by
  obtain ⟨σ0, e0, f0, hK0⟩ := c_fillWay hF h hv hT hp
  have hK0' : zKeep (zFWy o) σ σ0 := zF29_y hK0
  have l1 := hT.lt hp
  have v1 := hv.1
  have v2 := hv.2.1
  have f4 := hT.far4 hv hp
  have hlen := zway_len t p
  have hwo := ho
  unfold zWo at hwo
  have w0 : zCW σ0 o w := hw.keep hK0 (zff fun q => by simp only [zF29, beq_iff_eq] at q; omega) (fun k => zff fun q => by simp only [zF29, beq_iff_eq] at q; omega)
  have hF0 := hK0'.fix hF (zFWy_fix ho)
  obtain ⟨t1, t2, t3, t4⟩ := ((h.y ho hK0').2.2 p (by omega)).1 hp
  rw [← hlen] at t3
  have hil := zinv_len (zway t p)
  refine zS_ex (zS_of ze_92 ?_)
  simp only [zb_92_0, zn1, zi_20, Option.bind_some, e0, zm_av, zx_20_5 hF0, zm_opt, zgI_25 (show p < 5 by omega), t3, zE_l]
  refine zloop (fun k σ1 => (14, [(0, .ref 20), (2, .ref o), (3, .int (nI ((zway t p).length - k) - nI 1))], [], zL, σ1, 0, 0)) (fun k σ1 => zCW σ1 o (((zinv (zway t p)).take k).foldl zpush w) ∧ zKeep (zFW o) σ0 σ1) (zway t p).length (fun k σ1 hk hI ih => ?_) (fun σ1 hI => ?_) 0 σ0 (by omega) ⟨w0, zKeep.rf _ _⟩
  · obtain ⟨i1, hK⟩ := hI
    have hK1 := hK0'.tr (zFW_y hK)
    have hF1 := hK1.fix hF (zFWy_fix ho)
    have hln := zfold_len ((zinv (zway t p)).take k) w
    rw [List.length_take] at hln
    have hat : σ1.1 29 ((zway t p).length - k - 1) = zat (zway t p) ((zway t p).length - k - 1) := (hK.i (zFW_lo ho (by omega))).trans (f0 _ (by omega))
    have hlt := (zway_mem hv hT p hp _ (zat_mem (show (zway t p).length - k - 1 < (zway t p).length by omega))).neg.ne0 (by omega)
    obtain ⟨σ2, e2, w2, hK2⟩ := c_push hF1 ho i1 (by omega) hlt
    have hi8 := zWo_i ho
    have es : nI ((zway t p).length - k) - nI 1 = nI ((zway t p).length - k - 1) := pk_sub (by omega)
    refine zW_of zg_92_14 ?_
    rw [es]
    simp (disch := first | assumption | omega) only [zn0, zn1, Option.bind_some, zm_ai, zm_al, zm_av, zm_opt, zm_fw, zE_l, zE_r, nI_add, pk_mul, pk_sub, pk_div, pk_rem, zrem, zpm1, zB_i0, zB_i1, zB_ok, zB_T, zB_F, nI_toInt, zT_sub, zT_neg, zT_le, zT_lt, nI_eq, zne1, zne2, zne9, ite_not, or_true, true_or, if_true, if_false, if_pos, if_neg, zw_R, zw_RL, zw_I, zF_R, zw_same, zw_cell, zw_ne, zF_at, zF_ne, ↓zib_0, ↓zib_1, ↓zib_10, ↓zib_17, ↓zib_19, ↓zib_20, ↓zib_30, ↓zib_48, ↓zib_50, ↓zib_52, ↓zib_57, ↓zib_59, ↓zib_80, ↓zib_93, ↓zib_106, ↓zib_110, ↓zib_114, ↓zxb_0_0, ↓zxb_0_1, ↓zxb_0_2, ↓zxb_0_3, ↓zxb_0_4, ↓zxb_0_5, ↓zxb_0_6, ↓zxb_0_7, ↓zxb_0_8, ↓zxb_0_9, ↓zxb_0_10, ↓zxb_1_0, ↓zxb_1_1, ↓zxb_2_0, ↓zxb_2_1, ↓zxb_2_2, ↓zxb_2_3, ↓zxb_2_4, ↓zxb_2_5, ↓zxb_10_0, ↓zxb_10_1, ↓zxb_11_0, ↓zxb_11_1, ↓zxb_11_2, ↓zxb_11_3, ↓zxb_17_0, ↓zxb_19_0, ↓zxb_19_1, ↓zxb_19_2, ↓zxb_20_0, ↓zxb_20_1, ↓zxb_20_3, ↓zxb_20_4, ↓zxb_20_5, ↓zxb_20_6, ↓zxb_20_7, ↓zxb_20_8, ↓zxb_20_9, ↓zxb_30_0, ↓zxb_30_1, ↓zxb_30_4, ↓zxb_30_5, ↓zxb_48_0, ↓zxb_50_0, ↓zxb_52_0, ↓zxb_52_1, ↓zxb_52_2, ↓zxb_56_0, ↓zxb_56_1, ↓zxb_56_2, ↓zxb_57_0, ↓zxb_59_0, ↓zxb_80_3, ↓zxb_80_4, ↓zxb_80_5, ↓zxb_81_0, ↓zxb_81_1, ↓zxb_81_2, ↓zxb_81_3, ↓zxb_81_4, ↓zxb_81_5, ↓zxb_88_0, ↓zxb_88_1, ↓zxb_88_2, ↓zxb_93_3, ↓zxb_93_4, ↓zxb_93_5, ↓zxb_94_0, ↓zxb_94_1, ↓zxb_94_2, ↓zxb_94_3, ↓zxb_94_4, ↓zxb_94_5, ↓zxb_101_0, ↓zxb_101_1, ↓zxb_101_2, ↓zxb_106_0, ↓zxb_106_1, ↓zxb_106_2, ↓zxb_110_0, ↓zxb_110_1, ↓zxb_110_2, ↓zxb_114_0, ↓zxb_114_1, ↓zxb_114_2, ↓zgb_9, ↓zsb_9, ↓zgb_16, ↓zsb_16, ↓zgb_18, ↓zsb_18, ↓zgb_21, ↓zsb_21, ↓zgb_22, ↓zsb_22, ↓zgb_23, ↓zsb_23, ↓zgb_24, ↓zsb_24, ↓zgb_25, ↓zsb_25, ↓zgb_26, ↓zsb_26, ↓zgb_27, ↓zsb_27, ↓zgb_28, ↓zsb_28, ↓zgb_29, ↓zsb_29, ↓zgb_47, ↓zsb_47, ↓zgb_49, ↓zsb_49, ↓zgb_51, ↓zsb_51, ↓zgb_53, ↓zsb_53, ↓zgb_54, ↓zsb_54, ↓zgb_55, ↓zsb_55, ↓zgb_58, ↓zsb_58, ↓zgb_76, ↓zsb_76, ↓zgb_79, ↓zsb_79, zi_0, zi_1, zi_10, zi_17, zi_19, zi_20, zi_30, zi_48, zi_50, zi_52, zi_57, zi_59, zi_80, zi_93, zi_106, zi_110, zi_114, zx_0_0, zx_0_1, zx_0_2, zx_0_3, zx_0_4, zx_0_5, zx_0_6, zx_0_7, zx_0_8, zx_0_9, zx_0_10, zx_1_0, zx_1_1, zx_2_0, zx_2_1, zx_2_2, zx_2_3, zx_2_4, zx_2_5, zx_10_0, zx_10_1, zx_11_0, zx_11_1, zx_11_2, zx_11_3, zx_17_0, zx_19_0, zx_19_1, zx_19_2, zx_20_0, zx_20_1, zx_20_3, zx_20_4, zx_20_5, zx_20_6, zx_20_7, zx_20_8, zx_20_9, zx_30_0, zx_30_1, zx_30_4, zx_30_5, zx_48_0, zx_50_0, zx_52_0, zx_52_1, zx_52_2, zx_56_0, zx_56_1, zx_56_2, zx_57_0, zx_59_0, zx_80_3, zx_80_4, zx_80_5, zx_81_0, zx_81_1, zx_81_2, zx_81_3, zx_81_4, zx_81_5, zx_88_0, zx_88_1, zx_88_2, zx_93_3, zx_93_4, zx_93_5, zx_94_0, zx_94_1, zx_94_2, zx_94_3, zx_94_4, zx_94_5, zx_101_0, zx_101_1, zx_101_2, zx_106_0, zx_106_1, zx_106_2, zx_110_0, zx_110_1, zx_110_2, zx_114_0, zx_114_1, zx_114_2, zgI_9, zsI_9, zgI_16, zsI_16, zgI_18, zsI_18, zgI_21, zsI_21, zgI_22, zsI_22, zgI_23, zsI_23, zgI_24, zsI_24, zgI_25, zsI_25, zgI_26, zsI_26, zgI_27, zsI_27, zgI_28, zsI_28, zgI_29, zsI_29, zgI_47, zsI_47, zgI_49, zsI_49, zgI_51, zsI_51, zgI_53, zsI_53, zgI_54, zsI_54, zgI_55, zsI_55, zgI_58, zsI_58, zgI_76, zsI_76, zgI_79, zsI_79, zb_92_14, hat, hi8, e2]
    rw [zsn1]
    have ih := ih σ2 ⟨?_, hK.tr hK2⟩
    · rw [show (zway t p).length - (k + 1) = (zway t p).length - k - 1 by omega] at ih
      exact ih
    · rw [zfold_take _ _ (by omega), zat_inv hk]
      rw [show (zway t p).length - 1 - k = (zway t p).length - k - 1 by omega]
      exact w2
  · obtain ⟨i1, hK⟩ := hI
    have hK1 := hK0'.tr (zFW_y hK)
    rw [← hil, List.take_length] at i1
    refine zW_of zg_92_14 ?_
    rw [Nat.sub_self]
    simp (disch := first | assumption | omega) only [zn0, zn1, Option.bind_some, zm_ai, zm_al, zm_av, zm_opt, zm_fw, zE_l, zE_r, nI_add, pk_mul, pk_sub, pk_div, pk_rem, zrem, zpm1, zB_i0, zB_i1, zB_ok, zB_T, zB_F, nI_toInt, zT_sub, zT_neg, zT_le, zT_lt, nI_eq, zne1, zne2, zne9, ite_not, or_true, true_or, if_true, if_false, if_pos, if_neg, zw_R, zw_RL, zw_I, zF_R, zw_same, zw_cell, zw_ne, zF_at, zF_ne, ↓zib_0, ↓zib_1, ↓zib_10, ↓zib_17, ↓zib_19, ↓zib_20, ↓zib_30, ↓zib_48, ↓zib_50, ↓zib_52, ↓zib_57, ↓zib_59, ↓zib_80, ↓zib_93, ↓zib_106, ↓zib_110, ↓zib_114, ↓zxb_0_0, ↓zxb_0_1, ↓zxb_0_2, ↓zxb_0_3, ↓zxb_0_4, ↓zxb_0_5, ↓zxb_0_6, ↓zxb_0_7, ↓zxb_0_8, ↓zxb_0_9, ↓zxb_0_10, ↓zxb_1_0, ↓zxb_1_1, ↓zxb_2_0, ↓zxb_2_1, ↓zxb_2_2, ↓zxb_2_3, ↓zxb_2_4, ↓zxb_2_5, ↓zxb_10_0, ↓zxb_10_1, ↓zxb_11_0, ↓zxb_11_1, ↓zxb_11_2, ↓zxb_11_3, ↓zxb_17_0, ↓zxb_19_0, ↓zxb_19_1, ↓zxb_19_2, ↓zxb_20_0, ↓zxb_20_1, ↓zxb_20_3, ↓zxb_20_4, ↓zxb_20_5, ↓zxb_20_6, ↓zxb_20_7, ↓zxb_20_8, ↓zxb_20_9, ↓zxb_30_0, ↓zxb_30_1, ↓zxb_30_4, ↓zxb_30_5, ↓zxb_48_0, ↓zxb_50_0, ↓zxb_52_0, ↓zxb_52_1, ↓zxb_52_2, ↓zxb_56_0, ↓zxb_56_1, ↓zxb_56_2, ↓zxb_57_0, ↓zxb_59_0, ↓zxb_80_3, ↓zxb_80_4, ↓zxb_80_5, ↓zxb_81_0, ↓zxb_81_1, ↓zxb_81_2, ↓zxb_81_3, ↓zxb_81_4, ↓zxb_81_5, ↓zxb_88_0, ↓zxb_88_1, ↓zxb_88_2, ↓zxb_93_3, ↓zxb_93_4, ↓zxb_93_5, ↓zxb_94_0, ↓zxb_94_1, ↓zxb_94_2, ↓zxb_94_3, ↓zxb_94_4, ↓zxb_94_5, ↓zxb_101_0, ↓zxb_101_1, ↓zxb_101_2, ↓zxb_106_0, ↓zxb_106_1, ↓zxb_106_2, ↓zxb_110_0, ↓zxb_110_1, ↓zxb_110_2, ↓zxb_114_0, ↓zxb_114_1, ↓zxb_114_2, ↓zgb_9, ↓zsb_9, ↓zgb_16, ↓zsb_16, ↓zgb_18, ↓zsb_18, ↓zgb_21, ↓zsb_21, ↓zgb_22, ↓zsb_22, ↓zgb_23, ↓zsb_23, ↓zgb_24, ↓zsb_24, ↓zgb_25, ↓zsb_25, ↓zgb_26, ↓zsb_26, ↓zgb_27, ↓zsb_27, ↓zgb_28, ↓zsb_28, ↓zgb_29, ↓zsb_29, ↓zgb_47, ↓zsb_47, ↓zgb_49, ↓zsb_49, ↓zgb_51, ↓zsb_51, ↓zgb_53, ↓zsb_53, ↓zgb_54, ↓zsb_54, ↓zgb_55, ↓zsb_55, ↓zgb_58, ↓zsb_58, ↓zgb_76, ↓zsb_76, ↓zgb_79, ↓zsb_79, zi_0, zi_1, zi_10, zi_17, zi_19, zi_20, zi_30, zi_48, zi_50, zi_52, zi_57, zi_59, zi_80, zi_93, zi_106, zi_110, zi_114, zx_0_0, zx_0_1, zx_0_2, zx_0_3, zx_0_4, zx_0_5, zx_0_6, zx_0_7, zx_0_8, zx_0_9, zx_0_10, zx_1_0, zx_1_1, zx_2_0, zx_2_1, zx_2_2, zx_2_3, zx_2_4, zx_2_5, zx_10_0, zx_10_1, zx_11_0, zx_11_1, zx_11_2, zx_11_3, zx_17_0, zx_19_0, zx_19_1, zx_19_2, zx_20_0, zx_20_1, zx_20_3, zx_20_4, zx_20_5, zx_20_6, zx_20_7, zx_20_8, zx_20_9, zx_30_0, zx_30_1, zx_30_4, zx_30_5, zx_48_0, zx_50_0, zx_52_0, zx_52_1, zx_52_2, zx_56_0, zx_56_1, zx_56_2, zx_57_0, zx_59_0, zx_80_3, zx_80_4, zx_80_5, zx_81_0, zx_81_1, zx_81_2, zx_81_3, zx_81_4, zx_81_5, zx_88_0, zx_88_1, zx_88_2, zx_93_3, zx_93_4, zx_93_5, zx_94_0, zx_94_1, zx_94_2, zx_94_3, zx_94_4, zx_94_5, zx_101_0, zx_101_1, zx_101_2, zx_106_0, zx_106_1, zx_106_2, zx_110_0, zx_110_1, zx_110_2, zx_114_0, zx_114_1, zx_114_2, zgI_9, zsI_9, zgI_16, zsI_16, zgI_18, zsI_18, zgI_21, zsI_21, zgI_22, zsI_22, zgI_23, zsI_23, zgI_24, zsI_24, zgI_25, zsI_25, zgI_26, zsI_26, zgI_27, zsI_27, zgI_28, zsI_28, zgI_29, zsI_29, zgI_47, zsI_47, zgI_49, zsI_49, zgI_51, zsI_51, zgI_53, zsI_53, zgI_54, zsI_54, zgI_55, zsI_55, zgI_58, zsI_58, zgI_76, zsI_76, zgI_79, zsI_79, zb_92_14]
    exact ⟨σ1, rfl, i1, hK1⟩
/-- the reference -/
def zFMy (x k : Nat) : Bool := zFM x k || x == 145
theorem zF145_y {x k : Nat} (h : x ≠ 144 ∧ x ≠ 145 ∧ ¬ (x = 118 ∧ k = 40)) : zFMy x k = false := zff fun q => by
  simp only [zFMy, zFM, Bool.or_eq_true, Bool.and_eq_true, beq_iff_eq] at q
  omega
theorem zFMy_msc (hK : zKeep zFMy σ σ') : zKeep zMsc σ σ' := hK.mo fun x k q => by
  simp only [zFMy, zFM, Bool.or_eq_true, Bool.and_eq_true, beq_iff_eq] at q
  simp only [zMsc, Bool.or_eq_true, Bool.and_eq_true, decide_eq_true_eq, beq_iff_eq]
  omega
theorem zFM_y (hK : zKeep zFM σ σ') : zKeep zFMy σ σ' := hK.mo fun x k q => by simp [zFMy, q]
theorem zMT.y (h : zMT σ t) (hK : zKeep zFMy σ σ') : zMT σ' t := h.keep hK rfl fun k => ⟨rfl, rfl, rfl, rfl, rfl⟩
theorem m_wayLoop (hv : zGv G) (hT : zTi G t) (q0 : Nat) (Q : zm_Out → Prop) : ∀ (d q : Nat) (σ1 : zm_Sig), zFix σ1 → zMT σ1 t → zMet t q → t.2.2.2.2.1 q = d → (∀ σ', zKeep (fun x _ => x == 145) σ1 σ' → (∀ k, k < d → σ'.1 145 k = zat (zway t q) k) → (∀ k, d ≤ k → σ'.1 145 k = σ1.1 145 k) → zW 234 (42, [(0, .ref 118), (1, .int (nI q0)), (3, .int (nI 0))], [], zL, σ', 0, 0) Q) → zW 234 (11, [(0, .ref 118), (1, .int (nI q0)), (2, .int (nI q)), (3, .int (nI d - nI 1))], [], zL, σ1, 0, 0) Q
  | 0, q, σ1, hF, h, hq, hd, hQ => by
    refine zW_of zg_234_11 ?_
    simp (disch := first | assumption | omega) only [zn0, zn1, Option.bind_some, zm_ai, zm_al, zm_av, zm_opt, zm_fw, zE_l, zE_r, nI_add, pk_mul, pk_sub, pk_div, pk_rem, zrem, zpm1, zB_i0, zB_i1, zB_ok, zB_T, zB_F, nI_toInt, zT_sub, zT_neg, zT_le, zT_lt, nI_eq, zne1, zne2, zne9, ite_not, or_true, true_or, if_true, if_false, if_pos, if_neg, zw_R, zw_RL, zw_I, zF_R, zw_same, zw_cell, zw_ne, zF_at, zF_ne, ↓zib_118, ↓zxb_118_0, ↓zxb_118_1, ↓zxb_118_2, ↓zxb_118_3, ↓zxb_118_7, ↓zxb_118_8, ↓zxb_118_9, ↓zxb_118_10, ↓zxb_118_11, ↓zxb_118_12, ↓zxb_118_13, ↓zxb_118_14, ↓zxb_118_15, ↓zxb_118_17, ↓zxb_118_18, ↓zxb_118_19, ↓zxb_118_21, ↓zxb_118_22, ↓zxb_118_24, ↓zxb_118_25, ↓zxb_118_30, ↓zxb_118_35, ↓zxb_118_36, ↓zxb_118_37, ↓zxb_118_38, ↓zxb_118_39, ↓zxb_118_41, ↓zxb_118_42, ↓zxb_118_44, ↓zxb_118_45, ↓zxb_118_46, ↓zgb_119, ↓zsb_119, ↓zgb_120, ↓zsb_120, ↓zgb_121, ↓zsb_121, ↓zgb_122, ↓zsb_122, ↓zgb_123, ↓zsb_123, ↓zgb_124, ↓zsb_124, ↓zgb_125, ↓zsb_125, ↓zgb_126, ↓zsb_126, ↓zgb_127, ↓zsb_127, ↓zgb_128, ↓zsb_128, ↓zgb_129, ↓zsb_129, ↓zgb_130, ↓zsb_130, ↓zgb_131, ↓zsb_131, ↓zgb_132, ↓zsb_132, ↓zgb_133, ↓zsb_133, ↓zgb_134, ↓zsb_134, ↓zgb_135, ↓zsb_135, ↓zgb_136, ↓zsb_136, ↓zgb_137, ↓zsb_137, ↓zgb_139, ↓zsb_139, ↓zgb_140, ↓zsb_140, ↓zgb_141, ↓zsb_141, ↓zgb_142, ↓zsb_142, ↓zgb_143, ↓zsb_143, ↓zgb_144, ↓zsb_144, ↓zgb_145, ↓zsb_145, ↓zgb_146, ↓zsb_146, ↓zgb_147, ↓zsb_147, zi_118, zx_118_0, zx_118_1, zx_118_2, zx_118_3, zx_118_7, zx_118_8, zx_118_9, zx_118_10, zx_118_11, zx_118_12, zx_118_13, zx_118_14, zx_118_15, zx_118_17, zx_118_18, zx_118_19, zx_118_21, zx_118_22, zx_118_24, zx_118_25, zx_118_30, zx_118_35, zx_118_36, zx_118_37, zx_118_38, zx_118_39, zx_118_41, zx_118_42, zx_118_44, zx_118_45, zx_118_46, zgI_119, zsI_119, zgI_120, zsI_120, zgI_121, zsI_121, zgI_122, zsI_122, zgI_123, zsI_123, zgI_124, zsI_124, zgI_125, zsI_125, zgI_126, zsI_126, zgI_127, zsI_127, zgI_128, zsI_128, zgI_129, zsI_129, zgI_130, zsI_130, zgI_131, zsI_131, zgI_132, zsI_132, zgI_133, zsI_133, zgI_134, zsI_134, zgI_135, zsI_135, zgI_136, zsI_136, zgI_137, zsI_137, zgI_139, zsI_139, zgI_140, zsI_140, zgI_141, zsI_141, zgI_142, zsI_142, zgI_143, zsI_143, zgI_144, zsI_144, zgI_145, zsI_145, zgI_146, zsI_146, zgI_147, zsI_147, zb_234_11]
    exact hQ σ1 (zKeep.rf _ _) (fun k hk => by omega) (fun k _ => rfl)
  | d + 1, q, σ1, hF, h, hq, hd, hQ => by
    have hq0 : q ≠ 0 := fun e => by
      rw [e, hT.fz] at hd
      omega
    obtain ⟨a1, a2, a3⟩ := hT.par hv hq hq0
    have l1 := hT.lt hq
    have v1 := hv.1
    have f4 := hT.far4 hv hq
    obtain ⟨t1, t2, t3, t4⟩ := h.2.2 q (by omega)
    rw [a3] at t1
    have e : nI (d + 1) - nI 1 = nI d := pk_sub (by omega)
    have hK : zKeep (fun x _ => x == 145) σ1 (zm_wI σ1 145 d (t.2.2.2.1 q)) := (zKeep.rf _ _).wI rfl
    have hF2 : zFix (zm_wI σ1 145 d (t.2.2.2.1 q)) := hF
    refine zW_of zg_234_11 ?_
    rw [e]
    simp (disch := first | assumption | omega) only [zn0, zn1, Option.bind_some, zm_ai, zm_al, zm_av, zm_opt, zm_fw, zE_l, zE_r, nI_add, pk_mul, pk_sub, pk_div, pk_rem, zrem, zpm1, zB_i0, zB_i1, zB_ok, zB_T, zB_F, nI_toInt, zT_sub, zT_neg, zT_le, zT_lt, nI_eq, zne1, zne2, zne9, ite_not, or_true, true_or, if_true, if_false, if_pos, if_neg, zw_R, zw_RL, zw_I, zF_R, zw_same, zw_cell, zw_ne, zF_at, zF_ne, ↓zib_118, ↓zxb_118_0, ↓zxb_118_1, ↓zxb_118_2, ↓zxb_118_3, ↓zxb_118_7, ↓zxb_118_8, ↓zxb_118_9, ↓zxb_118_10, ↓zxb_118_11, ↓zxb_118_12, ↓zxb_118_13, ↓zxb_118_14, ↓zxb_118_15, ↓zxb_118_17, ↓zxb_118_18, ↓zxb_118_19, ↓zxb_118_21, ↓zxb_118_22, ↓zxb_118_24, ↓zxb_118_25, ↓zxb_118_30, ↓zxb_118_35, ↓zxb_118_36, ↓zxb_118_37, ↓zxb_118_38, ↓zxb_118_39, ↓zxb_118_41, ↓zxb_118_42, ↓zxb_118_44, ↓zxb_118_45, ↓zxb_118_46, ↓zgb_119, ↓zsb_119, ↓zgb_120, ↓zsb_120, ↓zgb_121, ↓zsb_121, ↓zgb_122, ↓zsb_122, ↓zgb_123, ↓zsb_123, ↓zgb_124, ↓zsb_124, ↓zgb_125, ↓zsb_125, ↓zgb_126, ↓zsb_126, ↓zgb_127, ↓zsb_127, ↓zgb_128, ↓zsb_128, ↓zgb_129, ↓zsb_129, ↓zgb_130, ↓zsb_130, ↓zgb_131, ↓zsb_131, ↓zgb_132, ↓zsb_132, ↓zgb_133, ↓zsb_133, ↓zgb_134, ↓zsb_134, ↓zgb_135, ↓zsb_135, ↓zgb_136, ↓zsb_136, ↓zgb_137, ↓zsb_137, ↓zgb_139, ↓zsb_139, ↓zgb_140, ↓zsb_140, ↓zgb_141, ↓zsb_141, ↓zgb_142, ↓zsb_142, ↓zgb_143, ↓zsb_143, ↓zgb_144, ↓zsb_144, ↓zgb_145, ↓zsb_145, ↓zgb_146, ↓zsb_146, ↓zgb_147, ↓zsb_147, zi_118, zx_118_0, zx_118_1, zx_118_2, zx_118_3, zx_118_7, zx_118_8, zx_118_9, zx_118_10, zx_118_11, zx_118_12, zx_118_13, zx_118_14, zx_118_15, zx_118_17, zx_118_18, zx_118_19, zx_118_21, zx_118_22, zx_118_24, zx_118_25, zx_118_30, zx_118_35, zx_118_36, zx_118_37, zx_118_38, zx_118_39, zx_118_41, zx_118_42, zx_118_44, zx_118_45, zx_118_46, zgI_119, zsI_119, zgI_120, zsI_120, zgI_121, zsI_121, zgI_122, zsI_122, zgI_123, zsI_123, zgI_124, zsI_124, zgI_125, zsI_125, zgI_126, zsI_126, zgI_127, zsI_127, zgI_128, zsI_128, zgI_129, zsI_129, zgI_130, zsI_130, zgI_131, zsI_131, zgI_132, zsI_132, zgI_133, zsI_133, zgI_134, zsI_134, zgI_135, zsI_135, zgI_136, zsI_136, zgI_137, zsI_137, zgI_139, zsI_139, zgI_140, zsI_140, zgI_141, zsI_141, zgI_142, zsI_142, zgI_143, zsI_143, zgI_144, zsI_144, zgI_145, zsI_145, zgI_146, zsI_146, zgI_147, zsI_147, zb_234_11, t1, t2]
    rw [zsn1]
    refine m_wayLoop hv hT q0 Q d (zpar t q) _ hF2 (h.keep hK rfl fun k => ⟨rfl, rfl, rfl, rfl, rfl⟩) a1 (by omega) fun σ' hK' g1 g2 => hQ σ' (hK.tr hK') (fun k hk => ?_) (fun k hk => ?_)
    · have hl : (zway t (zpar t q)).length = d := by rw [zway_len]; omega
      rw [zway_s hv hT hq hq0]
      by_cases e : k = d
      · rw [e, g2 d (Nat.le_refl _), zw_same, zat_app2 (by omega), hl, Nat.sub_self]
        rfl
      · rw [zat_app1 (by omega)]
        exact g1 k (by omega)
    · rw [g2 k (by omega), zw_ne _ _ (Or.inr (by omega))]
theorem m_growsWay {w : List Int32} (hF : zFix σ) (h : zMT σ t) (hv : zGv G) (hT : zTi G t) (hp : zMet t p) (hw : zMW σ w) (hl : w.length < 690) : ∃ σ', zM 234 [.ref 118, .int (nI p)] zL σ = some (none, zL, σ') ∧ zMW σ' ((zway t p).foldl zpush w) ∧ zKeep zFMy σ σ' := by
  have l1 := hT.lt hp
  have v1 := hv.1
  have f4 := hT.far4 hv hp
  have hlen := zway_len t p
  obtain ⟨t1, t2, t3, t4⟩ := h.2.2 p (by omega)
  refine zS_ex (zS_of ze_234 ?_)
  simp only [zb_234_0, zn1, zi_118, Option.bind_some, zx_118_13 hF, zm_opt, zgI_129 (show p < 5 by omega), t3, zE_l]
  refine m_wayLoop hv hT p _ _ p σ hF h hp rfl fun σ0 hK0 f0 _ => ?_
  have hK0' : zKeep zFMy σ σ0 := hK0.mo fun x k q => by
    simp only [beq_iff_eq] at q
    simp [zFMy, q]
  have w0 : zMW σ0 w := hw.keep hK0 rfl (fun k => rfl)
  refine zloop (fun k σ1 => (42, [(0, .ref 118), (1, .int (nI p)), (3, .int (nI k))], [], zL, σ1, 0, 0)) (fun k σ1 => zMW σ1 (((zway t p).take k).foldl zpush w) ∧ zKeep zFM σ0 σ1) (zway t p).length (fun k σ1 hk hI ih => ?_) (fun σ1 hI => ?_) 0 σ0 (by omega) ⟨w0, zKeep.rf _ _⟩
  · obtain ⟨i1, hK⟩ := hI
    have hK1 := hK0'.tr (zFM_y hK)
    have hF1 := hK1.fix hF rfl
    have h1 := h.y hK1
    obtain ⟨t1, t2, t3, t4⟩ := h1.2.2 p (by omega)
    rw [← hlen] at t3
    have hln := zfold_len ((zway t p).take k) w
    rw [List.length_take] at hln
    have hat : σ1.1 145 k = zat (zway t p) k := (hK.i rfl).trans (f0 k (by omega))
    obtain ⟨σ2, e2, w2, hK2⟩ := m_grows hF1 i1 (by omega) (zat (zway t p) k)
    refine zW_of zg_234_42 ?_
    simp (disch := first | assumption | omega) only [zn0, zn1, Option.bind_some, zm_ai, zm_al, zm_av, zm_opt, zm_fw, zE_l, zE_r, nI_add, pk_mul, pk_sub, pk_div, pk_rem, zrem, zpm1, zB_i0, zB_i1, zB_ok, zB_T, zB_F, nI_toInt, zT_sub, zT_neg, zT_le, zT_lt, nI_eq, zne1, zne2, zne9, ite_not, or_true, true_or, if_true, if_false, if_pos, if_neg, zw_R, zw_RL, zw_I, zF_R, zw_same, zw_cell, zw_ne, zF_at, zF_ne, ↓zib_118, ↓zxb_118_0, ↓zxb_118_1, ↓zxb_118_2, ↓zxb_118_3, ↓zxb_118_7, ↓zxb_118_8, ↓zxb_118_9, ↓zxb_118_10, ↓zxb_118_11, ↓zxb_118_12, ↓zxb_118_13, ↓zxb_118_14, ↓zxb_118_15, ↓zxb_118_17, ↓zxb_118_18, ↓zxb_118_19, ↓zxb_118_21, ↓zxb_118_22, ↓zxb_118_24, ↓zxb_118_25, ↓zxb_118_30, ↓zxb_118_35, ↓zxb_118_36, ↓zxb_118_37, ↓zxb_118_38, ↓zxb_118_39, ↓zxb_118_41, ↓zxb_118_42, ↓zxb_118_44, ↓zxb_118_45, ↓zxb_118_46, ↓zgb_119, ↓zsb_119, ↓zgb_120, ↓zsb_120, ↓zgb_121, ↓zsb_121, ↓zgb_122, ↓zsb_122, ↓zgb_123, ↓zsb_123, ↓zgb_124, ↓zsb_124, ↓zgb_125, ↓zsb_125, ↓zgb_126, ↓zsb_126, ↓zgb_127, ↓zsb_127, ↓zgb_128, ↓zsb_128, ↓zgb_129, ↓zsb_129, ↓zgb_130, ↓zsb_130, ↓zgb_131, ↓zsb_131, ↓zgb_132, ↓zsb_132, ↓zgb_133, ↓zsb_133, ↓zgb_134, ↓zsb_134, ↓zgb_135, ↓zsb_135, ↓zgb_136, ↓zsb_136, ↓zgb_137, ↓zsb_137, ↓zgb_139, ↓zsb_139, ↓zgb_140, ↓zsb_140, ↓zgb_141, ↓zsb_141, ↓zgb_142, ↓zsb_142, ↓zgb_143, ↓zsb_143, ↓zgb_144, ↓zsb_144, ↓zgb_145, ↓zsb_145, ↓zgb_146, ↓zsb_146, ↓zgb_147, ↓zsb_147, zi_118, zx_118_0, zx_118_1, zx_118_2, zx_118_3, zx_118_7, zx_118_8, zx_118_9, zx_118_10, zx_118_11, zx_118_12, zx_118_13, zx_118_14, zx_118_15, zx_118_17, zx_118_18, zx_118_19, zx_118_21, zx_118_22, zx_118_24, zx_118_25, zx_118_30, zx_118_35, zx_118_36, zx_118_37, zx_118_38, zx_118_39, zx_118_41, zx_118_42, zx_118_44, zx_118_45, zx_118_46, zgI_119, zsI_119, zgI_120, zsI_120, zgI_121, zsI_121, zgI_122, zsI_122, zgI_123, zsI_123, zgI_124, zsI_124, zgI_125, zsI_125, zgI_126, zsI_126, zgI_127, zsI_127, zgI_128, zsI_128, zgI_129, zsI_129, zgI_130, zsI_130, zgI_131, zsI_131, zgI_132, zsI_132, zgI_133, zsI_133, zgI_134, zsI_134, zgI_135, zsI_135, zgI_136, zsI_136, zgI_137, zsI_137, zgI_139, zsI_139, zgI_140, zsI_140, zgI_141, zsI_141, zgI_142, zsI_142, zgI_143, zsI_143, zgI_144, zsI_144, zgI_145, zsI_145, zgI_146, zsI_146, zgI_147, zsI_147, zb_234_42, t3, hat, e2]
    refine ih σ2 ⟨?_, hK.tr hK2⟩
    rw [zfold_take _ _ hk]
    exact w2
  · obtain ⟨i1, hK⟩ := hI
    have hK1 := hK0'.tr (zFM_y hK)
    have hF1 := hK1.fix hF rfl
    have h1 := h.y hK1
    obtain ⟨t1, t2, t3, t4⟩ := h1.2.2 p (by omega)
    rw [← hlen] at t3
    rw [List.take_length] at i1
    refine zW_of zg_234_42 ?_
    simp (disch := first | assumption | omega) only [zn0, zn1, Option.bind_some, zm_ai, zm_al, zm_av, zm_opt, zm_fw, zE_l, zE_r, nI_add, pk_mul, pk_sub, pk_div, pk_rem, zrem, zpm1, zB_i0, zB_i1, zB_ok, zB_T, zB_F, nI_toInt, zT_sub, zT_neg, zT_le, zT_lt, nI_eq, zne1, zne2, zne9, ite_not, or_true, true_or, if_true, if_false, if_pos, if_neg, zw_R, zw_RL, zw_I, zF_R, zw_same, zw_cell, zw_ne, zF_at, zF_ne, ↓zib_118, ↓zxb_118_0, ↓zxb_118_1, ↓zxb_118_2, ↓zxb_118_3, ↓zxb_118_7, ↓zxb_118_8, ↓zxb_118_9, ↓zxb_118_10, ↓zxb_118_11, ↓zxb_118_12, ↓zxb_118_13, ↓zxb_118_14, ↓zxb_118_15, ↓zxb_118_17, ↓zxb_118_18, ↓zxb_118_19, ↓zxb_118_21, ↓zxb_118_22, ↓zxb_118_24, ↓zxb_118_25, ↓zxb_118_30, ↓zxb_118_35, ↓zxb_118_36, ↓zxb_118_37, ↓zxb_118_38, ↓zxb_118_39, ↓zxb_118_41, ↓zxb_118_42, ↓zxb_118_44, ↓zxb_118_45, ↓zxb_118_46, ↓zgb_119, ↓zsb_119, ↓zgb_120, ↓zsb_120, ↓zgb_121, ↓zsb_121, ↓zgb_122, ↓zsb_122, ↓zgb_123, ↓zsb_123, ↓zgb_124, ↓zsb_124, ↓zgb_125, ↓zsb_125, ↓zgb_126, ↓zsb_126, ↓zgb_127, ↓zsb_127, ↓zgb_128, ↓zsb_128, ↓zgb_129, ↓zsb_129, ↓zgb_130, ↓zsb_130, ↓zgb_131, ↓zsb_131, ↓zgb_132, ↓zsb_132, ↓zgb_133, ↓zsb_133, ↓zgb_134, ↓zsb_134, ↓zgb_135, ↓zsb_135, ↓zgb_136, ↓zsb_136, ↓zgb_137, ↓zsb_137, ↓zgb_139, ↓zsb_139, ↓zgb_140, ↓zsb_140, ↓zgb_141, ↓zsb_141, ↓zgb_142, ↓zsb_142, ↓zgb_143, ↓zsb_143, ↓zgb_144, ↓zsb_144, ↓zgb_145, ↓zsb_145, ↓zgb_146, ↓zsb_146, ↓zgb_147, ↓zsb_147, zi_118, zx_118_0, zx_118_1, zx_118_2, zx_118_3, zx_118_7, zx_118_8, zx_118_9, zx_118_10, zx_118_11, zx_118_12, zx_118_13, zx_118_14, zx_118_15, zx_118_17, zx_118_18, zx_118_19, zx_118_21, zx_118_22, zx_118_24, zx_118_25, zx_118_30, zx_118_35, zx_118_36, zx_118_37, zx_118_38, zx_118_39, zx_118_41, zx_118_42, zx_118_44, zx_118_45, zx_118_46, zgI_119, zsI_119, zgI_120, zsI_120, zgI_121, zsI_121, zgI_122, zsI_122, zgI_123, zsI_123, zgI_124, zsI_124, zgI_125, zsI_125, zgI_126, zsI_126, zgI_127, zsI_127, zgI_128, zsI_128, zgI_129, zsI_129, zgI_130, zsI_130, zgI_131, zsI_131, zgI_132, zsI_132, zgI_133, zsI_133, zgI_134, zsI_134, zgI_135, zsI_135, zgI_136, zsI_136, zgI_137, zsI_137, zgI_139, zsI_139, zgI_140, zsI_140, zgI_141, zsI_141, zgI_142, zsI_142, zgI_143, zsI_143, zgI_144, zsI_144, zgI_145, zsI_145, zgI_146, zsI_146, zgI_147, zsI_147, zb_234_42, t3]
    exact ⟨σ1, rfl, i1, hK1⟩
theorem m_growsBack (hv : zGv G) (hT : zTi G t) : ∀ p, zMet t p → ∀ (σ : zm_Sig) (w : List Int32), zFix σ → zMT σ t → zMW σ w → w.length < 690 → ∃ σ', zM 235 [.ref 118, .int (nI p)] zL σ = some (none, zL, σ') ∧ zMW σ' ((zinv (zway t p)).foldl zpush w) ∧ zKeep zFM σ σ' := by
  have key : ∀ (Q : zm_Out → Prop) (p : Nat), zMet t p → ∀ (σ : zm_Sig) (w : List Int32), zFix σ → zMT σ t → zMW σ w → w.length + (zway t p).length < 700 → (∀ σ', zMW σ' ((zinv (zway t p)).foldl zpush w) → zKeep zFM σ σ' → Q (none, zL, σ')) → zW 235 (2, [(0, .ref 118), (2, .int (nI p))], [], zL, σ, 0, 0) Q := by
    intro Q
    refine hT.ind hv ?_ fun p hp h0 ih σ w hF h hw hl hQ => ?_
    · intro σ w hF h hw hl hQ
      rw [zway_0 hT] at hQ
      refine zW_of zg_235_2 ?_
      simp (disch := first | assumption | omega) only [zn0, zn1, Option.bind_some, zm_ai, zm_al, zm_av, zm_opt, zm_fw, zE_l, zE_r, nI_add, pk_mul, pk_sub, pk_div, pk_rem, zrem, zpm1, zB_i0, zB_i1, zB_ok, zB_T, zB_F, nI_toInt, zT_sub, zT_neg, zT_le, zT_lt, nI_eq, zne1, zne2, zne9, ite_not, or_true, true_or, if_true, if_false, if_pos, if_neg, zw_R, zw_RL, zw_I, zF_R, zw_same, zw_cell, zw_ne, zF_at, zF_ne, ↓zib_118, ↓zxb_118_0, ↓zxb_118_1, ↓zxb_118_2, ↓zxb_118_3, ↓zxb_118_7, ↓zxb_118_8, ↓zxb_118_9, ↓zxb_118_10, ↓zxb_118_11, ↓zxb_118_12, ↓zxb_118_13, ↓zxb_118_14, ↓zxb_118_15, ↓zxb_118_17, ↓zxb_118_18, ↓zxb_118_19, ↓zxb_118_21, ↓zxb_118_22, ↓zxb_118_24, ↓zxb_118_25, ↓zxb_118_30, ↓zxb_118_35, ↓zxb_118_36, ↓zxb_118_37, ↓zxb_118_38, ↓zxb_118_39, ↓zxb_118_41, ↓zxb_118_42, ↓zxb_118_44, ↓zxb_118_45, ↓zxb_118_46, ↓zgb_119, ↓zsb_119, ↓zgb_120, ↓zsb_120, ↓zgb_121, ↓zsb_121, ↓zgb_122, ↓zsb_122, ↓zgb_123, ↓zsb_123, ↓zgb_124, ↓zsb_124, ↓zgb_125, ↓zsb_125, ↓zgb_126, ↓zsb_126, ↓zgb_127, ↓zsb_127, ↓zgb_128, ↓zsb_128, ↓zgb_129, ↓zsb_129, ↓zgb_130, ↓zsb_130, ↓zgb_131, ↓zsb_131, ↓zgb_132, ↓zsb_132, ↓zgb_133, ↓zsb_133, ↓zgb_134, ↓zsb_134, ↓zgb_135, ↓zsb_135, ↓zgb_136, ↓zsb_136, ↓zgb_137, ↓zsb_137, ↓zgb_139, ↓zsb_139, ↓zgb_140, ↓zsb_140, ↓zgb_141, ↓zsb_141, ↓zgb_142, ↓zsb_142, ↓zgb_143, ↓zsb_143, ↓zgb_144, ↓zsb_144, ↓zgb_145, ↓zsb_145, ↓zgb_146, ↓zsb_146, ↓zgb_147, ↓zsb_147, zi_118, zx_118_0, zx_118_1, zx_118_2, zx_118_3, zx_118_7, zx_118_8, zx_118_9, zx_118_10, zx_118_11, zx_118_12, zx_118_13, zx_118_14, zx_118_15, zx_118_17, zx_118_18, zx_118_19, zx_118_21, zx_118_22, zx_118_24, zx_118_25, zx_118_30, zx_118_35, zx_118_36, zx_118_37, zx_118_38, zx_118_39, zx_118_41, zx_118_42, zx_118_44, zx_118_45, zx_118_46, zgI_119, zsI_119, zgI_120, zsI_120, zgI_121, zsI_121, zgI_122, zsI_122, zgI_123, zsI_123, zgI_124, zsI_124, zgI_125, zsI_125, zgI_126, zsI_126, zgI_127, zsI_127, zgI_128, zsI_128, zgI_129, zsI_129, zgI_130, zsI_130, zgI_131, zsI_131, zgI_132, zsI_132, zgI_133, zsI_133, zgI_134, zsI_134, zgI_135, zsI_135, zgI_136, zsI_136, zgI_137, zsI_137, zgI_139, zsI_139, zgI_140, zsI_140, zgI_141, zsI_141, zgI_142, zsI_142, zgI_143, zsI_143, zgI_144, zsI_144, zgI_145, zsI_145, zgI_146, zsI_146, zgI_147, zsI_147, zb_235_2]
      exact hQ σ hw (zKeep.rf _ _)
    · obtain ⟨a1, a2, a3⟩ := hT.par hv hp h0
      have l1 := hT.lt hp
      have v1 := hv.1
      obtain ⟨t1, t2, t3, t4⟩ := h.2.2 p (by omega)
      rw [a3] at t1
      have hs := zway_s hv hT hp h0
      rw [hs, List.length_append, List.length_singleton] at hl
      obtain ⟨σ2, e2, w2, hK2⟩ := m_grows hF hw (by omega) (-t.2.2.2.1 p)
      have t1' := (hK2.i (a := 127) (k := p) rfl).trans t1
      have hF2 := hK2.fix hF rfl
      refine zW_of zg_235_2 ?_
      simp (disch := first | assumption | omega) only [zn0, zn1, Option.bind_some, zm_ai, zm_al, zm_av, zm_opt, zm_fw, zE_l, zE_r, nI_add, pk_mul, pk_sub, pk_div, pk_rem, zrem, zpm1, zB_i0, zB_i1, zB_ok, zB_T, zB_F, nI_toInt, zT_sub, zT_neg, zT_le, zT_lt, nI_eq, zne1, zne2, zne9, ite_not, or_true, true_or, if_true, if_false, if_pos, if_neg, zw_R, zw_RL, zw_I, zF_R, zw_same, zw_cell, zw_ne, zF_at, zF_ne, ↓zib_118, ↓zxb_118_0, ↓zxb_118_1, ↓zxb_118_2, ↓zxb_118_3, ↓zxb_118_7, ↓zxb_118_8, ↓zxb_118_9, ↓zxb_118_10, ↓zxb_118_11, ↓zxb_118_12, ↓zxb_118_13, ↓zxb_118_14, ↓zxb_118_15, ↓zxb_118_17, ↓zxb_118_18, ↓zxb_118_19, ↓zxb_118_21, ↓zxb_118_22, ↓zxb_118_24, ↓zxb_118_25, ↓zxb_118_30, ↓zxb_118_35, ↓zxb_118_36, ↓zxb_118_37, ↓zxb_118_38, ↓zxb_118_39, ↓zxb_118_41, ↓zxb_118_42, ↓zxb_118_44, ↓zxb_118_45, ↓zxb_118_46, ↓zgb_119, ↓zsb_119, ↓zgb_120, ↓zsb_120, ↓zgb_121, ↓zsb_121, ↓zgb_122, ↓zsb_122, ↓zgb_123, ↓zsb_123, ↓zgb_124, ↓zsb_124, ↓zgb_125, ↓zsb_125, ↓zgb_126, ↓zsb_126, ↓zgb_127, ↓zsb_127, ↓zgb_128, ↓zsb_128, ↓zgb_129, ↓zsb_129, ↓zgb_130, ↓zsb_130, ↓zgb_131, ↓zsb_131, ↓zgb_132, ↓zsb_132, ↓zgb_133, ↓zsb_133, ↓zgb_134, ↓zsb_134, ↓zgb_135, ↓zsb_135, ↓zgb_136, ↓zsb_136, ↓zgb_137, ↓zsb_137, ↓zgb_139, ↓zsb_139, ↓zgb_140, ↓zsb_140, ↓zgb_141, ↓zsb_141, ↓zgb_142, ↓zsb_142, ↓zgb_143, ↓zsb_143, ↓zgb_144, ↓zsb_144, ↓zgb_145, ↓zsb_145, ↓zgb_146, ↓zsb_146, ↓zgb_147, ↓zsb_147, zi_118, zx_118_0, zx_118_1, zx_118_2, zx_118_3, zx_118_7, zx_118_8, zx_118_9, zx_118_10, zx_118_11, zx_118_12, zx_118_13, zx_118_14, zx_118_15, zx_118_17, zx_118_18, zx_118_19, zx_118_21, zx_118_22, zx_118_24, zx_118_25, zx_118_30, zx_118_35, zx_118_36, zx_118_37, zx_118_38, zx_118_39, zx_118_41, zx_118_42, zx_118_44, zx_118_45, zx_118_46, zgI_119, zsI_119, zgI_120, zsI_120, zgI_121, zsI_121, zgI_122, zsI_122, zgI_123, zsI_123, zgI_124, zsI_124, zgI_125, zsI_125, zgI_126, zsI_126, zgI_127, zsI_127, zgI_128, zsI_128, zgI_129, zsI_129, zgI_130, zsI_130, zgI_131, zsI_131, zgI_132, zsI_132, zgI_133, zsI_133, zgI_134, zsI_134, zgI_135, zsI_135, zgI_136, zsI_136, zgI_137, zsI_137, zgI_139, zsI_139, zgI_140, zsI_140, zgI_141, zsI_141, zgI_142, zsI_142, zgI_143, zsI_143, zgI_144, zsI_144, zgI_145, zsI_145, zgI_146, zsI_146, zgI_147, zsI_147, zb_235_2, t2, e2, t1']
      have hpl := zpush_len w (-t.2.2.2.1 p)
      refine ih σ2 _ hF2 (h.keep hK2 rfl fun k => ⟨rfl, rfl, rfl, rfl, rfl⟩) w2 (by omega) fun σ' w' hK' => hQ σ' ?_ (hK2.tr hK')
      rw [hs, zinv_app]
      exact w'
  intro p hp σ w hF h hw hl
  have f4 := hT.far4 hv hp
  refine zS_ex (zS_of ze_235 ?_)
  simp (disch := first | assumption | omega) only [zn0, zn1, Option.bind_some, zm_ai, zm_al, zm_av, zm_opt, zm_fw, zE_l, zE_r, nI_add, pk_mul, pk_sub, pk_div, pk_rem, zrem, zpm1, zB_i0, zB_i1, zB_ok, zB_T, zB_F, nI_toInt, zT_sub, zT_neg, zT_le, zT_lt, nI_eq, zne1, zne2, zne9, ite_not, or_true, true_or, if_true, if_false, if_pos, if_neg, zw_R, zw_RL, zw_I, zF_R, zw_same, zw_cell, zw_ne, zF_at, zF_ne, ↓zib_118, ↓zxb_118_0, ↓zxb_118_1, ↓zxb_118_2, ↓zxb_118_3, ↓zxb_118_7, ↓zxb_118_8, ↓zxb_118_9, ↓zxb_118_10, ↓zxb_118_11, ↓zxb_118_12, ↓zxb_118_13, ↓zxb_118_14, ↓zxb_118_15, ↓zxb_118_17, ↓zxb_118_18, ↓zxb_118_19, ↓zxb_118_21, ↓zxb_118_22, ↓zxb_118_24, ↓zxb_118_25, ↓zxb_118_30, ↓zxb_118_35, ↓zxb_118_36, ↓zxb_118_37, ↓zxb_118_38, ↓zxb_118_39, ↓zxb_118_41, ↓zxb_118_42, ↓zxb_118_44, ↓zxb_118_45, ↓zxb_118_46, ↓zgb_119, ↓zsb_119, ↓zgb_120, ↓zsb_120, ↓zgb_121, ↓zsb_121, ↓zgb_122, ↓zsb_122, ↓zgb_123, ↓zsb_123, ↓zgb_124, ↓zsb_124, ↓zgb_125, ↓zsb_125, ↓zgb_126, ↓zsb_126, ↓zgb_127, ↓zsb_127, ↓zgb_128, ↓zsb_128, ↓zgb_129, ↓zsb_129, ↓zgb_130, ↓zsb_130, ↓zgb_131, ↓zsb_131, ↓zgb_132, ↓zsb_132, ↓zgb_133, ↓zsb_133, ↓zgb_134, ↓zsb_134, ↓zgb_135, ↓zsb_135, ↓zgb_136, ↓zsb_136, ↓zgb_137, ↓zsb_137, ↓zgb_139, ↓zsb_139, ↓zgb_140, ↓zsb_140, ↓zgb_141, ↓zsb_141, ↓zgb_142, ↓zsb_142, ↓zgb_143, ↓zsb_143, ↓zgb_144, ↓zsb_144, ↓zgb_145, ↓zsb_145, ↓zgb_146, ↓zsb_146, ↓zgb_147, ↓zsb_147, zi_118, zx_118_0, zx_118_1, zx_118_2, zx_118_3, zx_118_7, zx_118_8, zx_118_9, zx_118_10, zx_118_11, zx_118_12, zx_118_13, zx_118_14, zx_118_15, zx_118_17, zx_118_18, zx_118_19, zx_118_21, zx_118_22, zx_118_24, zx_118_25, zx_118_30, zx_118_35, zx_118_36, zx_118_37, zx_118_38, zx_118_39, zx_118_41, zx_118_42, zx_118_44, zx_118_45, zx_118_46, zgI_119, zsI_119, zgI_120, zsI_120, zgI_121, zsI_121, zgI_122, zsI_122, zgI_123, zsI_123, zgI_124, zsI_124, zgI_125, zsI_125, zgI_126, zsI_126, zgI_127, zsI_127, zgI_128, zsI_128, zgI_129, zsI_129, zgI_130, zsI_130, zgI_131, zsI_131, zgI_132, zsI_132, zgI_133, zsI_133, zgI_134, zsI_134, zgI_135, zsI_135, zgI_136, zsI_136, zgI_137, zsI_137, zgI_139, zsI_139, zgI_140, zsI_140, zgI_141, zsI_141, zgI_142, zsI_142, zgI_143, zsI_143, zgI_144, zsI_144, zgI_145, zsI_145, zgI_146, zsI_146, zgI_147, zsI_147, zb_235_0]
  refine key _ p hp σ w hF h hw (by rw [zway_len]; omega) fun σ' w' hK => ⟨σ', rfl, w', hK⟩
end ZWY
