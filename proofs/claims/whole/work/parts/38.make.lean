/-! words written from a point; rules of all points -/
noncomputable def zls (G : zG) (t : zT) (p : Nat) (v : Int32) : Int32 := if 0 < v.toInt then nI (zsg G t (G.2.1 * p + (v.toNatClampNeg - 1))) else -nI (zsg G t (G.2.1 * zmv G p v + ((-v).toNatClampNeg - 1)))
theorem zls_p {G : zG} {t : zT} {p x : Nat} (hx : x < 1000) : zls G t p (nI (x + 1)) = nI (zsg G t (G.2.1 * p + x)) := by
  unfold zls
  rw [if_pos (by rw [nI_toInt (by omega)]; omega), nI_clamp (by omega), Nat.add_sub_cancel]
theorem zls_n {G : zG} {t : zT} {p x : Nat} (hx : x < 1000) : zls G t p (-nI (x + 1)) = -nI (zsg G t (G.2.1 * G.2.2.2.1 x p + x)) := by
  unfold zls
  rw [if_neg (by rw [zT_neg (by omega)]; omega), zmv_n _ _ hx, Int32.neg_neg, nI_clamp (by omega), Nat.add_sub_cancel]
def zps (w : List Int32) (v : Int32) : List Int32 := if v = nI 0 then w else zpush w v
theorem zps_0 {w : List Int32} {v : Int32} (h : v = nI 0) : zps w v = w := if_pos h
theorem zps_n {w : List Int32} {v : Int32} (h : ¬ v = nI 0) : zps w v = zpush w v := if_neg h
theorem zps_len (w : List Int32) (v : Int32) : (zps w v).length ≤ w.length + 1 := by
  unfold zps
  split
  · omega
  · exact zpush_len w v
theorem zps_red {w : List Int32} (h : zRed w) (v : Int32) : zRed (zps w v) := by
  unfold zps
  split
  · exact h
  · exact zpush_red h v
noncomputable def zwr (G : zG) (t : zT) (s : Nat × List Int32) (v : Int32) : Nat × List Int32 := (zmv G s.1 v, zps s.2 (zls G t s.1 v))
noncomputable def zwt (G : zG) (t : zT) (p : Nat) (l : List Int32) : Nat × List Int32 := l.foldl (zwr G t) (p, [])
theorem zwt_take {G : zG} {t : zT} {p k : Nat} {l : List Int32} (h : k < l.length) : zwt G t p (l.take (k + 1)) = zwr G t (zwt G t p (l.take k)) (zat l k) := zfold_take _ _ h
theorem zwt_ok {G : zG} {t : zT} (hv : zGv G) {p : Nat} (hp : p < G.1) (l : List Int32) : (∀ v ∈ l, zLt G.2.1 v) → (zwt G t p l).1 < G.1 ∧ (zwt G t p l).2.length ≤ l.length ∧ zRed (zwt G t p l).2 := by
  refine zsnoc_ind (P := fun l => (∀ v ∈ l, zLt G.2.1 v) → (zwt G t p l).1 < G.1 ∧ (zwt G t p l).2.length ≤ l.length ∧ zRed (zwt G t p l).2) (fun _ => ⟨hp, Nat.le_refl _, zRed.nil⟩) (fun l x ih hl => ?_) l
  obtain ⟨h1, h2, h3⟩ := ih fun v hv => hl v (List.mem_append.mpr (Or.inl hv))
  have e : zwt G t p (l ++ [x]) = zwr G t (zwt G t p l) x := by
    unfold zwt
    rw [List.foldl_append]
    rfl
  rw [e]
  refine ⟨zmv_lt hv h1 (hl x (by simp)), ?_, zps_red h3 _⟩
  have := zps_len (zwt G t p l).2 (zls G t (zwt G t p l).1 x)
  show (zps (zwt G t p l).2 (zls G t (zwt G t p l).1 x)).length ≤ _
  rw [List.length_append, List.length_singleton]
  omega
/-- signs in it -/
theorem zls_sg {G : zG} {t : zT} (hv : zGv G) {p : Nat} (hp : p < G.1) {v : Int32} (hl : zLt G.2.1 v) : ∃ e, e < G.1 * G.2.1 ∧ (zls G t p v = nI (zsg G t e) ∨ zls G t p v = -nI (zsg G t e)) := by
  have v2 := hv.2.1
  obtain ⟨x, hx, rfl | rfl⟩ := hl
  · exact ⟨_, zgk hp hx, Or.inl (zls_p (by omega))⟩
  · exact ⟨_, zgk (hv.2.2.2.1 x p hx hp).2.1 hx, Or.inr (zls_n (by omega))⟩
theorem zwt_mem {G : zG} {t : zT} (hv : zGv G) {p : Nat} (hp : p < G.1) (l : List Int32) : (∀ v ∈ l, zLt G.2.1 v) → ∀ x ∈ (zwt G t p l).2, ∃ b, 1 ≤ b ∧ b ≤ zsn G t ∧ (x = nI b ∨ x = -nI b) := by
  refine zsnoc_ind (P := fun l => (∀ v ∈ l, zLt G.2.1 v) → ∀ x ∈ (zwt G t p l).2, ∃ b, 1 ≤ b ∧ b ≤ zsn G t ∧ (x = nI b ∨ x = -nI b)) (fun _ x hx => by cases hx) (fun l y ih hl => ?_) l
  have hl1 : ∀ v ∈ l, zLt G.2.1 v := fun v hv => hl v (List.mem_append.mpr (Or.inl hv))
  have ih := ih hl1
  have e : zwt G t p (l ++ [y]) = zwr G t (zwt G t p l) y := by
    unfold zwt
    rw [List.foldl_append]
    rfl
  intro x hx
  rw [e] at hx
  have hx : x ∈ zps (zwt G t p l).2 (zls G t (zwt G t p l).1 y) := hx
  by_cases h0 : zls G t (zwt G t p l).1 y = nI 0
  · rw [zps_0 h0] at hx
    exact ih x hx
  · rw [zps_n h0] at hx
    rcases zpush_mem hx with hx | hx
    · exact ih x hx
    · obtain ⟨f, hf, q⟩ := zls_sg (t := t) hv (zwt_ok (t := t) hv hp l hl1).1 (hl y (by simp))
      refine ⟨zsg G t f, ?_, zsg_le hf, by rw [hx]; exact q⟩
      rcases Nat.eq_zero_or_pos (zsg G t f) with z | z
      · exfalso
        apply h0
        rcases q with q | q
        · rw [q, z]
        · rw [q, z]; decide
      · exact z
theorem zFW_lo {o a k : Nat} (ho : zWo o) (ha : a ≤ 47 ∨ 59 ≤ a) : zFW o a k = false := by
  simp only [zFW, Bool.or_eq_false_iff, Bool.and_eq_false_iff, beq_eq_false_iff_ne]
  rcases ho with rfl | rfl | rfl <;> omega
section ZWT
variable {σ : zm_Sig} {a : Nat} {G : zG} {t : zT}
theorem c_pushz {o : Nat} {w : List Int32} (hF : zFix σ) (ho : zWo o) (h : zCW σ o w) (hw : w.length < 400) (v : Int32) : ∃ σ', zM 66 [.ref o, .int v] zL σ = some (none, zL, σ') ∧ zCW σ' o (zps w v) ∧ zKeep (zFW o) σ σ' := by
  by_cases e : v = nI 0
  · rw [zps_0 e, e]
    exact ⟨σ, c_push0, h, zKeep.rf _ _⟩
  · rw [zps_n e]
    exact c_push hF ho h hw e
theorem zCN.keepW {σ' : zm_Sig} {o : Nat} (h : zCN σ G t) (ho : zWo o) (hK : zKeep (zFW o) σ σ') : zCN σ' G t := h.keep hK (zFW_lo ho (by omega)) fun k => ⟨zFW_lo ho (by omega), zFW_lo ho (by omega), zFW_lo ho (by omega)⟩
theorem zCG.keepW {σ' : zm_Sig} {o : Nat} (h : zCG σ a G) (hv : zGv G) (ha : zGo a) (ho : zWo o) (hK : zKeep (zFW o) σ σ') : zCG σ' a G := by
  have := ha.ge
  exact h.keep hv hK (fun k _ => zFW_lo ho (by omega)) fun b k hb _ => zFW_lo ho (by omega)
theorem zFW_fix {o : Nat} (ho : zWo o) : zFx.all (fun q => !zFW o q.1 q.2.1) = true := by rcases ho with rfl | rfl | rfl <;> rfl
theorem c_write64 {o r3 N p : Nat} {l : List Int32} (hF : zFix σ) (ha : zGo a) (hG : zCG σ a G) (hv : zGv G) (hN : zCN σ G t) (ho : zWo o) (hr3 : zL[r3]? = some (1, N)) (hr4 : r3 ≤ 47 ∨ 59 ≤ r3) (hlN : l.length ≤ N) (hl40 : N ≤ 40) (hp : p < G.1) (hl : ∀ v ∈ l, zLt G.2.1 v) (hat : ∀ k, k < l.length → σ.1 r3 k = zat l k) :
    ∃ σ', zM 64 [.ref 20, .ref a, .int (nI p), .ref r3, .int (nI l.length), .ref o] zL σ = some (some (.int (nI (zwt G t p l).1)), zL, σ') ∧ zCW σ' o (zwt G t p l).2 ∧ zKeep (zFW o) σ σ' := by
  refine zS_ex (zS_of ze_64 ?_)
  have v1 := hv.1
  have v2 := hv.2.1
  have h15 := zng hv
  simp (disch := first | assumption | omega) only [zn0, zn1, Option.bind_some, zm_ai, zm_al, zm_av, zm_opt, zm_fw, zE_l, zE_r, nI_add, pk_mul, pk_sub, pk_div, pk_rem, zrem, zpm1, zB_i0, zB_i1, zB_ok, zB_T, zB_F, nI_toInt, zT_sub, zT_neg, zT_le, zT_lt, nI_eq, zne1, zne2, zne9, ite_not, or_true, true_or, if_true, if_false, if_pos, if_neg, zw_R, zw_RL, zw_I, zF_R, zw_same, zw_cell, zw_ne, zF_at, zF_ne, zi_0, zi_1, zi_10, zi_17, zi_19, zi_20, zi_30, zi_48, zi_50, zi_52, zi_57, zi_59, zi_80, zi_93, zi_106, zi_110, zi_114, zx_0_0, zx_0_1, zx_0_2, zx_0_3, zx_0_4, zx_0_5, zx_0_6, zx_0_7, zx_0_8, zx_0_9, zx_0_10, zx_1_0, zx_1_1, zx_2_0, zx_2_1, zx_2_2, zx_2_3, zx_2_4, zx_2_5, zx_10_0, zx_10_1, zx_11_0, zx_11_1, zx_11_2, zx_11_3, zx_17_0, zx_19_0, zx_19_1, zx_19_2, zx_20_0, zx_20_1, zx_20_3, zx_20_4, zx_20_5, zx_20_6, zx_20_7, zx_20_8, zx_20_9, zx_30_0, zx_30_1, zx_30_4, zx_30_5, zx_48_0, zx_50_0, zx_52_0, zx_52_1, zx_52_2, zx_56_0, zx_56_1, zx_56_2, zx_57_0, zx_59_0, zx_80_3, zx_80_4, zx_80_5, zx_81_0, zx_81_1, zx_81_2, zx_81_3, zx_81_4, zx_81_5, zx_88_0, zx_88_1, zx_88_2, zx_93_3, zx_93_4, zx_93_5, zx_94_0, zx_94_1, zx_94_2, zx_94_3, zx_94_4, zx_94_5, zx_101_0, zx_101_1, zx_101_2, zx_106_0, zx_106_1, zx_106_2, zx_110_0, zx_110_1, zx_110_2, zx_114_0, zx_114_1, zx_114_2, zgI_9, zsI_9, zgI_16, zsI_16, zgI_18, zsI_18, zgI_21, zsI_21, zgI_22, zsI_22, zgI_23, zsI_23, zgI_24, zsI_24, zgI_25, zsI_25, zgI_26, zsI_26, zgI_27, zsI_27, zgI_28, zsI_28, zgI_29, zsI_29, zgI_47, zsI_47, zgI_49, zsI_49, zgI_51, zsI_51, zgI_53, zsI_53, zgI_54, zsI_54, zgI_55, zsI_55, zgI_58, zsI_58, zgI_76, zsI_76, zgI_79, zsI_79, zb_64_0, zWo_i, c_clear ho]
  refine zloop (fun k σ1 => (11, [(0, .ref 20), (1, .ref a), (3, .ref r3), (4, .int (nI l.length)), (5, .ref o), (6, .int (nI (zwt G t p (l.take k)).1)), (7, .int (nI k))], [], zL, σ1, 0, 0)) (fun k σ1 => zCW σ1 o (zwt G t p (l.take k)).2 ∧ zKeep (zFW o) σ σ1) l.length (fun k σ1 hk hI ih => ?_) (fun σ1 hI => ?_) 0 _ (by omega) (zCW_clear o σ)
  · obtain ⟨hC, hK⟩ := hI
    have hF1 := hK.fix hF (zFW_fix ho)
    have hG1 := hG.keepW hv ha ho hK
    have hN1 := hN.keepW ho hK
    have hvk : σ1.1 r3 k = zat l k := (hK.i (zFW_lo ho hr4)).trans (hat k hk)
    have hlt := hl _ (zat_mem hk)
    obtain ⟨w1, w2, w3⟩ := zwt_ok (t := t) hv hp (l.take k) fun v hv => hl v (List.mem_of_mem_take hv)
    rw [List.length_take] at w2
    rw [zwt_take hk] at ih
    generalize zwt G t p (l.take k) = s at *
    have hisl := c_isLetter (σ := σ1) ha hG1 hv (zat l k)
    rw [zB_t hlt] at hisl
    have hmv := c_moved hF1 ha hG1 hv w1 hlt
    have hln := zlen (k := 0) hr3
    generalize hz : zat l k = v at *
    refine zW_of zg_64_11 ?_
    obtain ⟨x, hx, rfl | rfl⟩ := hlt
    · have hed := c_edgeOf (σ := σ1) ha hG1 s.1 x
      have he := zgk w1 hx
      have hsg := (hN1.2 _ he).2.1
      have e15 : G.2.1 * s.1 + x < 15 := by omega
      obtain ⟨σ2, e2, hC2, hK2⟩ := c_pushz hF1 ho hC (by omega) (nI (zsg G t (G.2.1 * s.1 + x)))
      simp (disch := first | assumption | omega) only [zn0, zn1, Option.bind_some, zm_ai, zm_al, zm_av, zm_opt, zm_fw, zE_l, zE_r, nI_add, pk_mul, pk_sub, pk_div, pk_rem, zrem, zpm1, zB_i0, zB_i1, zB_ok, zB_T, zB_F, nI_toInt, zT_sub, zT_neg, zT_le, zT_lt, nI_eq, zne1, zne2, zne9, ite_not, or_true, true_or, if_true, if_false, if_pos, if_neg, zw_R, zw_RL, zw_I, zF_R, zw_same, zw_cell, zw_ne, zF_at, zF_ne, zi_0, zi_1, zi_10, zi_17, zi_19, zi_20, zi_30, zi_48, zi_50, zi_52, zi_57, zi_59, zi_80, zi_93, zi_106, zi_110, zi_114, zx_0_0, zx_0_1, zx_0_2, zx_0_3, zx_0_4, zx_0_5, zx_0_6, zx_0_7, zx_0_8, zx_0_9, zx_0_10, zx_1_0, zx_1_1, zx_2_0, zx_2_1, zx_2_2, zx_2_3, zx_2_4, zx_2_5, zx_10_0, zx_10_1, zx_11_0, zx_11_1, zx_11_2, zx_11_3, zx_17_0, zx_19_0, zx_19_1, zx_19_2, zx_20_0, zx_20_1, zx_20_3, zx_20_4, zx_20_5, zx_20_6, zx_20_7, zx_20_8, zx_20_9, zx_30_0, zx_30_1, zx_30_4, zx_30_5, zx_48_0, zx_50_0, zx_52_0, zx_52_1, zx_52_2, zx_56_0, zx_56_1, zx_56_2, zx_57_0, zx_59_0, zx_80_3, zx_80_4, zx_80_5, zx_81_0, zx_81_1, zx_81_2, zx_81_3, zx_81_4, zx_81_5, zx_88_0, zx_88_1, zx_88_2, zx_93_3, zx_93_4, zx_93_5, zx_94_0, zx_94_1, zx_94_2, zx_94_3, zx_94_4, zx_94_5, zx_101_0, zx_101_1, zx_101_2, zx_106_0, zx_106_1, zx_106_2, zx_110_0, zx_110_1, zx_110_2, zx_114_0, zx_114_1, zx_114_2, zgI_9, zsI_9, zgI_16, zsI_16, zgI_18, zsI_18, zgI_21, zsI_21, zgI_22, zsI_22, zgI_23, zsI_23, zgI_24, zsI_24, zgI_25, zsI_25, zgI_26, zsI_26, zgI_27, zsI_27, zgI_28, zsI_28, zgI_29, zsI_29, zgI_47, zsI_47, zgI_49, zsI_49, zgI_51, zsI_51, zgI_53, zsI_53, zgI_54, zsI_54, zgI_55, zsI_55, zgI_58, zsI_58, zgI_76, zsI_76, zgI_79, zsI_79, zb_64_11, hln, zgI hr3, hvk, zGo_i, hisl, not_false, hmv, Nat.add_sub_cancel, hed, hsg, zWo_i, e2]
      refine ih σ2 ⟨?_, hK.tr hK2⟩
      show zCW σ2 o (zps s.2 (zls G t s.1 (nI (x + 1))))
      rw [zls_p (by omega)]
      exact hC2
    · have hq := (hv.2.2.2.1 x s.1 hx w1).2.1
      have emv := zmv_n G s.1 (show x < 1000 by omega)
      rw [emv] at hmv
      have hed := c_edgeOf (σ := σ1) ha hG1 (G.2.2.2.1 x s.1) x
      have he := zgk hq hx
      have hsg := (hN1.2 _ he).2.1
      have e15 : G.2.1 * G.2.2.2.1 x s.1 + x < 15 := by omega
      obtain ⟨σ2, e2, hC2, hK2⟩ := c_pushz hF1 ho hC (by omega) (-nI (zsg G t (G.2.1 * G.2.2.2.1 x s.1 + x)))
      simp (disch := first | assumption | omega) only [zn0, zn1, Option.bind_some, zm_ai, zm_al, zm_av, zm_opt, zm_fw, zE_l, zE_r, nI_add, pk_mul, pk_sub, pk_div, pk_rem, zrem, zpm1, zB_i0, zB_i1, zB_ok, zB_T, zB_F, nI_toInt, zT_sub, zT_neg, zT_le, zT_lt, nI_eq, zne1, zne2, zne9, ite_not, or_true, true_or, if_true, if_false, if_pos, if_neg, zw_R, zw_RL, zw_I, zF_R, zw_same, zw_cell, zw_ne, zF_at, zF_ne, zi_0, zi_1, zi_10, zi_17, zi_19, zi_20, zi_30, zi_48, zi_50, zi_52, zi_57, zi_59, zi_80, zi_93, zi_106, zi_110, zi_114, zx_0_0, zx_0_1, zx_0_2, zx_0_3, zx_0_4, zx_0_5, zx_0_6, zx_0_7, zx_0_8, zx_0_9, zx_0_10, zx_1_0, zx_1_1, zx_2_0, zx_2_1, zx_2_2, zx_2_3, zx_2_4, zx_2_5, zx_10_0, zx_10_1, zx_11_0, zx_11_1, zx_11_2, zx_11_3, zx_17_0, zx_19_0, zx_19_1, zx_19_2, zx_20_0, zx_20_1, zx_20_3, zx_20_4, zx_20_5, zx_20_6, zx_20_7, zx_20_8, zx_20_9, zx_30_0, zx_30_1, zx_30_4, zx_30_5, zx_48_0, zx_50_0, zx_52_0, zx_52_1, zx_52_2, zx_56_0, zx_56_1, zx_56_2, zx_57_0, zx_59_0, zx_80_3, zx_80_4, zx_80_5, zx_81_0, zx_81_1, zx_81_2, zx_81_3, zx_81_4, zx_81_5, zx_88_0, zx_88_1, zx_88_2, zx_93_3, zx_93_4, zx_93_5, zx_94_0, zx_94_1, zx_94_2, zx_94_3, zx_94_4, zx_94_5, zx_101_0, zx_101_1, zx_101_2, zx_106_0, zx_106_1, zx_106_2, zx_110_0, zx_110_1, zx_110_2, zx_114_0, zx_114_1, zx_114_2, zgI_9, zsI_9, zgI_16, zsI_16, zgI_18, zsI_18, zgI_21, zsI_21, zgI_22, zsI_22, zgI_23, zsI_23, zgI_24, zsI_24, zgI_25, zsI_25, zgI_26, zsI_26, zgI_27, zsI_27, zgI_28, zsI_28, zgI_29, zsI_29, zgI_47, zsI_47, zgI_49, zsI_49, zgI_51, zsI_51, zgI_53, zsI_53, zgI_54, zsI_54, zgI_55, zsI_55, zgI_58, zsI_58, zgI_76, zsI_76, zgI_79, zsI_79, zb_64_11, hln, zgI hr3, hvk, zGo_i, hisl, not_false, hmv, Int32.neg_neg, Nat.add_sub_cancel, hed, hsg, zWo_i, e2]
      have := ih σ2 ⟨by
        show zCW σ2 o (zps s.2 (zls G t s.1 (-nI (x + 1))))
        rw [zls_n (by omega)]
        exact hC2, hK.tr hK2⟩
      have e3 : (zwr G t s (-nI (x + 1))).1 = G.2.2.2.1 x s.1 := emv
      rw [e3] at this
      exact this
  · obtain ⟨hC, hK⟩ := hI
    refine zW_of zg_64_11 ?_
    rw [List.take_length] at hC ⊢
    simp (disch := first | assumption | omega) only [zn0, zn1, Option.bind_some, zm_ai, zm_al, zm_av, zm_opt, zm_fw, zE_l, zE_r, nI_add, pk_mul, pk_sub, pk_div, pk_rem, zrem, zpm1, zB_i0, zB_i1, zB_ok, zB_T, zB_F, nI_toInt, zT_sub, zT_neg, zT_le, zT_lt, nI_eq, zne1, zne2, zne9, ite_not, or_true, true_or, if_true, if_false, if_pos, if_neg, zw_R, zw_RL, zw_I, zF_R, zw_same, zw_cell, zw_ne, zF_at, zF_ne, zi_0, zi_1, zi_10, zi_17, zi_19, zi_20, zi_30, zi_48, zi_50, zi_52, zi_57, zi_59, zi_80, zi_93, zi_106, zi_110, zi_114, zx_0_0, zx_0_1, zx_0_2, zx_0_3, zx_0_4, zx_0_5, zx_0_6, zx_0_7, zx_0_8, zx_0_9, zx_0_10, zx_1_0, zx_1_1, zx_2_0, zx_2_1, zx_2_2, zx_2_3, zx_2_4, zx_2_5, zx_10_0, zx_10_1, zx_11_0, zx_11_1, zx_11_2, zx_11_3, zx_17_0, zx_19_0, zx_19_1, zx_19_2, zx_20_0, zx_20_1, zx_20_3, zx_20_4, zx_20_5, zx_20_6, zx_20_7, zx_20_8, zx_20_9, zx_30_0, zx_30_1, zx_30_4, zx_30_5, zx_48_0, zx_50_0, zx_52_0, zx_52_1, zx_52_2, zx_56_0, zx_56_1, zx_56_2, zx_57_0, zx_59_0, zx_80_3, zx_80_4, zx_80_5, zx_81_0, zx_81_1, zx_81_2, zx_81_3, zx_81_4, zx_81_5, zx_88_0, zx_88_1, zx_88_2, zx_93_3, zx_93_4, zx_93_5, zx_94_0, zx_94_1, zx_94_2, zx_94_3, zx_94_4, zx_94_5, zx_101_0, zx_101_1, zx_101_2, zx_106_0, zx_106_1, zx_106_2, zx_110_0, zx_110_1, zx_110_2, zx_114_0, zx_114_1, zx_114_2, zgI_9, zsI_9, zgI_16, zsI_16, zgI_18, zsI_18, zgI_21, zsI_21, zgI_22, zsI_22, zgI_23, zsI_23, zgI_24, zsI_24, zgI_25, zsI_25, zgI_26, zsI_26, zgI_27, zsI_27, zgI_28, zsI_28, zgI_29, zsI_29, zgI_47, zsI_47, zgI_49, zsI_49, zgI_51, zsI_51, zgI_53, zsI_53, zgI_54, zsI_54, zgI_55, zsI_55, zgI_58, zsI_58, zgI_76, zsI_76, zgI_79, zsI_79, zb_64_11]
    exact ⟨σ1, rfl, hC, hK⟩
/-- a rule behind the last one -/
theorem zr_snoc {rs : List (List Int32)} {w : List Int32} {j : Nat} (hj : j < rs.length + 1) : zr (rs ++ [w]) j = if j = rs.length then w else zr rs j := by
  unfold zr
  rw [List.getD_eq_getElem?_getD, List.getD_eq_getElem?_getD]
  by_cases e : j = rs.length
  · subst e
    rw [List.getElem?_append_right (Nat.le_refl _), Nat.sub_self, if_pos rfl]
    rfl
  · rw [List.getElem?_append_left (by omega), if_neg e]
theorem c_storeN {π : Nat → Nat} {rs : List (List Int32)} {w : List Int32} (hF : zFix σ) (hp : zPi σ π) (h2 : σ.1 30 2 = nI (rs.length + 1)) (h3 : ∀ i, i < rs.length → zCr σ π i (zr rs i)) (hl : rs.length < 15) (hd : zCW σ 48 w) (hw : w.length ≤ 16) :
    ∃ σ', zM 67 [.ref 30, .int (nI rs.length)] zL σ = some (none, zL, σ') ∧ zCR σ' π (rs ++ [w]) ∧ zKeep zFR σ σ' := by
  obtain ⟨p1, p2, p3⟩ := hp
  have hpi := p2 rs.length (by omega)
  obtain ⟨d1, d2⟩ := hd
  refine zS_ex (zS_of ze_67 ?_)
  have hc := fun σ' => zcpy_11 (σ := σ') (s0 := 49) (d := 32 + π rs.length) (n0 := 400) (n1 := 16) (n := w.length) rfl (zL_ru hpi) (by omega) hw (by omega)
  simp (disch := first | assumption | omega) only [zn0, zn1, Option.bind_some, zm_ai, zm_al, zm_av, zm_opt, zm_fw, zE_l, zE_r, nI_add, pk_mul, pk_sub, pk_div, pk_rem, zrem, zpm1, zB_i0, zB_i1, zB_ok, zB_T, zB_F, nI_toInt, zT_sub, zT_neg, zT_le, zT_lt, nI_eq, zne1, zne2, zne9, ite_not, or_true, true_or, if_true, if_false, if_pos, if_neg, zw_R, zw_RL, zw_I, zF_R, zw_same, zw_cell, zw_ne, zF_at, zF_ne, zi_0, zi_1, zi_10, zi_17, zi_19, zi_20, zi_30, zi_48, zi_50, zi_52, zi_57, zi_59, zi_80, zi_93, zi_106, zi_110, zi_114, zx_0_0, zx_0_1, zx_0_2, zx_0_3, zx_0_4, zx_0_5, zx_0_6, zx_0_7, zx_0_8, zx_0_9, zx_0_10, zx_1_0, zx_1_1, zx_2_0, zx_2_1, zx_2_2, zx_2_3, zx_2_4, zx_2_5, zx_10_0, zx_10_1, zx_11_0, zx_11_1, zx_11_2, zx_11_3, zx_17_0, zx_19_0, zx_19_1, zx_19_2, zx_20_0, zx_20_1, zx_20_3, zx_20_4, zx_20_5, zx_20_6, zx_20_7, zx_20_8, zx_20_9, zx_30_0, zx_30_1, zx_30_4, zx_30_5, zx_48_0, zx_50_0, zx_52_0, zx_52_1, zx_52_2, zx_56_0, zx_56_1, zx_56_2, zx_57_0, zx_59_0, zx_80_3, zx_80_4, zx_80_5, zx_81_0, zx_81_1, zx_81_2, zx_81_3, zx_81_4, zx_81_5, zx_88_0, zx_88_1, zx_88_2, zx_93_3, zx_93_4, zx_93_5, zx_94_0, zx_94_1, zx_94_2, zx_94_3, zx_94_4, zx_94_5, zx_101_0, zx_101_1, zx_101_2, zx_106_0, zx_106_1, zx_106_2, zx_110_0, zx_110_1, zx_110_2, zx_114_0, zx_114_1, zx_114_2, zgI_9, zsI_9, zgI_16, zsI_16, zgI_18, zsI_18, zgI_21, zsI_21, zgI_22, zsI_22, zgI_23, zsI_23, zgI_24, zsI_24, zgI_25, zsI_25, zgI_26, zsI_26, zgI_27, zsI_27, zgI_28, zsI_28, zgI_29, zsI_29, zgI_47, zsI_47, zgI_49, zsI_49, zgI_51, zsI_51, zgI_53, zsI_53, zgI_54, zsI_54, zgI_55, zsI_55, zgI_58, zsI_58, zgI_76, zsI_76, zgI_79, zsI_79, zb_67_0, d1, c_min, Nat.min_eq_right, p1, zgR_31, hc]
  refine ⟨_, rfl, ⟨⟨p1, p2, p3⟩, ?_, fun j hj => ⟨?_, fun k hk => ?_⟩⟩, ?_⟩
  · rw [List.length_append, List.length_singleton, zF_ne _ _ (by omega), zw_cell _ _ (by decide)]
    exact h2
  · rw [List.length_append, List.length_singleton] at hj
    rw [zr_snoc hj, zF_ne _ _ (by omega)]
    by_cases e : j = rs.length
    · subst e; rw [if_pos rfl, zw_same]
    · rw [if_neg e, zw_ne _ _ (Or.inr e)]
      exact (h3 j (by omega)).1
  · rw [List.length_append, List.length_singleton] at hj
    rw [zr_snoc hj] at hk ⊢
    have hpj := p2 j (by omega)
    by_cases e : j = rs.length
    · subst e
      rw [if_pos rfl] at hk ⊢
      rw [zF_at]
      simp only [if_pos hk]
      exact d2 k hk
    · rw [if_neg e] at hk ⊢
      rw [zF_ne _ _ (fun q => e (p3 j rs.length (by omega) (by omega) (by omega))), zw_cell _ _ (by omega)]
      exact (h3 j (by omega)).2 k hk
  · refine ((zKeep.rf zFR σ).wI rfl).wF fun k => ?_
    simp only [zFR, Bool.and_eq_true, decide_eq_true_eq]
    omega
/-- rules of all points and relators -/
noncomputable def zrl (G : zG) (t : zT) (j : Nat) : List Int32 := (zwt G t (j / G.2.2.2.2.length) (zr G.2.2.2.2 (j % G.2.2.2.2.length))).2
noncomputable def zrls (G : zG) (t : zT) (m : Nat) : List (List Int32) := (List.range m).map (zrl G t)
theorem zrls_s (G : zG) (t : zT) (m : Nat) : zrls G t (m + 1) = zrls G t m ++ [zrl G t m] := by
  unfold zrls
  rw [List.range_succ, List.map_append]
  rfl
theorem zrls_len (G : zG) (t : zT) (m : Nat) : (zrls G t m).length = m := by simp [zrls]
noncomputable def zrules (G : zG) (t : zT) : List (List Int32) := zrls G t (G.2.2.2.2.length * G.1)
def zLeft (S : Nat) : Int32 := (nI 1 <<< (nI S &&& 31)) - nI 1
def zFK (a k : Nat) : Bool := zFD a k || (a == 30 && (k == 2 || k == 3))
theorem zFK_lo {b k : Nat} (hb : b ≤ 29 ∨ 50 ≤ b) : zFK b k = false := by
  simp only [zFK, zFD, zFR, zFW, Bool.or_eq_false_iff, Bool.and_eq_false_iff, decide_eq_false_iff_not, beq_eq_false_iff_ne]
  omega
theorem zrels {G : zG} (hv : zGv G) {r : Nat} (hr : r < G.2.2.2.2.length) : (zr G.2.2.2.2 r).length ≤ 8 ∧ ∀ v ∈ zr G.2.2.2.2 r, zLt G.2.1 v := hv.2.2.2.2 _ (zr_mem hr)
theorem zRn {G : zG} (hv : zGv G) : G.2.2.2.2.length * G.1 ≤ 15 := Nat.le_trans (Nat.mul_le_mul hv.2.2.1 hv.1) (by decide)
theorem zrl_at {G : zG} {t : zT} {p r : Nat} (hr : r < G.2.2.2.2.length) : zrl G t (G.2.2.2.2.length * p + r) = (zwt G t p (zr G.2.2.2.2 r)).2 := by
  unfold zrl
  rw [(zdm hr).1, (zdm hr).2]
theorem c_rmake {π : Nat → Nat} (hF : zFix σ) (ha : zGo a) (hG : zCG σ a G) (hv : zGv G) (hN : zCN σ G t) (hp : zPi σ π) :
    ∃ σ', zM 63 [.ref 30, .ref a, .ref 20] zL σ = some (none, zL, σ') ∧ zCR σ' π (zrules G t) ∧ σ'.1 30 3 = zLeft (zsn G t) ∧ zKeep zFK σ σ' := by
  refine zS_ex (zS_of ze_63 ?_)
  have hge := ha.ge
  have v1 := hv.1
  have v2 := hv.2.1
  have v3 := hv.2.2.1
  have hRn := zRn hv
  have hs := hN.1
  generalize hR : G.2.2.2.2.length = R at *
  have keepG : ∀ {σ'}, zKeep zFK σ σ' → zCG σ' a G := fun hK => hG.keep hv hK (fun k _ => zFK_lo (by omega)) (fun b k hb _ => zFK_lo (by omega))
  have keepN : ∀ {σ'}, zKeep zFK σ σ' → zCN σ' G t := fun hK => hN.keep hK (zFK_lo (by omega)) (fun k => ⟨zFK_lo (by omega), zFK_lo (by omega), zFK_lo (by omega)⟩)
  simp (disch := first | assumption | omega) only [zn0, zn1, Option.bind_some, zm_ai, zm_al, zm_av, zm_opt, zm_fw, zE_l, zE_r, nI_add, pk_mul, pk_sub, pk_div, pk_rem, zrem, zpm1, zB_i0, zB_i1, zB_ok, zB_T, zB_F, nI_toInt, zT_sub, zT_neg, zT_le, zT_lt, nI_eq, zne1, zne2, zne9, ite_not, or_true, true_or, if_true, if_false, if_pos, if_neg, zw_R, zw_RL, zw_I, zF_R, zw_same, zw_cell, zw_ne, zF_at, zF_ne, zi_0, zi_1, zi_10, zi_17, zi_19, zi_20, zi_30, zi_48, zi_50, zi_52, zi_57, zi_59, zi_80, zi_93, zi_106, zi_110, zi_114, zx_0_0, zx_0_1, zx_0_2, zx_0_3, zx_0_4, zx_0_5, zx_0_6, zx_0_7, zx_0_8, zx_0_9, zx_0_10, zx_1_0, zx_1_1, zx_2_0, zx_2_1, zx_2_2, zx_2_3, zx_2_4, zx_2_5, zx_10_0, zx_10_1, zx_11_0, zx_11_1, zx_11_2, zx_11_3, zx_17_0, zx_19_0, zx_19_1, zx_19_2, zx_20_0, zx_20_1, zx_20_3, zx_20_4, zx_20_5, zx_20_6, zx_20_7, zx_20_8, zx_20_9, zx_30_0, zx_30_1, zx_30_4, zx_30_5, zx_48_0, zx_50_0, zx_52_0, zx_52_1, zx_52_2, zx_56_0, zx_56_1, zx_56_2, zx_57_0, zx_59_0, zx_80_3, zx_80_4, zx_80_5, zx_81_0, zx_81_1, zx_81_2, zx_81_3, zx_81_4, zx_81_5, zx_88_0, zx_88_1, zx_88_2, zx_93_3, zx_93_4, zx_93_5, zx_94_0, zx_94_1, zx_94_2, zx_94_3, zx_94_4, zx_94_5, zx_101_0, zx_101_1, zx_101_2, zx_106_0, zx_106_1, zx_106_2, zx_110_0, zx_110_1, zx_110_2, zx_114_0, zx_114_1, zx_114_2, zgI_9, zsI_9, zgI_16, zsI_16, zgI_18, zsI_18, zgI_21, zsI_21, zgI_22, zsI_22, zgI_23, zsI_23, zgI_24, zsI_24, zgI_25, zsI_25, zgI_26, zsI_26, zgI_27, zsI_27, zgI_28, zsI_28, zgI_29, zsI_29, zgI_47, zsI_47, zgI_49, zsI_49, zgI_51, zsI_51, zgI_53, zsI_53, zgI_54, zsI_54, zgI_55, zsI_55, zgI_58, zsI_58, zgI_76, zsI_76, zgI_79, zsI_79, zb_63_0, hs]
  refine zloop (fun p σ1 => (19, [(0, .ref 30), (1, .ref a), (2, .ref 20), (3, .int (nI p))], [], zL, σ1, 0, 0)) (fun p σ1 => zCR σ1 π (zrls G t (R * p)) ∧ σ1.1 30 3 = zLeft (zsn G t) ∧ zKeep zFK σ σ1) G.1 (fun p σ1 hp1 hI ih => ?_) (fun σ1 hI => ?_) 0 _ (by omega) ?_
  · obtain ⟨i1, i2, hK⟩ := hI
    have hg1 := (keepG hK).1
    refine zW_of zg_63_19 ?_
    simp (disch := first | assumption | omega) only [zn0, zn1, Option.bind_some, zm_ai, zm_al, zm_av, zm_opt, zm_fw, zE_l, zE_r, nI_add, pk_mul, pk_sub, pk_div, pk_rem, zrem, zpm1, zB_i0, zB_i1, zB_ok, zB_T, zB_F, nI_toInt, zT_sub, zT_neg, zT_le, zT_lt, nI_eq, zne1, zne2, zne9, ite_not, or_true, true_or, if_true, if_false, if_pos, if_neg, zw_R, zw_RL, zw_I, zF_R, zw_same, zw_cell, zw_ne, zF_at, zF_ne, zi_0, zi_1, zi_10, zi_17, zi_19, zi_20, zi_30, zi_48, zi_50, zi_52, zi_57, zi_59, zi_80, zi_93, zi_106, zi_110, zi_114, zx_0_0, zx_0_1, zx_0_2, zx_0_3, zx_0_4, zx_0_5, zx_0_6, zx_0_7, zx_0_8, zx_0_9, zx_0_10, zx_1_0, zx_1_1, zx_2_0, zx_2_1, zx_2_2, zx_2_3, zx_2_4, zx_2_5, zx_10_0, zx_10_1, zx_11_0, zx_11_1, zx_11_2, zx_11_3, zx_17_0, zx_19_0, zx_19_1, zx_19_2, zx_20_0, zx_20_1, zx_20_3, zx_20_4, zx_20_5, zx_20_6, zx_20_7, zx_20_8, zx_20_9, zx_30_0, zx_30_1, zx_30_4, zx_30_5, zx_48_0, zx_50_0, zx_52_0, zx_52_1, zx_52_2, zx_56_0, zx_56_1, zx_56_2, zx_57_0, zx_59_0, zx_80_3, zx_80_4, zx_80_5, zx_81_0, zx_81_1, zx_81_2, zx_81_3, zx_81_4, zx_81_5, zx_88_0, zx_88_1, zx_88_2, zx_93_3, zx_93_4, zx_93_5, zx_94_0, zx_94_1, zx_94_2, zx_94_3, zx_94_4, zx_94_5, zx_101_0, zx_101_1, zx_101_2, zx_106_0, zx_106_1, zx_106_2, zx_110_0, zx_110_1, zx_110_2, zx_114_0, zx_114_1, zx_114_2, zgI_9, zsI_9, zgI_16, zsI_16, zgI_18, zsI_18, zgI_21, zsI_21, zgI_22, zsI_22, zgI_23, zsI_23, zgI_24, zsI_24, zgI_25, zsI_25, zgI_26, zsI_26, zgI_27, zsI_27, zgI_28, zsI_28, zgI_29, zsI_29, zgI_47, zsI_47, zgI_49, zsI_49, zgI_51, zsI_51, zgI_53, zsI_53, zgI_54, zsI_54, zgI_55, zsI_55, zgI_58, zsI_58, zgI_76, zsI_76, zgI_79, zsI_79, zb_63_19, zGo_i, hg1]
    refine zloop (fun r σ1 => (30, [(0, .ref 30), (1, .ref a), (2, .ref 20), (3, .int (nI p)), (4, .int (nI r))], [], zL, σ1, 0, 0)) (fun r σ1 => zCR σ1 π (zrls G t (R * p + r)) ∧ σ1.1 30 3 = zLeft (zsn G t) ∧ zKeep zFK σ σ1) R (fun r σ1 hr hI ih2 => ?_) (fun σ1 hI => ?_) 0 _ (by omega) ⟨i1, i2, hK⟩
    · obtain ⟨i1, i2, hK⟩ := hI
      have hF1 := hK.fix hF rfl
      have hG1 := keepG hK
      have hN1 := keepN hK
      have hg3 := hG1.2.2.1
      rw [hR] at hg3
      obtain ⟨s1, s2⟩ := hG1.2.2.2.2 r (by omega)
      obtain ⟨l1, l2⟩ := zrels hv (r := r) (by omega)
      have hm : R * p + r < 15 := by
        have := zgk (n := G.1) (g := R) hp1 hr
        rw [Nat.mul_comm G.1 R] at this
        omega
      obtain ⟨σ2, e2, hC2, hK2⟩ := c_write64 (o := 48) (r3 := a + 9 + r) (N := 8) hF1 ha hG1 hv hN1 zw48 (zL_gl ha (by omega)) (by omega) l1 (by omega) hp1 l2 s2
      have i1' := i1.keep (by rw [zrls_len]; omega) hK2 (zFW_rules (by omega)) rfl
      have hlen : (zrls G t (R * p + r)).length = R * p + r := zrls_len _ _ _
      have hwl := (zwt_ok (t := t) hv hp1 _ l2).2.1
      have hsz := i1'.2.1
      rw [hlen] at hsz
      have hK3 : zKeep zFK σ2 (zm_wI σ2 30 2 (nI (R * p + r + 1))) := (zKeep.rf _ _).wI rfl
      have hF3 := (hK2.fix hF1 rfl)
      have hC3 : zCW (zm_wI σ2 30 2 (nI (R * p + r + 1))) 48 (zwt G t p (zr G.2.2.2.2 r)).2 := ⟨by rw [zw_cell _ _ (by decide)]; exact hC2.1, hC2.2.eq fun i _ => by rw [zw_cell _ _ (by decide)]⟩
      obtain ⟨σ4, e4, hR4, hK4⟩ := c_storeN (σ := zm_wI σ2 30 2 (nI (R * p + r + 1))) (π := π) (rs := zrls G t (R * p + r)) hF3 i1'.1 (by rw [zw_same, hlen]) (fun i hi => ⟨by rw [zw_cell _ _ (by decide)]; exact (i1'.2.2 i hi).1, fun k hk => by
        have := i1'.1.2.1 i (by omega)
        rw [zw_cell _ _ (by omega)]; exact (i1'.2.2 i hi).2 k hk⟩) (by omega) hC3 (by omega)
      rw [hlen] at e4
      refine zW_of zg_63_30 ?_
      simp (disch := first | assumption | omega) only [zn0, zn1, Option.bind_some, zm_ai, zm_al, zm_av, zm_opt, zm_fw, zE_l, zE_r, nI_add, pk_mul, pk_sub, pk_div, pk_rem, zrem, zpm1, zB_i0, zB_i1, zB_ok, zB_T, zB_F, nI_toInt, zT_sub, zT_neg, zT_le, zT_lt, nI_eq, zne1, zne2, zne9, ite_not, or_true, true_or, if_true, if_false, if_pos, if_neg, zw_R, zw_RL, zw_I, zF_R, zw_same, zw_cell, zw_ne, zF_at, zF_ne, zi_0, zi_1, zi_10, zi_17, zi_19, zi_20, zi_30, zi_48, zi_50, zi_52, zi_57, zi_59, zi_80, zi_93, zi_106, zi_110, zi_114, zx_0_0, zx_0_1, zx_0_2, zx_0_3, zx_0_4, zx_0_5, zx_0_6, zx_0_7, zx_0_8, zx_0_9, zx_0_10, zx_1_0, zx_1_1, zx_2_0, zx_2_1, zx_2_2, zx_2_3, zx_2_4, zx_2_5, zx_10_0, zx_10_1, zx_11_0, zx_11_1, zx_11_2, zx_11_3, zx_17_0, zx_19_0, zx_19_1, zx_19_2, zx_20_0, zx_20_1, zx_20_3, zx_20_4, zx_20_5, zx_20_6, zx_20_7, zx_20_8, zx_20_9, zx_30_0, zx_30_1, zx_30_4, zx_30_5, zx_48_0, zx_50_0, zx_52_0, zx_52_1, zx_52_2, zx_56_0, zx_56_1, zx_56_2, zx_57_0, zx_59_0, zx_80_3, zx_80_4, zx_80_5, zx_81_0, zx_81_1, zx_81_2, zx_81_3, zx_81_4, zx_81_5, zx_88_0, zx_88_1, zx_88_2, zx_93_3, zx_93_4, zx_93_5, zx_94_0, zx_94_1, zx_94_2, zx_94_3, zx_94_4, zx_94_5, zx_101_0, zx_101_1, zx_101_2, zx_106_0, zx_106_1, zx_106_2, zx_110_0, zx_110_1, zx_110_2, zx_114_0, zx_114_1, zx_114_2, zgI_9, zsI_9, zgI_16, zsI_16, zgI_18, zsI_18, zgI_21, zsI_21, zgI_22, zsI_22, zgI_23, zsI_23, zgI_24, zsI_24, zgI_25, zsI_25, zgI_26, zsI_26, zgI_27, zsI_27, zgI_28, zsI_28, zgI_29, zsI_29, zgI_47, zsI_47, zgI_49, zsI_49, zgI_51, zsI_51, zgI_53, zsI_53, zgI_54, zsI_54, zgI_55, zsI_55, zgI_58, zsI_58, zgI_76, zsI_76, zgI_79, zsI_79, zb_63_30, zGo_i, hg3, zGo_4, zGo_5, zGo_l, zgR_g8, zgI_gs, s1, e2, hsz, Nat.add_sub_cancel, e4]
      refine ih2 σ4 ⟨?_, ?_, ?_⟩
      · have : zrls G t (R * p + (r + 1)) = zrls G t (R * p + r) ++ [(zwt G t p (zr G.2.2.2.2 r)).2] := by
          rw [show R * p + (r + 1) = R * p + r + 1 by omega, zrls_s]
          congr 2
          have := zrl_at (t := t) (p := p) (show r < G.2.2.2.2.length by omega)
          rw [hR] at this
          exact this
        rw [this]
        exact hR4
      · rw [hK4.i rfl, zw_ne _ _ (Or.inr (by decide)), hK2.i rfl]
        exact i2
      · exact ((hK.tr (hK2.mo fun x k q => by simp [zFK, zFD, q])).tr hK3).tr (hK4.mo fun x k q => by simp [zFK, zFD, q])
    · obtain ⟨i1, i2, hK⟩ := hI
      have hg3 := (keepG hK).2.2.1
      rw [hR] at hg3
      refine zW_of zg_63_30 ?_
      simp (disch := first | assumption | omega) only [zn0, zn1, Option.bind_some, zm_ai, zm_al, zm_av, zm_opt, zm_fw, zE_l, zE_r, nI_add, pk_mul, pk_sub, pk_div, pk_rem, zrem, zpm1, zB_i0, zB_i1, zB_ok, zB_T, zB_F, nI_toInt, zT_sub, zT_neg, zT_le, zT_lt, nI_eq, zne1, zne2, zne9, ite_not, or_true, true_or, if_true, if_false, if_pos, if_neg, zw_R, zw_RL, zw_I, zF_R, zw_same, zw_cell, zw_ne, zF_at, zF_ne, zi_0, zi_1, zi_10, zi_17, zi_19, zi_20, zi_30, zi_48, zi_50, zi_52, zi_57, zi_59, zi_80, zi_93, zi_106, zi_110, zi_114, zx_0_0, zx_0_1, zx_0_2, zx_0_3, zx_0_4, zx_0_5, zx_0_6, zx_0_7, zx_0_8, zx_0_9, zx_0_10, zx_1_0, zx_1_1, zx_2_0, zx_2_1, zx_2_2, zx_2_3, zx_2_4, zx_2_5, zx_10_0, zx_10_1, zx_11_0, zx_11_1, zx_11_2, zx_11_3, zx_17_0, zx_19_0, zx_19_1, zx_19_2, zx_20_0, zx_20_1, zx_20_3, zx_20_4, zx_20_5, zx_20_6, zx_20_7, zx_20_8, zx_20_9, zx_30_0, zx_30_1, zx_30_4, zx_30_5, zx_48_0, zx_50_0, zx_52_0, zx_52_1, zx_52_2, zx_56_0, zx_56_1, zx_56_2, zx_57_0, zx_59_0, zx_80_3, zx_80_4, zx_80_5, zx_81_0, zx_81_1, zx_81_2, zx_81_3, zx_81_4, zx_81_5, zx_88_0, zx_88_1, zx_88_2, zx_93_3, zx_93_4, zx_93_5, zx_94_0, zx_94_1, zx_94_2, zx_94_3, zx_94_4, zx_94_5, zx_101_0, zx_101_1, zx_101_2, zx_106_0, zx_106_1, zx_106_2, zx_110_0, zx_110_1, zx_110_2, zx_114_0, zx_114_1, zx_114_2, zgI_9, zsI_9, zgI_16, zsI_16, zgI_18, zsI_18, zgI_21, zsI_21, zgI_22, zsI_22, zgI_23, zsI_23, zgI_24, zsI_24, zgI_25, zsI_25, zgI_26, zsI_26, zgI_27, zsI_27, zgI_28, zsI_28, zgI_29, zsI_29, zgI_47, zsI_47, zgI_49, zsI_49, zgI_51, zsI_51, zgI_53, zsI_53, zgI_54, zsI_54, zgI_55, zsI_55, zgI_58, zsI_58, zgI_76, zsI_76, zgI_79, zsI_79, zb_63_30, zGo_i, hg3]
      refine ih σ1 ⟨?_, i2, hK⟩
      rw [Nat.mul_add, Nat.mul_one]
      exact i1
  · obtain ⟨i1, i2, hK⟩ := hI
    have hg1 := (keepG hK).1
    refine zW_of zg_63_19 ?_
    simp (disch := first | assumption | omega) only [zn0, zn1, Option.bind_some, zm_ai, zm_al, zm_av, zm_opt, zm_fw, zE_l, zE_r, nI_add, pk_mul, pk_sub, pk_div, pk_rem, zrem, zpm1, zB_i0, zB_i1, zB_ok, zB_T, zB_F, nI_toInt, zT_sub, zT_neg, zT_le, zT_lt, nI_eq, zne1, zne2, zne9, ite_not, or_true, true_or, if_true, if_false, if_pos, if_neg, zw_R, zw_RL, zw_I, zF_R, zw_same, zw_cell, zw_ne, zF_at, zF_ne, zi_0, zi_1, zi_10, zi_17, zi_19, zi_20, zi_30, zi_48, zi_50, zi_52, zi_57, zi_59, zi_80, zi_93, zi_106, zi_110, zi_114, zx_0_0, zx_0_1, zx_0_2, zx_0_3, zx_0_4, zx_0_5, zx_0_6, zx_0_7, zx_0_8, zx_0_9, zx_0_10, zx_1_0, zx_1_1, zx_2_0, zx_2_1, zx_2_2, zx_2_3, zx_2_4, zx_2_5, zx_10_0, zx_10_1, zx_11_0, zx_11_1, zx_11_2, zx_11_3, zx_17_0, zx_19_0, zx_19_1, zx_19_2, zx_20_0, zx_20_1, zx_20_3, zx_20_4, zx_20_5, zx_20_6, zx_20_7, zx_20_8, zx_20_9, zx_30_0, zx_30_1, zx_30_4, zx_30_5, zx_48_0, zx_50_0, zx_52_0, zx_52_1, zx_52_2, zx_56_0, zx_56_1, zx_56_2, zx_57_0, zx_59_0, zx_80_3, zx_80_4, zx_80_5, zx_81_0, zx_81_1, zx_81_2, zx_81_3, zx_81_4, zx_81_5, zx_88_0, zx_88_1, zx_88_2, zx_93_3, zx_93_4, zx_93_5, zx_94_0, zx_94_1, zx_94_2, zx_94_3, zx_94_4, zx_94_5, zx_101_0, zx_101_1, zx_101_2, zx_106_0, zx_106_1, zx_106_2, zx_110_0, zx_110_1, zx_110_2, zx_114_0, zx_114_1, zx_114_2, zgI_9, zsI_9, zgI_16, zsI_16, zgI_18, zsI_18, zgI_21, zsI_21, zgI_22, zsI_22, zgI_23, zsI_23, zgI_24, zsI_24, zgI_25, zsI_25, zgI_26, zsI_26, zgI_27, zsI_27, zgI_28, zsI_28, zgI_29, zsI_29, zgI_47, zsI_47, zgI_49, zsI_49, zgI_51, zsI_51, zgI_53, zsI_53, zgI_54, zsI_54, zgI_55, zsI_55, zgI_58, zsI_58, zgI_76, zsI_76, zgI_79, zsI_79, zb_63_19, zGo_i, hg1]
    refine ⟨σ1, rfl, ?_, i2, hK⟩
    unfold zrules
    rw [hR]
    exact i1
  · refine ⟨?_, zw_same _ _ _ _, ((zKeep.rf zFK σ).wI rfl).wI rfl⟩
    rw [Nat.mul_zero]
    exact ⟨hp, by rw [zw_ne _ _ (Or.inr (by decide)), zw_same]; rfl, fun i hi => by cases hi⟩
end ZWT
