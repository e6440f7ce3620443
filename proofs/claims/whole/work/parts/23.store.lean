/-! words of the class; rules are stored -/
def zWo (o : Nat) : Prop := o = 48 ∨ o = 50 ∨ o = 57
theorem zWo_i {o : Nat} (h : zWo o) : zm_is zL o 8 = some () := by rcases h with rfl | rfl | rfl <;> rfl
theorem zWo_f {o : Nat} {σ : zm_Sig} (h : zWo o) (hF : zFix σ) : σ.2.2 o 0 = some (o + 1) := by
  rcases h with rfl | rfl | rfl
  · exact zx_48_0 hF
  · exact zx_50_0 hF
  · exact zx_57_0 hF
theorem zWo_L {o : Nat} (h : zWo o) : zL[o + 1]? = some (1, 400) := by rcases h with rfl | rfl | rfl <;> rfl
theorem zgI_wo {o k : Nat} {σ : zm_Sig} (h : zWo o) (hk : k < 400) : zm_gI zL σ (o + 1) (nI k) = some (σ.1 (o + 1) k) := zgI (zWo_L h) hk (by decide)
theorem zsI_wo {o k : Nat} {σ : zm_Sig} {v : Int32} (h : zWo o) (hk : k < 400) : zm_sI zL σ (o + 1) (nI k) v = some (zm_wI σ (o + 1) k v) := zsI (zWo_L h) hk (by decide)
def zCW (σ : zm_Sig) (o : Nat) (w : List Int32) : Prop := σ.1 o 1 = nI w.length ∧ zWd (σ.1 (o + 1)) w
def zFW (o a k : Nat) : Bool := a == o + 1 || (a == o && k == 1)
theorem zFW_1 (o k : Nat) : zFW o (o + 1) k = true := by simp [zFW]
theorem zFW_0 (o : Nat) : zFW o o 1 = true := by simp [zFW]
theorem zCW.keep {S : Nat → Nat → Bool} {σ σ' : zm_Sig} {o : Nat} {w : List Int32} (h : zCW σ o w) (hk : zKeep S σ σ') (h1 : S o 1 = false) (h2 : ∀ k, S (o + 1) k = false) : zCW σ' o w :=
  ⟨(hk.i h1).trans h.1, h.2.eq fun i _ => hk.i (h2 i)⟩
theorem c_clear {o : Nat} {σ : zm_Sig} (ho : zWo o) : zM 65 [.ref o] zL σ = some (none, zL, zm_wI σ o 1 (nI 0)) := by
  refine zS_eq (zS_of ze_65 ?_)
  simp (disch := first | assumption | omega) only [zn0, zn1, Option.bind_some, zm_ai, zm_al, zm_av, zm_opt, zm_fw, zE_l, zE_r, nI_add, pk_mul, pk_sub, pk_div, pk_rem, zrem, zpm1, zB_i0, zB_i1, zB_ok, zB_T, zB_F, nI_toInt, zT_sub, zT_neg, zT_le, zT_lt, nI_eq, zne1, zne2, ite_not, if_true, if_false, if_pos, if_neg, zw_R, zw_RL, zw_I, zF_R, zw_same, zw_cell, zw_ne, zF_at, zF_ne, zb_65_0, zWo_i]
theorem zCW_clear (o : Nat) (σ : zm_Sig) : zCW (zm_wI σ o 1 (nI 0)) o [] ∧ zKeep (zFW o) σ (zm_wI σ o 1 (nI 0)) := ⟨⟨zw_same _ _ _ _, zWd.nil _⟩, (zKeep.rf _ σ).wI (zFW_0 o)⟩
theorem c_push0 {o : Nat} {σ : zm_Sig} : zM 66 [.ref o, .int (nI 0)] zL σ = some (none, zL, σ) := by
  refine zS_eq (zS_of ze_66 ?_)
  simp (disch := first | assumption | omega) only [zn0, zn1, Option.bind_some, zm_ai, zm_al, zm_av, zm_opt, zm_fw, zE_l, zE_r, nI_add, pk_mul, pk_sub, pk_div, pk_rem, zrem, zpm1, zB_i0, zB_i1, zB_ok, zB_T, zB_F, nI_toInt, zT_sub, zT_neg, zT_le, zT_lt, nI_eq, zne1, zne2, ite_not, if_true, if_false, if_pos, if_neg, zw_R, zw_RL, zw_I, zF_R, zw_same, zw_cell, zw_ne, zF_at, zF_ne, zb_66_0]
theorem c_push {o : Nat} {σ : zm_Sig} {w : List Int32} (hF : zFix σ) (ho : zWo o) (h : zCW σ o w) (hw : w.length < 400) {v : Int32} (hv : ¬ v = nI 0) : ∃ σ', zM 66 [.ref o, .int v] zL σ = some (none, zL, σ') ∧ zCW σ' o (zpush w v) ∧ zKeep (zFW o) σ σ' := by
  obtain ⟨h1, h2⟩ := h
  refine zS_ex (zS_of ze_66 ?_)
  by_cases h0 : w.length = 0
  · have e0 : w = [] := List.length_eq_zero_iff.mp h0
    simp (disch := first | assumption | omega) only [zn0, zn1, Option.bind_some, zm_ai, zm_al, zm_av, zm_opt, zm_fw, zE_l, zE_r, nI_add, pk_mul, pk_sub, pk_div, pk_rem, zrem, zpm1, zB_i0, zB_i1, zB_ok, zB_T, zB_F, nI_toInt, zT_sub, zT_neg, zT_le, zT_lt, nI_eq, zne1, zne2, ite_not, if_true, if_false, if_pos, if_neg, zw_R, zw_RL, zw_I, zF_R, zw_same, zw_cell, zw_ne, zF_at, zF_ne, zb_66_0, h1, zWo_i, zWo_f, zsI_wo]
    refine ⟨_, rfl, ⟨?_, ?_⟩, ?_⟩
    · rw [zw_same, e0]; rfl
    · subst e0
      exact fun i hi => by
        rw [zpush_nil] at hi ⊢
        have : i = 0 := by simpa using hi
        subst this
        rw [zw_cell _ _ (by omega)]
        exact zw_same _ _ _ _
    · exact ((zKeep.rf (zFW o) σ).wI (zFW_1 o _)).wI (zFW_0 o)
  · have hl := h2.last (by omega)
    by_cases e : σ.1 (o + 1) (w.length - 1) = -v
    · simp (disch := first | assumption | omega) only [zn0, zn1, Option.bind_some, zm_ai, zm_al, zm_av, zm_opt, zm_fw, zE_l, zE_r, nI_add, pk_mul, pk_sub, pk_div, pk_rem, zrem, zpm1, zB_i0, zB_i1, zB_ok, zB_T, zB_F, nI_toInt, zT_sub, zT_neg, zT_le, zT_lt, nI_eq, zne1, zne2, ite_not, if_true, if_false, if_pos, if_neg, zw_R, zw_RL, zw_I, zF_R, zw_same, zw_cell, zw_ne, zF_at, zF_ne, zb_66_0, h1, zWo_i, zWo_f, zsI_wo, zgI_wo]
      have ep : zpush w v = w.dropLast := if_pos (by rw [hl, e])
      refine ⟨_, rfl, ⟨?_, ?_⟩, ?_⟩
      · rw [zw_same, ep, List.length_dropLast]
      · rw [ep, zw_cell _ _ (by omega)]
        exact h2.drop
      · exact (zKeep.rf (zFW o) σ).wI (zFW_0 o)
    · simp (disch := first | assumption | omega) only [zn0, zn1, Option.bind_some, zm_ai, zm_al, zm_av, zm_opt, zm_fw, zE_l, zE_r, nI_add, pk_mul, pk_sub, pk_div, pk_rem, zrem, zpm1, zB_i0, zB_i1, zB_ok, zB_T, zB_F, nI_toInt, zT_sub, zT_neg, zT_le, zT_lt, nI_eq, zne1, zne2, ite_not, if_true, if_false, if_pos, if_neg, zw_R, zw_RL, zw_I, zF_R, zw_same, zw_cell, zw_ne, zF_at, zF_ne, zb_66_0, h1, zWo_i, zWo_f, zsI_wo, zgI_wo]
      have ep : zpush w v = w ++ [v] := if_neg (by rw [hl]; exact fun q => e (Option.some.inj q))
      refine ⟨_, rfl, ⟨?_, ?_⟩, ?_⟩
      · rw [zw_same, ep, List.length_append]; rfl
      · rw [ep, zw_cell _ _ (by omega)]
        exact h2.app (fun i hi => zw_ne _ _ (Or.inr (by omega))) (zw_same _ _ _ _)
      · exact ((zKeep.rf (zFW o) σ).wI (zFW_1 o _)).wI (zFW_0 o)
theorem zw48 : zWo 48 := Or.inl rfl
theorem zw50 : zWo 50 := Or.inr (Or.inl rfl)
theorem zw57 : zWo 57 := Or.inr (Or.inr rfl)
/-- rules, all of them -/
def zr (rs : List (List Int32)) (i : Nat) : List Int32 := rs.getD i []
def zCR (σ : zm_Sig) (π : Nat → Nat) (rs : List (List Int32)) : Prop := zPi σ π ∧ σ.1 30 2 = nI rs.length ∧ ∀ i, i < rs.length → zCr σ π i (zr rs i)
def zMR (g : Nat → Int32) (rs : List (List Int32)) : Prop := g 1 = nI rs.length ∧ ∀ i, i < rs.length → zRu g i (zr rs i)
/-- bounds; no sign is 0 -/
def zWR (rs : List (List Int32)) : Prop := rs.length ≤ 15 ∧ ∀ i, i < rs.length → (zr rs i).length ≤ 16 ∧ ∀ x ∈ zr rs i, ¬ x = nI 0
theorem zat_mem {r : List Int32} {k : Nat} (h : k < r.length) : zat r k ∈ r := zgetD_mem 0 h
theorem zr_set {rs : List (List Int32)} {i j : Nat} {w : List Int32} (hi : i < rs.length) : zr (rs.set i w) j = if j = i then w else zr rs j := zget_set hi
theorem zPi.keep {S : Nat → Nat → Bool} {σ σ' : zm_Sig} {π : Nat → Nat} (h : zPi σ π) (hk : zKeep S σ σ') (hS : ∀ k, S 31 k = false) : zPi σ' π :=
  ⟨fun i hi => (hk.r (hS i)).trans (h.1 i hi), h.2⟩
theorem zCr.keep {S : Nat → Nat → Bool} {σ σ' : zm_Sig} {π : Nat → Nat} {i : Nat} {r : List Int32} (h : zCr σ π i r) (hk : zKeep S σ σ') (hp : π i < 15) (hS : ∀ a k, 31 ≤ a → a ≤ 47 → S a k = false) : zCr σ' π i r :=
  ⟨(hk.i (hS 47 i (by omega) (by omega))).trans h.1, fun k hk2 => (hk.i (hS _ k (by omega) (by omega))).trans (h.2 k hk2)⟩
theorem zCR.keep {S : Nat → Nat → Bool} {σ σ' : zm_Sig} {π : Nat → Nat} {rs : List (List Int32)} (h : zCR σ π rs) (hl : rs.length ≤ 15) (hk : zKeep S σ σ') (hS : ∀ a k, 31 ≤ a → a ≤ 47 → S a k = false) (h2 : S 30 2 = false) : zCR σ' π rs :=
  ⟨h.1.keep hk fun k => hS 31 k (by omega) (by omega), (hk.i h2).trans h.2.1, fun i hi => (h.2.2 i hi).keep hk (h.1.2.1 i (by omega)) hS⟩
/-- the draft comes to a rule -/
def zFR (a k : Nat) : Bool := (32 ≤ a && a ≤ 47)
theorem zcpy_11 {σ : zm_Sig} {s0 d n0 n1 n : Nat} (hs : zL[s0]? = some (1, n0)) (hd : zL[d]? = some (1, n1)) (h0 : n ≤ n0) (h1 : n ≤ n1) (hn : n < 1000) : zm_cpy zL σ s0 (nI 0) d (nI 0) (nI n) = some (zm_wF σ d (fun k => if k < n then σ.1 s0 k else σ.1 d k)) := by
  unfold zm_cpy
  rw [hs, hd]
  have e0 : (nI 0).toNatClampNeg = 0 := nI_clamp (by decide)
  have en : (nI n).toNatClampNeg = n := nI_clamp (by omega)
  rw [if_neg (by rintro (h | h | h) <;> first | exact absurd h (nI_pos (by decide)) | exact absurd h (nI_pos (by omega)))]
  simp only [e0, en, Nat.zero_add]
  rw [if_neg (by omega)]
  congr 1
  unfold zm_wF
  congr 2
  funext k
  unfold va_cpy
  simp only [Nat.zero_le, true_and, Nat.sub_zero, Nat.zero_add]
theorem c_min (σ : zm_Sig) (a b : Nat) (ha : a < 1000000) (hb : b < 1000000) : zM 34 [.int (nI a), .int (nI b)] zL σ = some (some (.int (nI (min a b))), zL, σ) := by
  refine zS_eq (zS_of ze_34 ?_)
  by_cases h : b < a
  · simp (disch := first | assumption | omega) only [zn0, zn1, Option.bind_some, zm_ai, zm_al, zm_av, zm_opt, zm_fw, zE_l, zE_r, nI_add, pk_mul, pk_sub, pk_div, pk_rem, zrem, zpm1, zB_i0, zB_i1, zB_ok, zB_T, zB_F, nI_toInt, zT_sub, zT_neg, zT_le, zT_lt, nI_eq, zne1, zne2, ite_not, if_true, if_false, if_pos, if_neg, zw_R, zw_RL, zw_I, zF_R, zw_same, zw_cell, zw_ne, zF_at, zF_ne, zb_34_0]
    rw [Nat.min_eq_right (by omega)]
  · simp (disch := first | assumption | omega) only [zn0, zn1, Option.bind_some, zm_ai, zm_al, zm_av, zm_opt, zm_fw, zE_l, zE_r, nI_add, pk_mul, pk_sub, pk_div, pk_rem, zrem, zpm1, zB_i0, zB_i1, zB_ok, zB_T, zB_F, nI_toInt, zT_sub, zT_neg, zT_le, zT_lt, nI_eq, zne1, zne2, ite_not, if_true, if_false, if_pos, if_neg, zw_R, zw_RL, zw_I, zF_R, zw_same, zw_cell, zw_ne, zF_at, zF_ne, zb_34_0]
    rw [Nat.min_eq_left (by omega)]
theorem c_store {σ : zm_Sig} {π : Nat → Nat} {rs : List (List Int32)} {w : List Int32} {i : Nat} (hF : zFix σ) (h : zCR σ π rs) (hl : rs.length ≤ 15) (hd : zCW σ 48 w) (hw : w.length ≤ 16) (hi : i < rs.length) :
    ∃ σ', zM 67 [.ref 30, .int (nI i)] zL σ = some (none, zL, σ') ∧ zCR σ' π (rs.set i w) ∧ zKeep zFR σ σ' := by
  obtain ⟨⟨p1, p2, p3⟩, h2, h3⟩ := h
  have hpi := p2 i (by omega)
  obtain ⟨d1, d2⟩ := hd
  refine zS_ex (zS_of ze_67 ?_)
  have hc := fun σ' => zcpy_11 (σ := σ') (s0 := 49) (d := 32 + π i) (n0 := 400) (n1 := 16) (n := w.length) rfl (zL_ru hpi) (by omega) hw (by omega)
  simp (disch := first | assumption | omega) only [zn0, zn1, Option.bind_some, zm_ai, zm_al, zm_av, zm_opt, zm_fw, zE_l, zE_r, nI_add, pk_mul, pk_sub, pk_div, pk_rem, zrem, zpm1, zB_i0, zB_i1, zB_ok, zB_T, zB_F, nI_toInt, zT_sub, zT_neg, zT_le, zT_lt, nI_eq, zne1, zne2, ite_not, if_true, if_false, if_pos, if_neg, zw_R, zw_RL, zw_I, zF_R, zw_same, zw_cell, zw_ne, zF_at, zF_ne, zi_0, zi_1, zi_10, zi_17, zi_19, zi_20, zi_30, zi_48, zi_50, zi_52, zi_57, zi_59, zi_80, zi_93, zi_106, zi_110, zi_114, zx_0_0, zx_0_1, zx_0_2, zx_0_3, zx_0_4, zx_0_5, zx_0_6, zx_0_7, zx_0_8, zx_0_9, zx_0_10, zx_1_0, zx_1_1, zx_2_0, zx_2_1, zx_2_2, zx_2_3, zx_2_4, zx_2_5, zx_10_0, zx_10_1, zx_11_0, zx_11_1, zx_11_2, zx_11_3, zx_17_0, zx_19_0, zx_19_1, zx_19_2, zx_20_0, zx_20_1, zx_20_3, zx_20_4, zx_20_5, zx_20_6, zx_20_7, zx_20_8, zx_20_9, zx_30_0, zx_30_1, zx_30_4, zx_30_5, zx_48_0, zx_50_0, zx_52_0, zx_52_1, zx_52_2, zx_56_0, zx_56_1, zx_56_2, zx_57_0, zx_59_0, zx_80_3, zx_80_4, zx_80_5, zx_81_0, zx_81_1, zx_81_2, zx_81_3, zx_81_4, zx_81_5, zx_88_0, zx_88_1, zx_88_2, zx_93_3, zx_93_4, zx_93_5, zx_94_0, zx_94_1, zx_94_2, zx_94_3, zx_94_4, zx_94_5, zx_101_0, zx_101_1, zx_101_2, zx_106_0, zx_106_1, zx_106_2, zx_110_0, zx_110_1, zx_110_2, zx_114_0, zx_114_1, zx_114_2, zgI_9, zsI_9, zgI_16, zsI_16, zgI_18, zsI_18, zgI_21, zsI_21, zgI_22, zsI_22, zgI_23, zsI_23, zgI_24, zsI_24, zgI_25, zsI_25, zgI_26, zsI_26, zgI_27, zsI_27, zgI_28, zsI_28, zgI_29, zsI_29, zgI_47, zsI_47, zgI_49, zsI_49, zgI_51, zsI_51, zgI_53, zsI_53, zgI_54, zsI_54, zgI_55, zsI_55, zgI_58, zsI_58, zgI_76, zsI_76, zgI_79, zsI_79, zb_67_0, d1, c_min, Nat.min_eq_right, p1, zgR_31, hc]
  refine ⟨_, rfl, ⟨⟨p1, p2, p3⟩, ?_, fun j hj => ⟨?_, fun k hk => ?_⟩⟩, ?_⟩
  · rw [List.length_set, zF_ne _ _ (by omega), zw_cell _ _ (by decide)]
    exact h2
  · rw [zr_set hi, zF_ne _ _ (by omega)]
    rw [List.length_set] at hj
    by_cases e : j = i
    · subst e; rw [if_pos rfl, zw_same]
    · rw [if_neg e, zw_ne _ _ (Or.inr e)]
      exact (h3 j hj).1
  · rw [zr_set hi] at hk ⊢
    rw [List.length_set] at hj
    have hpj := p2 j (by omega)
    by_cases e : j = i
    · subst e
      rw [if_pos rfl] at hk ⊢
      rw [zF_at]
      simp only [if_pos hk]
      exact d2 k hk
    · rw [if_neg e] at hk ⊢
      rw [zF_ne _ _ (fun q => e (p3 j i (by omega) (by omega) (by omega))), zw_cell _ _ (by omega)]
      exact (h3 j hj).2 k hk
  · refine ((zKeep.rf zFR σ).wI rfl).wF fun k => ?_
    simp only [zFR, Bool.and_eq_true, decide_eq_true_eq]
    omega
/-- bring: copies of ints, within one row too -/
theorem m_bring {σ : zm_Sig} {s d ns nd : Nat} (hs : zL[s]? = some (1, ns)) (hd : zL[d]? = some (1, nd)) (hns : ns < 1000000) (hnd : nd < 1000000) {i j n : Nat} (h1 : i + n ≤ ns) (h2 : j + n ≤ nd) (hsd : s ≠ d ∨ j ≤ i) :
    zM 200 [.ref s, .int (nI i), .ref d, .int (nI j), .int (nI n)] zL σ = some (none, zL, zm_wF σ d (fun k => if j ≤ k ∧ k < j + n then σ.1 s (i + (k - j)) else σ.1 d k)) := by
  refine zS_eq (zS_of ze_200 ?_)
  simp (disch := first | assumption | omega) only [zn0, zn1, Option.bind_some, zm_ai, zm_al, zm_av, zm_opt, zm_fw, zE_l, zE_r, nI_add, pk_mul, pk_sub, pk_div, pk_rem, zrem, zpm1, zB_i0, zB_i1, zB_ok, zB_T, zB_F, nI_toInt, zT_sub, zT_neg, zT_le, zT_lt, nI_eq, zne1, zne2, ite_not, if_true, if_false, if_pos, if_neg, zw_R, zw_RL, zw_I, zF_R, zw_same, zw_cell, zw_ne, zF_at, zF_ne, zb_200_0]
  refine zloop (fun k σ' => (3, [(0, .ref s), (1, .int (nI i)), (2, .ref d), (3, .int (nI j)), (4, .int (nI n)), (5, .int (nI k))], [], zL, σ', 0, 0)) (fun m σ' => σ' = zm_wF σ d (fun k => if j ≤ k ∧ k < j + m then σ.1 s (i + (k - j)) else σ.1 d k)) n (fun m σ' hm hI ih => ?_) (fun σ' hI => ?_) 0 σ (Nat.zero_le _) ?_
  · refine zW_of zg_200_3 ?_
    have e1 : σ'.1 s (i + m) = σ.1 s (i + m) := by
      rw [hI]
      by_cases e : s = d
      · subst e
        rw [zF_at]
        rw [if_neg (by omega)]
      · rw [zF_ne _ _ e]
    simp (disch := first | assumption | omega) only [zn0, zn1, Option.bind_some, zm_ai, zm_al, zm_av, zm_opt, zm_fw, zE_l, zE_r, nI_add, pk_mul, pk_sub, pk_div, pk_rem, zrem, zpm1, zB_i0, zB_i1, zB_ok, zB_T, zB_F, nI_toInt, zT_sub, zT_neg, zT_le, zT_lt, nI_eq, zne1, zne2, ite_not, if_true, if_false, if_pos, if_neg, zw_R, zw_RL, zw_I, zF_R, zw_same, zw_cell, zw_ne, zF_at, zF_ne, zb_200_3, zgI hs, zsI hd, e1]
    refine ih _ ?_
    rw [hI]
    unfold zm_wF zm_wI
    congr 1
    funext b
    by_cases e : b = d
    · subst e
      simp only [va_up, if_true]
      funext k
      by_cases e2 : k = j + m
      · subst e2
        rw [pk_us, if_pos (by omega), show j + m - j = m by omega]
      · rw [pk_un e2]
        by_cases e3 : j ≤ k ∧ k < j + m
        · rw [if_pos e3, if_pos (by omega)]
        · rw [if_neg e3, if_neg (by omega)]
    · simp only [va_up, if_neg e]
  · refine zW_of zg_200_3 ?_
    simp (disch := first | assumption | omega) only [zn0, zn1, Option.bind_some, zm_ai, zm_al, zm_av, zm_opt, zm_fw, zE_l, zE_r, nI_add, pk_mul, pk_sub, pk_div, pk_rem, zrem, zpm1, zB_i0, zB_i1, zB_ok, zB_T, zB_F, nI_toInt, zT_sub, zT_neg, zT_le, zT_lt, nI_eq, zne1, zne2, ite_not, if_true, if_false, if_pos, if_neg, zw_R, zw_RL, zw_I, zF_R, zw_same, zw_cell, zw_ne, zF_at, zF_ne, zb_200_3]
    rw [hI]
  · rw [zF_id]
    intro k
    rw [if_neg (by omega)]
def zFMp (a k : Nat) : Bool := a == 135
theorem m_puts {σ : zm_Sig} {rs : List (List Int32)} {w : List Int32} {i : Nat} (hF : zFix σ) (h : zMR (σ.1 135) rs) (hl : rs.length ≤ 15) (hr : ∀ j, j < rs.length → (zr rs j).length ≤ 16) (hd : zMW σ w) (hw : w.length ≤ 16) (hi : i < rs.length) :
    ∃ σ', zM 214 [.ref 118, .int (nI i)] zL σ = some (none, zL, σ') ∧ zMR (σ'.1 135) (rs.set i w) ∧ σ'.1 135 0 = σ.1 135 0 ∧ σ'.1 135 2 = σ.1 135 2 ∧ zKeep zFMp σ σ' := by
  obtain ⟨h2, h3⟩ := h
  obtain ⟨d1, d2⟩ := hd
  refine zS_ex (zS_of ze_214 ?_)
  have hc := fun σ' => m_bring (σ := σ') (s := 144) (d := 135) (ns := 700) (nd := 258) rfl rfl (by decide) (by decide) (i := 0) (j := 18 + 16 * i) (n := w.length) (by omega) (by omega) (Or.inl (by decide))
  simp (disch := first | assumption | omega) only [zn0, zn1, Option.bind_some, zm_ai, zm_al, zm_av, zm_opt, zm_fw, zE_l, zE_r, nI_add, pk_mul, pk_sub, pk_div, pk_rem, zrem, zpm1, zB_i0, zB_i1, zB_ok, zB_T, zB_F, nI_toInt, zT_sub, zT_neg, zT_le, zT_lt, nI_eq, zne1, zne2, ite_not, if_true, if_false, if_pos, if_neg, zw_R, zw_RL, zw_I, zF_R, zw_same, zw_cell, zw_ne, zF_at, zF_ne, zi_118, zx_118_0, zx_118_1, zx_118_2, zx_118_3, zx_118_7, zx_118_8, zx_118_9, zx_118_10, zx_118_11, zx_118_12, zx_118_13, zx_118_14, zx_118_15, zx_118_17, zx_118_18, zx_118_19, zx_118_21, zx_118_22, zx_118_24, zx_118_25, zx_118_30, zx_118_35, zx_118_36, zx_118_37, zx_118_38, zx_118_39, zx_118_41, zx_118_42, zx_118_44, zx_118_45, zx_118_46, zgI_119, zsI_119, zgI_120, zsI_120, zgI_121, zsI_121, zgI_122, zsI_122, zgI_123, zsI_123, zgI_124, zsI_124, zgI_125, zsI_125, zgI_126, zsI_126, zgI_127, zsI_127, zgI_128, zsI_128, zgI_129, zsI_129, zgI_130, zsI_130, zgI_131, zsI_131, zgI_132, zsI_132, zgI_133, zsI_133, zgI_134, zsI_134, zgI_135, zsI_135, zgI_136, zsI_136, zgI_137, zsI_137, zgI_139, zsI_139, zgI_140, zsI_140, zgI_141, zsI_141, zgI_142, zsI_142, zgI_143, zsI_143, zgI_144, zsI_144, zgI_145, zsI_145, zgI_146, zsI_146, zgI_147, zsI_147, zb_214_0, d1, hc]
  refine ⟨_, rfl, ⟨?_, fun j hj => ⟨?_, fun k hk => ?_⟩⟩, ?_, ?_, ?_⟩
  · rw [List.length_set, zF_at]
    rw [if_neg (by omega), zw_ne _ _ (Or.inr (by omega))]
    exact h2
  · rw [zr_set hi, zF_at]
    rw [List.length_set] at hj
    rw [if_neg (by omega)]
    by_cases e : j = i
    · subst e; rw [if_pos rfl, zw_same]
    · rw [if_neg e, zw_ne _ _ (Or.inr (by omega))]
      exact (h3 j hj).1
  · rw [zr_set hi] at hk ⊢
    rw [List.length_set] at hj
    rw [zF_at]
    by_cases e : j = i
    · subst e
      rw [if_pos rfl] at hk ⊢
      rw [if_pos (by omega)]
      have := d2 k hk
      rw [show 0 + (18 + 16 * j + k - (18 + 16 * j)) = k by omega]
      exact this
    · rw [if_neg e] at hk ⊢
      have := hr j hj
      rw [if_neg (by omega), zw_ne _ _ (Or.inr (by omega))]
      exact (h3 j hj).2 k hk
  · rw [zF_at]
    rw [if_neg (by omega), zw_ne _ _ (Or.inr (by omega))]
  · rw [zF_at]
    rw [if_neg (by omega), zw_ne _ _ (Or.inr (by omega))]
  · exact ((zKeep.rf zFMp σ).wI rfl).wF fun k => rfl
