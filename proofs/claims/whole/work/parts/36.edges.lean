/-! edges: which are of the tree, their kinds, their signs -/
def zbr (G : zG) (t : zT) (k x : Nat) : Prop := (G.2.2.1 x k ≠ 0 ∧ t.2.2.1 (G.2.2.1 x k) = nI k ∧ t.2.2.2.1 (G.2.2.1 x k) = nI (x + 1)) ∨ (k ≠ 0 ∧ t.2.2.1 k = nI (G.2.2.1 x k) ∧ t.2.2.2.1 k = -nI (x + 1))
def zbe (G : zG) (t : zT) (e : Nat) : Prop := zbr G t (e / G.2.1) (e % G.2.1)
def zTw (t : zT) (k u : Nat) : Prop := (k ≠ 0 ∧ t.2.2.1 k = nI u) ∨ (u ≠ 0 ∧ t.2.2.1 u = nI k)
def zto (G : zG) (e : Nat) : Nat := G.2.2.1 (e % G.2.1) (e / G.2.1)
noncomputable def zk2 (t : zT) (k u : Nat) : Nat := if k = u then 3 else @ite _ (zTw t k u) (Classical.propDecidable _) 4 2
noncomputable def zkd (G : zG) (t : zT) (e : Nat) : Nat := @ite _ (zbe G t e) (Classical.propDecidable _) 1 (zk2 t (e / G.2.1) (zto G e))
noncomputable def zsc (G : zG) (t : zT) : Nat → Nat
  | 0 => 0
  | e + 1 => @ite _ (zbe G t e) (Classical.propDecidable _) (zsc G t e) (zsc G t e + 1)
noncomputable def zsg (G : zG) (t : zT) (e : Nat) : Nat := @ite _ (zbe G t e) (Classical.propDecidable _) 0 (zsc G t e + 1)
theorem zk2_3 {t : zT} {k u : Nat} (h : k = u) : zk2 t k u = 3 := if_pos h
theorem zk2_4 {t : zT} {k u : Nat} (h : ¬ k = u) (h2 : zTw t k u) : zk2 t k u = 4 := by unfold zk2; rw [if_neg h]; exact if_pos h2
theorem zk2_2 {t : zT} {k u : Nat} (h : ¬ k = u) (h2 : ¬ zTw t k u) : zk2 t k u = 2 := by unfold zk2; rw [if_neg h]; exact if_neg h2
theorem zk2_le (t : zT) (k u : Nat) : 2 ≤ zk2 t k u ∧ zk2 t k u ≤ 4 := by
  by_cases h : k = u
  · rw [zk2_3 h]; omega
  · by_cases h2 : zTw t k u
    · rw [zk2_4 h h2]; omega
    · rw [zk2_2 h h2]; omega
theorem zkd_b {G : zG} {t : zT} {e : Nat} (h : zbe G t e) : zkd G t e = 1 := if_pos h
theorem zkd_n {G : zG} {t : zT} {e : Nat} (h : ¬ zbe G t e) : zkd G t e = zk2 t (e / G.2.1) (zto G e) := if_neg h
theorem zsg_b {G : zG} {t : zT} {e : Nat} (h : zbe G t e) : zsg G t e = 0 := if_pos h
theorem zsg_n {G : zG} {t : zT} {e : Nat} (h : ¬ zbe G t e) : zsg G t e = zsc G t e + 1 := if_neg h
theorem zsc_b {G : zG} {t : zT} {e : Nat} (h : zbe G t e) : zsc G t (e + 1) = zsc G t e := if_pos h
theorem zsc_n {G : zG} {t : zT} {e : Nat} (h : ¬ zbe G t e) : zsc G t (e + 1) = zsc G t e + 1 := if_neg h
theorem zkd_le (G : zG) (t : zT) (e : Nat) : 1 ≤ zkd G t e ∧ zkd G t e ≤ 4 := by
  by_cases h : zbe G t e
  · rw [zkd_b h]; omega
  · rw [zkd_n h]; have := zk2_le t (e / G.2.1) (zto G e); omega
theorem zkd_1 {G : zG} {t : zT} {e : Nat} : zkd G t e = 1 ↔ zbe G t e := by
  constructor
  · intro h
    refine Classical.byContradiction fun q => ?_
    rw [zkd_n q] at h
    have := zk2_le t (e / G.2.1) (zto G e)
    omega
  · exact zkd_b
theorem zsc_le (G : zG) (t : zT) : ∀ e, zsc G t e ≤ e
  | 0 => Nat.le_refl _
  | e + 1 => by
    have := zsc_le G t e
    by_cases h : zbe G t e
    · rw [zsc_b h]; omega
    · rw [zsc_n h]; omega
theorem zsc_mono (G : zG) (t : zT) {a b : Nat} (h : a ≤ b) : zsc G t a ≤ zsc G t b := by
  induction h with
  | refl => exact Nat.le_refl _
  | @step m _ ih =>
    by_cases h : zbe G t m
    · rw [Nat.succ_eq_add_one, zsc_b h]; exact ih
    · rw [Nat.succ_eq_add_one, zsc_n h]; omega
/-- how many signs there are -/
noncomputable def zsn (G : zG) (t : zT) : Nat := zsc G t (G.1 * G.2.1)
theorem zsn_le {G : zG} (hv : zGv G) (t : zT) : zsn G t ≤ 15 := Nat.le_trans (zsc_le G t _) (zng hv)
theorem zsg_le {G : zG} {t : zT} {e : Nat} (he : e < G.1 * G.2.1) : zsg G t e ≤ zsn G t := by
  by_cases h : zbe G t e
  · rw [zsg_b h]; omega
  · rw [zsg_n h, ← zsc_n h]; exact zsc_mono G t he
/-- the edge by which a point was reached -/
def zbo (G : zG) (t : zT) (p : Nat) : Nat := if 0 < (t.2.2.2.1 p).toInt then G.2.1 * zpar t p + ((t.2.2.2.1 p).toNatClampNeg - 1) else G.2.1 * p + ((-t.2.2.2.1 p).toNatClampNeg - 1)
theorem zdm {g k x : Nat} (h : x < g) : (g * k + x) / g = k ∧ (g * k + x) % g = x := by
  have hg : 0 < g := by omega
  refine ⟨?_, ?_⟩
  · rw [Nat.mul_add_div hg, Nat.div_eq_of_lt h, Nat.add_zero]
  · rw [Nat.mul_add_mod, Nat.mod_eq_of_lt h]
theorem zdme {g e : Nat} : g * (e / g) + e % g = e := Nat.div_add_mod e g
theorem zgk {n g k x : Nat} (hk : k < n) (hx : x < g) : g * k + x < n * g := by
  have : (k + 1) * g ≤ n * g := Nat.mul_le_mul_right g hk
  rw [Nat.add_mul, Nat.one_mul, Nat.mul_comm k g] at this
  omega
theorem zby {G : zG} {t : zT} (hv : zGv G) (hT : zTi G t) {p : Nat} (hp : zMet t p) (h0 : p ≠ 0) : ∃ k x, k < G.1 ∧ x < G.2.1 ∧ zpar t p = k ∧ t.2.2.1 p = nI k ∧ ((t.2.2.2.1 p = nI (x + 1) ∧ G.2.2.1 x k = p ∧ zbo G t p = G.2.1 * k + x) ∨ (t.2.2.2.1 p = -nI (x + 1) ∧ G.2.2.1 x p = k ∧ zbo G t p = G.2.1 * p + x)) := by
  obtain ⟨k, v, d1, d2, d3, d4, d5, d6, d7⟩ := hT.2.2.2.1 p hp h0
  have hk := hT.lt d1
  have v1 := hv.1
  have v2 := hv.2.1
  have ep : zpar t p = k := by
    unfold zpar
    rw [d2, if_pos (by rw [nI_toInt (by omega)]; omega), nI_clamp (by omega)]
  obtain ⟨x, hx, rfl | rfl⟩ := d4
  · rw [zmv_p _ _ (by omega)] at d5
    refine ⟨k, x, hk, hx, ep, d2, Or.inl ⟨d3, d5, ?_⟩⟩
    unfold zbo
    rw [d3, if_pos (by rw [nI_toInt (by omega)]; omega), ep, nI_clamp (by omega), Nat.add_sub_cancel]
  · rw [zmv_n _ _ (by omega)] at d5
    refine ⟨k, x, hk, hx, ep, d2, Or.inr ⟨d3, ?_, ?_⟩⟩
    · rw [← d5]; exact (hv.2.2.2.1 x k hx hk).2.2.2
    · unfold zbo
      rw [d3, if_neg (by rw [zT_neg (by omega)]; omega), Int32.neg_neg, nI_clamp (by omega), Nat.add_sub_cancel]
theorem zbo_ok {G : zG} {t : zT} (hv : zGv G) (hT : zTi G t) {p : Nat} (hp : zMet t p) (h0 : p ≠ 0) : zbo G t p < G.1 * G.2.1 ∧ zbe G t (zbo G t p) := by
  have hpl := hT.lt hp
  obtain ⟨k, x, hk, hx, e1, e2, ⟨e3, e4, e5⟩ | ⟨e3, e4, e5⟩⟩ := zby hv hT hp h0
  · rw [e5]
    refine ⟨zgk hk hx, ?_⟩
    unfold zbe
    rw [(zdm hx).1, (zdm hx).2]
    exact Or.inl ⟨by rw [e4]; exact h0, by rw [e4]; exact e2, by rw [e4]; exact e3⟩
  · rw [e5]
    refine ⟨zgk hpl hx, ?_⟩
    unfold zbe
    rw [(zdm hx).1, (zdm hx).2]
    exact Or.inr ⟨h0, by rw [e4]; exact e2, e3⟩
theorem zbo_of {G : zG} {t : zT} (hv : zGv G) (hT : zTi G t) (ha : ∀ p, p < G.1 → zMet t p) {e : Nat} (he : e < G.1 * G.2.1) (hb : zbe G t e) : ∃ p, p < G.1 ∧ p ≠ 0 ∧ zbo G t p = e := by
  obtain ⟨hg, h1, h2⟩ := zedge he
  have v1 := hv.1
  have v2 := hv.2.1
  have key : ∀ {x y : Nat}, x < 10 → y < 10 → nI (x + 1) = nI (y + 1) → x = y := fun {x y} hx hy e => by
    have := congrArg Int32.toInt e
    rw [nI_toInt (by omega), nI_toInt (by omega)] at this
    omega
  have keyn : ∀ {x y : Nat}, x < 10 → y < 10 → ¬ nI (x + 1) = -nI (y + 1) := fun {x y} hx hy e => by
    have := congrArg Int32.toInt e
    rw [nI_toInt (by omega), zT_neg (by omega)] at this
    omega
  have keyk : ∀ {x y : Nat}, x < 10 → y < 10 → nI x = nI y → x = y := fun {x y} hx hy e => by
    have := congrArg Int32.toInt e
    rw [nI_toInt (by omega), nI_toInt (by omega)] at this
    omega
  rcases hb with ⟨b1, b2, b3⟩ | ⟨b1, b2, b3⟩
  · have hp := (hv.2.2.2.1 _ _ h2 h1).1
    refine ⟨_, hp, b1, ?_⟩
    obtain ⟨k, x, hk, hx, e1, e2, ⟨e3, e4, e5⟩ | ⟨e3, e4, e5⟩⟩ := zby hv hT (ha _ hp) b1
    · have q1 := keyk (by omega) (by omega) (e2.symm.trans b2)
      have q2 := key (by omega) (by omega) (e3.symm.trans b3)
      rw [e5, q1, q2]
      exact zdme
    · exact absurd (b3.symm.trans e3) (keyn (by omega) (by omega))
  · refine ⟨_, h1, b1, ?_⟩
    obtain ⟨k, x, hk, hx, e1, e2, ⟨e3, e4, e5⟩ | ⟨e3, e4, e5⟩⟩ := zby hv hT (ha _ h1) b1
    · exact absurd (e3.symm.trans b3) (keyn (by omega) (by omega))
    · have q2 := key (by omega) (by omega) (zneg_inj (e3.symm.trans b3))
      rw [e5, q2]
      exact zdme
/-- class and reference hold edges -/
def zCN (σ : zm_Sig) (G : zG) (t : zT) : Prop := σ.1 20 2 = nI (zsn G t) ∧ ∀ e, e < G.1 * G.2.1 → σ.1 21 e = nI (zkd G t e) ∧ σ.1 22 e = nI (zsg G t e) ∧ (¬ zbe G t e → σ.1 28 (zsg G t e) = nI e)
def zMN (σ : zm_Sig) (G : zG) (t : zT) : Prop := σ.1 118 20 = nI (zsn G t) ∧ ∀ e, e < G.1 * G.2.1 → σ.1 132 e = nI (zkd G t e) ∧ σ.1 133 e = nI (zsg G t e) ∧ (¬ zbe G t e → σ.1 134 (zsg G t e) = nI e)
def zFN (a k : Nat) : Bool := a == 21 || a == 22 || a == 28 || (a == 20 && k == 2)
def zFMN (a k : Nat) : Bool := (132 ≤ a && a ≤ 134) || (a == 118 && k == 20)
theorem zCN.keep {S : Nat → Nat → Bool} {σ σ' : zm_Sig} {G : zG} {t : zT} (h : zCN σ G t) (hk : zKeep S σ σ') (h0 : S 20 2 = false) (hS : ∀ k, S 21 k = false ∧ S 22 k = false ∧ S 28 k = false) : zCN σ' G t :=
  ⟨(hk.i h0).trans h.1, fun e he => ⟨(hk.i (hS e).1).trans (h.2 e he).1, (hk.i (hS e).2.1).trans (h.2 e he).2.1, fun hb => (hk.i (hS _).2.2).trans ((h.2 e he).2.2 hb)⟩⟩
theorem zMN.keep {S : Nat → Nat → Bool} {σ σ' : zm_Sig} {G : zG} {t : zT} (h : zMN σ G t) (hk : zKeep S σ σ') (h0 : S 118 20 = false) (hS : ∀ k, S 132 k = false ∧ S 133 k = false ∧ S 134 k = false) : zMN σ' G t :=
  ⟨(hk.i h0).trans h.1, fun e he => ⟨(hk.i (hS e).1).trans (h.2 e he).1, (hk.i (hS e).2.1).trans (h.2 e he).2.1, fun hb => (hk.i (hS _).2.2).trans ((h.2 e he).2.2 hb)⟩⟩
theorem zifc {p q : Prop} (h : p ↔ q) (a b : Nat) : @ite Nat p (Classical.propDecidable p) a b = @ite Nat q (Classical.propDecidable q) a b := by
  cases propext h
  rfl
section ZED
variable {σ : zm_Sig} {a : Nat} {G : zG} {t : zT}
theorem c_branchOf (hF : zFix σ) (ha : zGo a) (hG : zCG σ a G) (hv : zGv G) (h : zCT σ t) (hT : zTi G t) {p : Nat} (hp : zMet t p) (h0 : p ≠ 0) : zM 59 [.ref 20, .ref a, .int (nI p)] zL σ = some (some (.int (nI (zbo G t p))), zL, σ) := by
  have hpl := hT.lt hp
  have v1 := hv.1
  have v2 := hv.2.1
  have hcc := (h.2.2 p (by omega)).1 hp
  have c1 := hcc.1
  have c2 := hcc.2.1
  refine zS_eq (zS_of ze_59 ?_)
  obtain ⟨k, x, hk, hx, e1, e2, ⟨e3, e4, e5⟩ | ⟨e3, e4, e5⟩⟩ := zby hv hT hp h0
  · rw [e2] at c1
    rw [e3] at c2
    have hed := c_edgeOf (σ := σ) ha hG k x
    rw [e5]
    simp (disch := first | assumption | omega) only [zn0, zn1, Option.bind_some, zm_ai, zm_al, zm_av, zm_opt, zm_fw, zE_l, zE_r, nI_add, pk_mul, pk_sub, pk_div, pk_rem, zrem, zpm1, zB_i0, zB_i1, zB_ok, zB_T, zB_F, nI_toInt, zT_sub, zT_neg, zT_le, zT_lt, nI_eq, zne1, zne2, zne9, ite_not, or_true, true_or, if_true, if_false, if_pos, if_neg, zw_R, zw_RL, zw_I, zF_R, zw_same, zw_cell, zw_ne, zF_at, zF_ne, zi_0, zi_1, zi_10, zi_17, zi_19, zi_20, zi_30, zi_48, zi_50, zi_52, zi_57, zi_59, zi_80, zi_93, zi_106, zi_110, zi_114, zx_0_0, zx_0_1, zx_0_2, zx_0_3, zx_0_4, zx_0_5, zx_0_6, zx_0_7, zx_0_8, zx_0_9, zx_0_10, zx_1_0, zx_1_1, zx_2_0, zx_2_1, zx_2_2, zx_2_3, zx_2_4, zx_2_5, zx_10_0, zx_10_1, zx_11_0, zx_11_1, zx_11_2, zx_11_3, zx_17_0, zx_19_0, zx_19_1, zx_19_2, zx_20_0, zx_20_1, zx_20_3, zx_20_4, zx_20_5, zx_20_6, zx_20_7, zx_20_8, zx_20_9, zx_30_0, zx_30_1, zx_30_4, zx_30_5, zx_48_0, zx_50_0, zx_52_0, zx_52_1, zx_52_2, zx_56_0, zx_56_1, zx_56_2, zx_57_0, zx_59_0, zx_80_3, zx_80_4, zx_80_5, zx_81_0, zx_81_1, zx_81_2, zx_81_3, zx_81_4, zx_81_5, zx_88_0, zx_88_1, zx_88_2, zx_93_3, zx_93_4, zx_93_5, zx_94_0, zx_94_1, zx_94_2, zx_94_3, zx_94_4, zx_94_5, zx_101_0, zx_101_1, zx_101_2, zx_106_0, zx_106_1, zx_106_2, zx_110_0, zx_110_1, zx_110_2, zx_114_0, zx_114_1, zx_114_2, zgI_9, zsI_9, zgI_16, zsI_16, zgI_18, zsI_18, zgI_21, zsI_21, zgI_22, zsI_22, zgI_23, zsI_23, zgI_24, zsI_24, zgI_25, zsI_25, zgI_26, zsI_26, zgI_27, zsI_27, zgI_28, zsI_28, zgI_29, zsI_29, zgI_47, zsI_47, zgI_49, zsI_49, zgI_51, zsI_51, zgI_53, zsI_53, zgI_54, zsI_54, zgI_55, zsI_55, zgI_58, zsI_58, zgI_76, zsI_76, zgI_79, zsI_79, zb_59_0, zGo_i, c1, c2, Nat.add_sub_cancel, hed]
  · rw [e3] at c2
    have hed := c_edgeOf (σ := σ) ha hG p x
    rw [e5]
    simp (disch := first | assumption | omega) only [zn0, zn1, Option.bind_some, zm_ai, zm_al, zm_av, zm_opt, zm_fw, zE_l, zE_r, nI_add, pk_mul, pk_sub, pk_div, pk_rem, zrem, zpm1, zB_i0, zB_i1, zB_ok, zB_T, zB_F, nI_toInt, zT_sub, zT_neg, zT_le, zT_lt, nI_eq, zne1, zne2, zne9, ite_not, or_true, true_or, if_true, if_false, if_pos, if_neg, zw_R, zw_RL, zw_I, zF_R, zw_same, zw_cell, zw_ne, zF_at, zF_ne, zi_0, zi_1, zi_10, zi_17, zi_19, zi_20, zi_30, zi_48, zi_50, zi_52, zi_57, zi_59, zi_80, zi_93, zi_106, zi_110, zi_114, zx_0_0, zx_0_1, zx_0_2, zx_0_3, zx_0_4, zx_0_5, zx_0_6, zx_0_7, zx_0_8, zx_0_9, zx_0_10, zx_1_0, zx_1_1, zx_2_0, zx_2_1, zx_2_2, zx_2_3, zx_2_4, zx_2_5, zx_10_0, zx_10_1, zx_11_0, zx_11_1, zx_11_2, zx_11_3, zx_17_0, zx_19_0, zx_19_1, zx_19_2, zx_20_0, zx_20_1, zx_20_3, zx_20_4, zx_20_5, zx_20_6, zx_20_7, zx_20_8, zx_20_9, zx_30_0, zx_30_1, zx_30_4, zx_30_5, zx_48_0, zx_50_0, zx_52_0, zx_52_1, zx_52_2, zx_56_0, zx_56_1, zx_56_2, zx_57_0, zx_59_0, zx_80_3, zx_80_4, zx_80_5, zx_81_0, zx_81_1, zx_81_2, zx_81_3, zx_81_4, zx_81_5, zx_88_0, zx_88_1, zx_88_2, zx_93_3, zx_93_4, zx_93_5, zx_94_0, zx_94_1, zx_94_2, zx_94_3, zx_94_4, zx_94_5, zx_101_0, zx_101_1, zx_101_2, zx_106_0, zx_106_1, zx_106_2, zx_110_0, zx_110_1, zx_110_2, zx_114_0, zx_114_1, zx_114_2, zgI_9, zsI_9, zgI_16, zsI_16, zgI_18, zsI_18, zgI_21, zsI_21, zgI_22, zsI_22, zgI_23, zsI_23, zgI_24, zsI_24, zgI_25, zsI_25, zgI_26, zsI_26, zgI_27, zsI_27, zgI_28, zsI_28, zgI_29, zsI_29, zgI_47, zsI_47, zgI_49, zsI_49, zgI_51, zsI_51, zgI_53, zsI_53, zgI_54, zsI_54, zgI_55, zsI_55, zgI_58, zsI_58, zgI_76, zsI_76, zgI_79, zsI_79, zb_59_0, zGo_i, c2, Int32.neg_neg, Nat.add_sub_cancel, hed]
theorem znr9 {k : Nat} (hk : k < 100) : ¬ (-9 : Int32) = nI k := fun e => by
  have := congrArg Int32.toInt e
  rw [nI_toInt (by omega), z9] at this
  omega
theorem c_kindOfSign (hF : zFix σ) (h : zCT σ t) (hT : zTi G t) (hv : zGv G) {k u : Nat} (hk : zMet t k) (hu : zMet t u) : zM 61 [.ref 20, .int (nI k), .int (nI u)] zL σ = some (some (.int (nI (zk2 t k u))), zL, σ) := by
  have hkl := hT.lt hk
  have hul := hT.lt hu
  have v1 := hv.1
  have c1 := ((h.2.2 k (by omega)).1 hk).1
  have c2 := ((h.2.2 u (by omega)).1 hu).1
  have f0 := hT.1.2.2.1
  refine zS_eq (zS_of ze_61 ?_)
  by_cases e : k = u
  · rw [zk2_3 e]
    simp (disch := first | assumption | omega) only [zn0, zn1, Option.bind_some, zm_ai, zm_al, zm_av, zm_opt, zm_fw, zE_l, zE_r, nI_add, pk_mul, pk_sub, pk_div, pk_rem, zrem, zpm1, zB_i0, zB_i1, zB_ok, zB_T, zB_F, nI_toInt, zT_sub, zT_neg, zT_le, zT_lt, nI_eq, zne1, zne2, zne9, ite_not, or_true, true_or, if_true, if_false, if_pos, if_neg, zw_R, zw_RL, zw_I, zF_R, zw_same, zw_cell, zw_ne, zF_at, zF_ne, zi_0, zi_1, zi_10, zi_17, zi_19, zi_20, zi_30, zi_48, zi_50, zi_52, zi_57, zi_59, zi_80, zi_93, zi_106, zi_110, zi_114, zx_0_0, zx_0_1, zx_0_2, zx_0_3, zx_0_4, zx_0_5, zx_0_6, zx_0_7, zx_0_8, zx_0_9, zx_0_10, zx_1_0, zx_1_1, zx_2_0, zx_2_1, zx_2_2, zx_2_3, zx_2_4, zx_2_5, zx_10_0, zx_10_1, zx_11_0, zx_11_1, zx_11_2, zx_11_3, zx_17_0, zx_19_0, zx_19_1, zx_19_2, zx_20_0, zx_20_1, zx_20_3, zx_20_4, zx_20_5, zx_20_6, zx_20_7, zx_20_8, zx_20_9, zx_30_0, zx_30_1, zx_30_4, zx_30_5, zx_48_0, zx_50_0, zx_52_0, zx_52_1, zx_52_2, zx_56_0, zx_56_1, zx_56_2, zx_57_0, zx_59_0, zx_80_3, zx_80_4, zx_80_5, zx_81_0, zx_81_1, zx_81_2, zx_81_3, zx_81_4, zx_81_5, zx_88_0, zx_88_1, zx_88_2, zx_93_3, zx_93_4, zx_93_5, zx_94_0, zx_94_1, zx_94_2, zx_94_3, zx_94_4, zx_94_5, zx_101_0, zx_101_1, zx_101_2, zx_106_0, zx_106_1, zx_106_2, zx_110_0, zx_110_1, zx_110_2, zx_114_0, zx_114_1, zx_114_2, zgI_9, zsI_9, zgI_16, zsI_16, zgI_18, zsI_18, zgI_21, zsI_21, zgI_22, zsI_22, zgI_23, zsI_23, zgI_24, zsI_24, zgI_25, zsI_25, zgI_26, zsI_26, zgI_27, zsI_27, zgI_28, zsI_28, zgI_29, zsI_29, zgI_47, zsI_47, zgI_49, zsI_49, zgI_51, zsI_51, zgI_53, zsI_53, zgI_54, zsI_54, zgI_55, zsI_55, zgI_58, zsI_58, zgI_76, zsI_76, zgI_79, zsI_79, zb_61_0, not_true]
  · have hk0 : t.2.2.1 k = nI u → k ≠ 0 := fun q q0 => znr9 (k := u) (by omega) (by rw [← f0, ← q0]; exact q)
    have hu0 : t.2.2.1 u = nI k → u ≠ 0 := fun q q0 => znr9 (k := k) (by omega) (by rw [← f0, ← q0]; exact q)
    by_cases q1 : t.2.2.1 k = nI u
    · rw [zk2_4 e (Or.inl ⟨hk0 q1, q1⟩)]
      simp (disch := first | assumption | omega) only [zn0, zn1, Option.bind_some, zm_ai, zm_al, zm_av, zm_opt, zm_fw, zE_l, zE_r, nI_add, pk_mul, pk_sub, pk_div, pk_rem, zrem, zpm1, zB_i0, zB_i1, zB_ok, zB_T, zB_F, nI_toInt, zT_sub, zT_neg, zT_le, zT_lt, nI_eq, zne1, zne2, zne9, ite_not, or_true, true_or, if_true, if_false, if_pos, if_neg, zw_R, zw_RL, zw_I, zF_R, zw_same, zw_cell, zw_ne, zF_at, zF_ne, zi_0, zi_1, zi_10, zi_17, zi_19, zi_20, zi_30, zi_48, zi_50, zi_52, zi_57, zi_59, zi_80, zi_93, zi_106, zi_110, zi_114, zx_0_0, zx_0_1, zx_0_2, zx_0_3, zx_0_4, zx_0_5, zx_0_6, zx_0_7, zx_0_8, zx_0_9, zx_0_10, zx_1_0, zx_1_1, zx_2_0, zx_2_1, zx_2_2, zx_2_3, zx_2_4, zx_2_5, zx_10_0, zx_10_1, zx_11_0, zx_11_1, zx_11_2, zx_11_3, zx_17_0, zx_19_0, zx_19_1, zx_19_2, zx_20_0, zx_20_1, zx_20_3, zx_20_4, zx_20_5, zx_20_6, zx_20_7, zx_20_8, zx_20_9, zx_30_0, zx_30_1, zx_30_4, zx_30_5, zx_48_0, zx_50_0, zx_52_0, zx_52_1, zx_52_2, zx_56_0, zx_56_1, zx_56_2, zx_57_0, zx_59_0, zx_80_3, zx_80_4, zx_80_5, zx_81_0, zx_81_1, zx_81_2, zx_81_3, zx_81_4, zx_81_5, zx_88_0, zx_88_1, zx_88_2, zx_93_3, zx_93_4, zx_93_5, zx_94_0, zx_94_1, zx_94_2, zx_94_3, zx_94_4, zx_94_5, zx_101_0, zx_101_1, zx_101_2, zx_106_0, zx_106_1, zx_106_2, zx_110_0, zx_110_1, zx_110_2, zx_114_0, zx_114_1, zx_114_2, zgI_9, zsI_9, zgI_16, zsI_16, zgI_18, zsI_18, zgI_21, zsI_21, zgI_22, zsI_22, zgI_23, zsI_23, zgI_24, zsI_24, zgI_25, zsI_25, zgI_26, zsI_26, zgI_27, zsI_27, zgI_28, zsI_28, zgI_29, zsI_29, zgI_47, zsI_47, zgI_49, zsI_49, zgI_51, zsI_51, zgI_53, zsI_53, zgI_54, zsI_54, zgI_55, zsI_55, zgI_58, zsI_58, zgI_76, zsI_76, zgI_79, zsI_79, zb_61_0, not_false, c1, q1]
    · by_cases q2 : t.2.2.1 u = nI k
      · rw [zk2_4 e (Or.inr ⟨hu0 q2, q2⟩)]
        simp (disch := first | assumption | omega) only [zn0, zn1, Option.bind_some, zm_ai, zm_al, zm_av, zm_opt, zm_fw, zE_l, zE_r, nI_add, pk_mul, pk_sub, pk_div, pk_rem, zrem, zpm1, zB_i0, zB_i1, zB_ok, zB_T, zB_F, nI_toInt, zT_sub, zT_neg, zT_le, zT_lt, nI_eq, zne1, zne2, zne9, ite_not, or_true, true_or, if_true, if_false, if_pos, if_neg, zw_R, zw_RL, zw_I, zF_R, zw_same, zw_cell, zw_ne, zF_at, zF_ne, zi_0, zi_1, zi_10, zi_17, zi_19, zi_20, zi_30, zi_48, zi_50, zi_52, zi_57, zi_59, zi_80, zi_93, zi_106, zi_110, zi_114, zx_0_0, zx_0_1, zx_0_2, zx_0_3, zx_0_4, zx_0_5, zx_0_6, zx_0_7, zx_0_8, zx_0_9, zx_0_10, zx_1_0, zx_1_1, zx_2_0, zx_2_1, zx_2_2, zx_2_3, zx_2_4, zx_2_5, zx_10_0, zx_10_1, zx_11_0, zx_11_1, zx_11_2, zx_11_3, zx_17_0, zx_19_0, zx_19_1, zx_19_2, zx_20_0, zx_20_1, zx_20_3, zx_20_4, zx_20_5, zx_20_6, zx_20_7, zx_20_8, zx_20_9, zx_30_0, zx_30_1, zx_30_4, zx_30_5, zx_48_0, zx_50_0, zx_52_0, zx_52_1, zx_52_2, zx_56_0, zx_56_1, zx_56_2, zx_57_0, zx_59_0, zx_80_3, zx_80_4, zx_80_5, zx_81_0, zx_81_1, zx_81_2, zx_81_3, zx_81_4, zx_81_5, zx_88_0, zx_88_1, zx_88_2, zx_93_3, zx_93_4, zx_93_5, zx_94_0, zx_94_1, zx_94_2, zx_94_3, zx_94_4, zx_94_5, zx_101_0, zx_101_1, zx_101_2, zx_106_0, zx_106_1, zx_106_2, zx_110_0, zx_110_1, zx_110_2, zx_114_0, zx_114_1, zx_114_2, zgI_9, zsI_9, zgI_16, zsI_16, zgI_18, zsI_18, zgI_21, zsI_21, zgI_22, zsI_22, zgI_23, zsI_23, zgI_24, zsI_24, zgI_25, zsI_25, zgI_26, zsI_26, zgI_27, zsI_27, zgI_28, zsI_28, zgI_29, zsI_29, zgI_47, zsI_47, zgI_49, zsI_49, zgI_51, zsI_51, zgI_53, zsI_53, zgI_54, zsI_54, zgI_55, zsI_55, zgI_58, zsI_58, zgI_76, zsI_76, zgI_79, zsI_79, zb_61_0, not_false, not_true, c1, c2, q2]
      · rw [zk2_2 e (fun q => q.elim (fun q => q1 q.2) (fun q => q2 q.2))]
        simp (disch := first | assumption | omega) only [zn0, zn1, Option.bind_some, zm_ai, zm_al, zm_av, zm_opt, zm_fw, zE_l, zE_r, nI_add, pk_mul, pk_sub, pk_div, pk_rem, zrem, zpm1, zB_i0, zB_i1, zB_ok, zB_T, zB_F, nI_toInt, zT_sub, zT_neg, zT_le, zT_lt, nI_eq, zne1, zne2, zne9, ite_not, or_true, true_or, if_true, if_false, if_pos, if_neg, zw_R, zw_RL, zw_I, zF_R, zw_same, zw_cell, zw_ne, zF_at, zF_ne, zi_0, zi_1, zi_10, zi_17, zi_19, zi_20, zi_30, zi_48, zi_50, zi_52, zi_57, zi_59, zi_80, zi_93, zi_106, zi_110, zi_114, zx_0_0, zx_0_1, zx_0_2, zx_0_3, zx_0_4, zx_0_5, zx_0_6, zx_0_7, zx_0_8, zx_0_9, zx_0_10, zx_1_0, zx_1_1, zx_2_0, zx_2_1, zx_2_2, zx_2_3, zx_2_4, zx_2_5, zx_10_0, zx_10_1, zx_11_0, zx_11_1, zx_11_2, zx_11_3, zx_17_0, zx_19_0, zx_19_1, zx_19_2, zx_20_0, zx_20_1, zx_20_3, zx_20_4, zx_20_5, zx_20_6, zx_20_7, zx_20_8, zx_20_9, zx_30_0, zx_30_1, zx_30_4, zx_30_5, zx_48_0, zx_50_0, zx_52_0, zx_52_1, zx_52_2, zx_56_0, zx_56_1, zx_56_2, zx_57_0, zx_59_0, zx_80_3, zx_80_4, zx_80_5, zx_81_0, zx_81_1, zx_81_2, zx_81_3, zx_81_4, zx_81_5, zx_88_0, zx_88_1, zx_88_2, zx_93_3, zx_93_4, zx_93_5, zx_94_0, zx_94_1, zx_94_2, zx_94_3, zx_94_4, zx_94_5, zx_101_0, zx_101_1, zx_101_2, zx_106_0, zx_106_1, zx_106_2, zx_110_0, zx_110_1, zx_110_2, zx_114_0, zx_114_1, zx_114_2, zgI_9, zsI_9, zgI_16, zsI_16, zgI_18, zsI_18, zgI_21, zsI_21, zgI_22, zsI_22, zgI_23, zsI_23, zgI_24, zsI_24, zgI_25, zsI_25, zgI_26, zsI_26, zgI_27, zsI_27, zgI_28, zsI_28, zgI_29, zsI_29, zgI_47, zsI_47, zgI_49, zsI_49, zgI_51, zsI_51, zgI_53, zsI_53, zgI_54, zsI_54, zgI_55, zsI_55, zgI_58, zsI_58, zgI_76, zsI_76, zgI_79, zsI_79, zb_61_0, not_false, c1, c2]
theorem c_nameSign (hF : zFix σ) {e k s : Nat} (he : e < 15) (hs : s < 15) (h : σ.1 20 2 = nI s) : zM 62 [.ref 20, .int (nI e), .int (nI k)] zL σ = some (none, zL, zm_wI (zm_wI (zm_wI (zm_wI σ 21 e (nI k)) 20 2 (nI (s + 1))) 22 e (nI (s + 1))) 28 (s + 1) (nI e)) := by
  refine zS_eq (zS_of ze_62 ?_)
  simp (disch := first | assumption | omega) only [zn0, zn1, Option.bind_some, zm_ai, zm_al, zm_av, zm_opt, zm_fw, zE_l, zE_r, nI_add, pk_mul, pk_sub, pk_div, pk_rem, zrem, zpm1, zB_i0, zB_i1, zB_ok, zB_T, zB_F, nI_toInt, zT_sub, zT_neg, zT_le, zT_lt, nI_eq, zne1, zne2, zne9, ite_not, or_true, true_or, if_true, if_false, if_pos, if_neg, zw_R, zw_RL, zw_I, zF_R, zw_same, zw_cell, zw_ne, zF_at, zF_ne, zi_0, zi_1, zi_10, zi_17, zi_19, zi_20, zi_30, zi_48, zi_50, zi_52, zi_57, zi_59, zi_80, zi_93, zi_106, zi_110, zi_114, zx_0_0, zx_0_1, zx_0_2, zx_0_3, zx_0_4, zx_0_5, zx_0_6, zx_0_7, zx_0_8, zx_0_9, zx_0_10, zx_1_0, zx_1_1, zx_2_0, zx_2_1, zx_2_2, zx_2_3, zx_2_4, zx_2_5, zx_10_0, zx_10_1, zx_11_0, zx_11_1, zx_11_2, zx_11_3, zx_17_0, zx_19_0, zx_19_1, zx_19_2, zx_20_0, zx_20_1, zx_20_3, zx_20_4, zx_20_5, zx_20_6, zx_20_7, zx_20_8, zx_20_9, zx_30_0, zx_30_1, zx_30_4, zx_30_5, zx_48_0, zx_50_0, zx_52_0, zx_52_1, zx_52_2, zx_56_0, zx_56_1, zx_56_2, zx_57_0, zx_59_0, zx_80_3, zx_80_4, zx_80_5, zx_81_0, zx_81_1, zx_81_2, zx_81_3, zx_81_4, zx_81_5, zx_88_0, zx_88_1, zx_88_2, zx_93_3, zx_93_4, zx_93_5, zx_94_0, zx_94_1, zx_94_2, zx_94_3, zx_94_4, zx_94_5, zx_101_0, zx_101_1, zx_101_2, zx_106_0, zx_106_1, zx_106_2, zx_110_0, zx_110_1, zx_110_2, zx_114_0, zx_114_1, zx_114_2, zgI_9, zsI_9, zgI_16, zsI_16, zgI_18, zsI_18, zgI_21, zsI_21, zgI_22, zsI_22, zgI_23, zsI_23, zgI_24, zsI_24, zgI_25, zsI_25, zgI_26, zsI_26, zgI_27, zsI_27, zgI_28, zsI_28, zgI_29, zsI_29, zgI_47, zsI_47, zgI_49, zsI_49, zgI_51, zsI_51, zgI_53, zsI_53, zgI_54, zsI_54, zgI_55, zsI_55, zgI_58, zsI_58, zgI_76, zsI_76, zgI_79, zsI_79, zb_62_0, h]
theorem zwx (σ : zm_Sig) (a i : Nat) (v : Int32) (j : Nat) : (zm_wI σ a i v).1 a j = if j = i then v else σ.1 a j := by
  by_cases e : j = i
  · subst e; rw [zw_same, if_pos rfl]
  · rw [zw_ne _ _ (Or.inr e), if_neg e]
/-- half way: what is named of edges before m -/
def zCNm (σ : zm_Sig) (G : zG) (t : zT) (m : Nat) : Prop := σ.1 20 2 = nI (zsc G t m) ∧ ∀ e, e < G.1 * G.2.1 → (e < m → σ.1 21 e = nI (zkd G t e) ∧ σ.1 22 e = nI (zsg G t e) ∧ (¬ zbe G t e → σ.1 28 (zsg G t e) = nI e)) ∧ (m ≤ e → σ.1 21 e = nI (@ite _ (zbe G t e) (Classical.propDecidable _) 1 2) ∧ σ.1 22 e = nI 0)
theorem zFN_g {b k : Nat} (hb : 80 ≤ b) : zFN b k = false := by
  simp only [zFN, Bool.or_eq_false_iff, Bool.and_eq_false_iff, beq_eq_false_iff_ne]
  omega
theorem c_nameEdges (hF : zFix σ) (ha : zGo a) (hG : zCG σ a G) (hv : zGv G) (h : zCT σ t) (hT : zTi G t) (hal : ∀ p, p < G.1 → zMet t p) :
    ∃ σ', zM 58 [.ref 20, .ref a] zL σ = some (none, zL, σ') ∧ zCN σ' G t ∧ zKeep zFN σ σ' := by
  refine zS_ex (zS_of ze_58 ?_)
  have hge := ha.ge
  have v1 := hv.1
  have v2 := hv.2.1
  have h15 := zng hv
  have e1 := c_fill (lay := zL) (σ := zm_wI σ 20 2 (nI 0)) (a := 21) (n := 15) rfl (by decide) (nI 2)
  have e2 := fun σ' => c_fill (lay := zL) (σ := σ') (a := 22) (n := 15) rfl (by decide) (nI 0)
  have hF1 : zFix (zm_wI σ 20 2 (nI 0)) := hF
  simp (disch := first | assumption | omega) only [zn0, zn1, Option.bind_some, zm_ai, zm_al, zm_av, zm_opt, zm_fw, zE_l, zE_r, nI_add, pk_mul, pk_sub, pk_div, pk_rem, zrem, zpm1, zB_i0, zB_i1, zB_ok, zB_T, zB_F, nI_toInt, zT_sub, zT_neg, zT_le, zT_lt, nI_eq, zne1, zne2, zne9, ite_not, or_true, true_or, if_true, if_false, if_pos, if_neg, zw_R, zw_RL, zw_I, zF_R, zw_same, zw_cell, zw_ne, zF_at, zF_ne, zi_0, zi_1, zi_10, zi_17, zi_19, zi_20, zi_30, zi_48, zi_50, zi_52, zi_57, zi_59, zi_80, zi_93, zi_106, zi_110, zi_114, zx_0_0, zx_0_1, zx_0_2, zx_0_3, zx_0_4, zx_0_5, zx_0_6, zx_0_7, zx_0_8, zx_0_9, zx_0_10, zx_1_0, zx_1_1, zx_2_0, zx_2_1, zx_2_2, zx_2_3, zx_2_4, zx_2_5, zx_10_0, zx_10_1, zx_11_0, zx_11_1, zx_11_2, zx_11_3, zx_17_0, zx_19_0, zx_19_1, zx_19_2, zx_20_0, zx_20_1, zx_20_3, zx_20_4, zx_20_5, zx_20_6, zx_20_7, zx_20_8, zx_20_9, zx_30_0, zx_30_1, zx_30_4, zx_30_5, zx_48_0, zx_50_0, zx_52_0, zx_52_1, zx_52_2, zx_56_0, zx_56_1, zx_56_2, zx_57_0, zx_59_0, zx_80_3, zx_80_4, zx_80_5, zx_81_0, zx_81_1, zx_81_2, zx_81_3, zx_81_4, zx_81_5, zx_88_0, zx_88_1, zx_88_2, zx_93_3, zx_93_4, zx_93_5, zx_94_0, zx_94_1, zx_94_2, zx_94_3, zx_94_4, zx_94_5, zx_101_0, zx_101_1, zx_101_2, zx_106_0, zx_106_1, zx_106_2, zx_110_0, zx_110_1, zx_110_2, zx_114_0, zx_114_1, zx_114_2, zgI_9, zsI_9, zgI_16, zsI_16, zgI_18, zsI_18, zgI_21, zsI_21, zgI_22, zsI_22, zgI_23, zsI_23, zgI_24, zsI_24, zgI_25, zsI_25, zgI_26, zsI_26, zgI_27, zsI_27, zgI_28, zsI_28, zgI_29, zsI_29, zgI_47, zsI_47, zgI_49, zsI_49, zgI_51, zsI_51, zgI_53, zsI_53, zgI_54, zsI_54, zgI_55, zsI_55, zgI_58, zsI_58, zgI_76, zsI_76, zgI_79, zsI_79, zb_58_0, e1, e2]
  have keepG : ∀ {σ'}, zKeep zFN σ σ' → zCG σ' a G := fun hK => hG.keep hv hK (fun k _ => zFN_g (by omega)) (fun b k hb _ => zFN_g (by omega))
  have keepT : ∀ {σ'}, zKeep zFN σ σ' → zCT σ' t := fun hK => h.keep hK rfl (fun k => ⟨rfl, rfl, rfl, rfl, rfl⟩)
  refine zloop (fun p σ1 => (23, [(0, .ref 20), (1, .ref a), (2, .int (nI p))], [], zL, σ1, 0, 0)) (fun p σ1 => (σ1.1 20 2 = nI 0 ∧ ∀ e, e < 15 → σ1.1 21 e = nI (@ite _ (∃ q, q < p ∧ q ≠ 0 ∧ zbo G t q = e) (Classical.propDecidable _) 1 2) ∧ σ1.1 22 e = nI 0) ∧ zKeep zFN σ σ1) G.1 (fun p σ1 hp hI ih => ?_) (fun σ1 hI => ?_) 0 _ (by omega) ?_
  · obtain ⟨⟨i1, i2⟩, hK⟩ := hI
    have hF1 := hK.fix hF rfl
    have hG1 := keepG hK
    have hC1 := keepT hK
    have hg1 := hG1.1
    have hm := hal p hp
    have hby := ((hC1.2.2 p (by omega)).1 hm).2.1
    refine zW_of zg_58_23 ?_
    by_cases p0 : p = 0
    · have hb0 : t.2.2.2.1 p = -9 := by rw [p0]; exact hT.1.2.2.2.1
      rw [hb0] at hby
      simp (disch := first | assumption | omega) only [zn0, zn1, Option.bind_some, zm_ai, zm_al, zm_av, zm_opt, zm_fw, zE_l, zE_r, nI_add, pk_mul, pk_sub, pk_div, pk_rem, zrem, zpm1, zB_i0, zB_i1, zB_ok, zB_T, zB_F, nI_toInt, zT_sub, zT_neg, zT_le, zT_lt, nI_eq, zne1, zne2, zne9, ite_not, or_true, true_or, if_true, if_false, if_pos, if_neg, zw_R, zw_RL, zw_I, zF_R, zw_same, zw_cell, zw_ne, zF_at, zF_ne, zi_0, zi_1, zi_10, zi_17, zi_19, zi_20, zi_30, zi_48, zi_50, zi_52, zi_57, zi_59, zi_80, zi_93, zi_106, zi_110, zi_114, zx_0_0, zx_0_1, zx_0_2, zx_0_3, zx_0_4, zx_0_5, zx_0_6, zx_0_7, zx_0_8, zx_0_9, zx_0_10, zx_1_0, zx_1_1, zx_2_0, zx_2_1, zx_2_2, zx_2_3, zx_2_4, zx_2_5, zx_10_0, zx_10_1, zx_11_0, zx_11_1, zx_11_2, zx_11_3, zx_17_0, zx_19_0, zx_19_1, zx_19_2, zx_20_0, zx_20_1, zx_20_3, zx_20_4, zx_20_5, zx_20_6, zx_20_7, zx_20_8, zx_20_9, zx_30_0, zx_30_1, zx_30_4, zx_30_5, zx_48_0, zx_50_0, zx_52_0, zx_52_1, zx_52_2, zx_56_0, zx_56_1, zx_56_2, zx_57_0, zx_59_0, zx_80_3, zx_80_4, zx_80_5, zx_81_0, zx_81_1, zx_81_2, zx_81_3, zx_81_4, zx_81_5, zx_88_0, zx_88_1, zx_88_2, zx_93_3, zx_93_4, zx_93_5, zx_94_0, zx_94_1, zx_94_2, zx_94_3, zx_94_4, zx_94_5, zx_101_0, zx_101_1, zx_101_2, zx_106_0, zx_106_1, zx_106_2, zx_110_0, zx_110_1, zx_110_2, zx_114_0, zx_114_1, zx_114_2, zgI_9, zsI_9, zgI_16, zsI_16, zgI_18, zsI_18, zgI_21, zsI_21, zgI_22, zsI_22, zgI_23, zsI_23, zgI_24, zsI_24, zgI_25, zsI_25, zgI_26, zsI_26, zgI_27, zsI_27, zgI_28, zsI_28, zgI_29, zsI_29, zgI_47, zsI_47, zgI_49, zsI_49, zgI_51, zsI_51, zgI_53, zsI_53, zgI_54, zsI_54, zgI_55, zsI_55, zgI_58, zsI_58, zgI_76, zsI_76, zgI_79, zsI_79, zb_58_23, zGo_i, hg1, hby]
      refine ih σ1 ⟨⟨i1, fun e he => ⟨?_, (i2 e he).2⟩⟩, hK⟩
      rw [(i2 e he).1]
      congr 1
      refine zifc ?_ _ _
      constructor
      · rintro ⟨q, h1, h2, h3⟩; exact ⟨q, by omega, h2, h3⟩
      · rintro ⟨q, h1, h2, h3⟩; exact ⟨q, by omega, h2, h3⟩
    · have hbo := c_branchOf hF1 ha hG1 hv hC1 hT hm p0
      obtain ⟨b1, b2⟩ := zbo_ok hv hT hm p0
      have hb9 : ¬ t.2.2.2.1 p = -9 := by
        obtain ⟨k, x, hk, hx, e1, e2, ⟨e3, e4, e5⟩ | ⟨e3, e4, e5⟩⟩ := zby hv hT hm p0
        · rw [e3]; intro q
          have := congrArg Int32.toInt q
          rw [nI_toInt (by omega), z9] at this
          omega
        · rw [e3]; intro q
          have := congrArg Int32.toInt q
          rw [zT_neg (by omega), z9] at this
          omega
      have hbl : zbo G t p < 15 := by omega
      simp (disch := first | assumption | omega) only [zn0, zn1, Option.bind_some, zm_ai, zm_al, zm_av, zm_opt, zm_fw, zE_l, zE_r, nI_add, pk_mul, pk_sub, pk_div, pk_rem, zrem, zpm1, zB_i0, zB_i1, zB_ok, zB_T, zB_F, nI_toInt, zT_sub, zT_neg, zT_le, zT_lt, nI_eq, zne1, zne2, zne9, ite_not, or_true, true_or, if_true, if_false, if_pos, if_neg, zw_R, zw_RL, zw_I, zF_R, zw_same, zw_cell, zw_ne, zF_at, zF_ne, zi_0, zi_1, zi_10, zi_17, zi_19, zi_20, zi_30, zi_48, zi_50, zi_52, zi_57, zi_59, zi_80, zi_93, zi_106, zi_110, zi_114, zx_0_0, zx_0_1, zx_0_2, zx_0_3, zx_0_4, zx_0_5, zx_0_6, zx_0_7, zx_0_8, zx_0_9, zx_0_10, zx_1_0, zx_1_1, zx_2_0, zx_2_1, zx_2_2, zx_2_3, zx_2_4, zx_2_5, zx_10_0, zx_10_1, zx_11_0, zx_11_1, zx_11_2, zx_11_3, zx_17_0, zx_19_0, zx_19_1, zx_19_2, zx_20_0, zx_20_1, zx_20_3, zx_20_4, zx_20_5, zx_20_6, zx_20_7, zx_20_8, zx_20_9, zx_30_0, zx_30_1, zx_30_4, zx_30_5, zx_48_0, zx_50_0, zx_52_0, zx_52_1, zx_52_2, zx_56_0, zx_56_1, zx_56_2, zx_57_0, zx_59_0, zx_80_3, zx_80_4, zx_80_5, zx_81_0, zx_81_1, zx_81_2, zx_81_3, zx_81_4, zx_81_5, zx_88_0, zx_88_1, zx_88_2, zx_93_3, zx_93_4, zx_93_5, zx_94_0, zx_94_1, zx_94_2, zx_94_3, zx_94_4, zx_94_5, zx_101_0, zx_101_1, zx_101_2, zx_106_0, zx_106_1, zx_106_2, zx_110_0, zx_110_1, zx_110_2, zx_114_0, zx_114_1, zx_114_2, zgI_9, zsI_9, zgI_16, zsI_16, zgI_18, zsI_18, zgI_21, zsI_21, zgI_22, zsI_22, zgI_23, zsI_23, zgI_24, zsI_24, zgI_25, zsI_25, zgI_26, zsI_26, zgI_27, zsI_27, zgI_28, zsI_28, zgI_29, zsI_29, zgI_47, zsI_47, zgI_49, zsI_49, zgI_51, zsI_51, zgI_53, zsI_53, zgI_54, zsI_54, zgI_55, zsI_55, zgI_58, zsI_58, zgI_76, zsI_76, zgI_79, zsI_79, zb_58_23, zGo_i, hg1, hby, hb9, hbo]
      refine ih _ ⟨⟨by rw [zw_cell _ _ (by decide)]; exact i1, fun e he => ⟨?_, by rw [zw_cell _ _ (by decide)]; exact (i2 e he).2⟩⟩, hK.wI rfl⟩
      rw [zwx]
      by_cases q : e = zbo G t p
      · rw [if_pos q]
        exact congrArg nI (if_pos ⟨p, by omega, p0, q.symm⟩).symm
      · rw [if_neg q, (i2 e he).1]
        congr 1
        refine zifc ?_ _ _
        constructor
        · rintro ⟨r, h1, h2, h3⟩; exact ⟨r, by omega, h2, h3⟩
        · rintro ⟨r, h1, h2, h3⟩
          refine ⟨r, ?_, h2, h3⟩
          have : r ≠ p := fun er => q (by rw [← h3, er])
          omega
  · obtain ⟨⟨i1, i2⟩, hK⟩ := hI
    have hG1 := keepG hK
    have hg1 := hG1.1
    refine zW_of zg_58_23 ?_
    simp (disch := first | assumption | omega) only [zn0, zn1, Option.bind_some, zm_ai, zm_al, zm_av, zm_opt, zm_fw, zE_l, zE_r, nI_add, pk_mul, pk_sub, pk_div, pk_rem, zrem, zpm1, zB_i0, zB_i1, zB_ok, zB_T, zB_F, nI_toInt, zT_sub, zT_neg, zT_le, zT_lt, nI_eq, zne1, zne2, zne9, ite_not, or_true, true_or, if_true, if_false, if_pos, if_neg, zw_R, zw_RL, zw_I, zF_R, zw_same, zw_cell, zw_ne, zF_at, zF_ne, zi_0, zi_1, zi_10, zi_17, zi_19, zi_20, zi_30, zi_48, zi_50, zi_52, zi_57, zi_59, zi_80, zi_93, zi_106, zi_110, zi_114, zx_0_0, zx_0_1, zx_0_2, zx_0_3, zx_0_4, zx_0_5, zx_0_6, zx_0_7, zx_0_8, zx_0_9, zx_0_10, zx_1_0, zx_1_1, zx_2_0, zx_2_1, zx_2_2, zx_2_3, zx_2_4, zx_2_5, zx_10_0, zx_10_1, zx_11_0, zx_11_1, zx_11_2, zx_11_3, zx_17_0, zx_19_0, zx_19_1, zx_19_2, zx_20_0, zx_20_1, zx_20_3, zx_20_4, zx_20_5, zx_20_6, zx_20_7, zx_20_8, zx_20_9, zx_30_0, zx_30_1, zx_30_4, zx_30_5, zx_48_0, zx_50_0, zx_52_0, zx_52_1, zx_52_2, zx_56_0, zx_56_1, zx_56_2, zx_57_0, zx_59_0, zx_80_3, zx_80_4, zx_80_5, zx_81_0, zx_81_1, zx_81_2, zx_81_3, zx_81_4, zx_81_5, zx_88_0, zx_88_1, zx_88_2, zx_93_3, zx_93_4, zx_93_5, zx_94_0, zx_94_1, zx_94_2, zx_94_3, zx_94_4, zx_94_5, zx_101_0, zx_101_1, zx_101_2, zx_106_0, zx_106_1, zx_106_2, zx_110_0, zx_110_1, zx_110_2, zx_114_0, zx_114_1, zx_114_2, zgI_9, zsI_9, zgI_16, zsI_16, zgI_18, zsI_18, zgI_21, zsI_21, zgI_22, zsI_22, zgI_23, zsI_23, zgI_24, zsI_24, zgI_25, zsI_25, zgI_26, zsI_26, zgI_27, zsI_27, zgI_28, zsI_28, zgI_29, zsI_29, zgI_47, zsI_47, zgI_49, zsI_49, zgI_51, zsI_51, zgI_53, zsI_53, zgI_54, zsI_54, zgI_55, zsI_55, zgI_58, zsI_58, zgI_76, zsI_76, zgI_79, zsI_79, zb_58_23, zGo_i, hg1]
    have h0 : zCNm σ1 G t 0 := ⟨i1, fun e he => ⟨fun q => by omega, fun _ => ⟨by
      rw [(i2 e (by omega)).1]
      congr 1
      refine zifc ?_ _ _
      constructor
      · rintro ⟨p, q1, q2, q3⟩; rw [← q3]; exact (zbo_ok hv hT (hal p q1) q2).2
      · exact fun q => zbo_of hv hT hal he q, (i2 e (by omega)).2⟩⟩⟩
    refine zloop (fun p σ1 => (62, [(0, .ref 20), (1, .ref a), (2, .int (nI p))], [], zL, σ1, 0, 0)) (fun p σ1 => zCNm σ1 G t (G.2.1 * p) ∧ zKeep zFN σ σ1) G.1 (fun p σ1 hp hI ih => ?_) (fun σ1 hI => ?_) 0 _ (by omega) ⟨by rw [Nat.mul_zero]; exact h0, hK⟩
    · obtain ⟨i1, hK⟩ := hI
      have hg1 := (keepG hK).1
      refine zW_of zg_58_62 ?_
      simp (disch := first | assumption | omega) only [zn0, zn1, Option.bind_some, zm_ai, zm_al, zm_av, zm_opt, zm_fw, zE_l, zE_r, nI_add, pk_mul, pk_sub, pk_div, pk_rem, zrem, zpm1, zB_i0, zB_i1, zB_ok, zB_T, zB_F, nI_toInt, zT_sub, zT_neg, zT_le, zT_lt, nI_eq, zne1, zne2, zne9, ite_not, or_true, true_or, if_true, if_false, if_pos, if_neg, zw_R, zw_RL, zw_I, zF_R, zw_same, zw_cell, zw_ne, zF_at, zF_ne, zi_0, zi_1, zi_10, zi_17, zi_19, zi_20, zi_30, zi_48, zi_50, zi_52, zi_57, zi_59, zi_80, zi_93, zi_106, zi_110, zi_114, zx_0_0, zx_0_1, zx_0_2, zx_0_3, zx_0_4, zx_0_5, zx_0_6, zx_0_7, zx_0_8, zx_0_9, zx_0_10, zx_1_0, zx_1_1, zx_2_0, zx_2_1, zx_2_2, zx_2_3, zx_2_4, zx_2_5, zx_10_0, zx_10_1, zx_11_0, zx_11_1, zx_11_2, zx_11_3, zx_17_0, zx_19_0, zx_19_1, zx_19_2, zx_20_0, zx_20_1, zx_20_3, zx_20_4, zx_20_5, zx_20_6, zx_20_7, zx_20_8, zx_20_9, zx_30_0, zx_30_1, zx_30_4, zx_30_5, zx_48_0, zx_50_0, zx_52_0, zx_52_1, zx_52_2, zx_56_0, zx_56_1, zx_56_2, zx_57_0, zx_59_0, zx_80_3, zx_80_4, zx_80_5, zx_81_0, zx_81_1, zx_81_2, zx_81_3, zx_81_4, zx_81_5, zx_88_0, zx_88_1, zx_88_2, zx_93_3, zx_93_4, zx_93_5, zx_94_0, zx_94_1, zx_94_2, zx_94_3, zx_94_4, zx_94_5, zx_101_0, zx_101_1, zx_101_2, zx_106_0, zx_106_1, zx_106_2, zx_110_0, zx_110_1, zx_110_2, zx_114_0, zx_114_1, zx_114_2, zgI_9, zsI_9, zgI_16, zsI_16, zgI_18, zsI_18, zgI_21, zsI_21, zgI_22, zsI_22, zgI_23, zsI_23, zgI_24, zsI_24, zgI_25, zsI_25, zgI_26, zsI_26, zgI_27, zsI_27, zgI_28, zsI_28, zgI_29, zsI_29, zgI_47, zsI_47, zgI_49, zsI_49, zgI_51, zsI_51, zgI_53, zsI_53, zgI_54, zsI_54, zgI_55, zsI_55, zgI_58, zsI_58, zgI_76, zsI_76, zgI_79, zsI_79, zb_58_62, zGo_i, hg1]
      refine zloop (fun x σ1 => (72, [(0, .ref 20), (1, .ref a), (2, .int (nI p)), (3, .int (nI x))], [], zL, σ1, 0, 0)) (fun x σ1 => zCNm σ1 G t (G.2.1 * p + x) ∧ zKeep zFN σ σ1) G.2.1 (fun x σ1 hx hI ih2 => ?_) (fun σ1 hI => ?_) 0 _ (by omega) ⟨i1, hK⟩
      · obtain ⟨⟨i1, i2⟩, hK⟩ := hI
        have hF1 := hK.fix hF rfl
        have hG1 := keepG hK
        have hC1 := keepT hK
        have hg2 := hG1.2.1
        have hed := c_edgeOf (σ := σ1) ha hG1 p x
        have hel := zgk hp hx
        obtain ⟨d1, d2⟩ := zdm (k := p) hx
        generalize he : G.2.1 * p + x = e at *
        have hk0 := ((i2 e hel).2 (Nat.le_refl _)).1
        have hs0 := ((i2 e hel).2 (Nat.le_refl _)).2
        have e15 : e < 15 := by omega
        have ih2 := fun σ' => ih2 σ'
        have hnx : G.2.1 * p + (x + 1) = e + 1 := by omega
        rw [hnx] at ih2
        refine zW_of zg_58_72 ?_
        by_cases hb : zbe G t e
        · rw [if_pos hb] at hk0
          simp (disch := first | assumption | omega) only [zn0, zn1, Option.bind_some, zm_ai, zm_al, zm_av, zm_opt, zm_fw, zE_l, zE_r, nI_add, pk_mul, pk_sub, pk_div, pk_rem, zrem, zpm1, zB_i0, zB_i1, zB_ok, zB_T, zB_F, nI_toInt, zT_sub, zT_neg, zT_le, zT_lt, nI_eq, zne1, zne2, zne9, ite_not, or_true, true_or, if_true, if_false, if_pos, if_neg, zw_R, zw_RL, zw_I, zF_R, zw_same, zw_cell, zw_ne, zF_at, zF_ne, zi_0, zi_1, zi_10, zi_17, zi_19, zi_20, zi_30, zi_48, zi_50, zi_52, zi_57, zi_59, zi_80, zi_93, zi_106, zi_110, zi_114, zx_0_0, zx_0_1, zx_0_2, zx_0_3, zx_0_4, zx_0_5, zx_0_6, zx_0_7, zx_0_8, zx_0_9, zx_0_10, zx_1_0, zx_1_1, zx_2_0, zx_2_1, zx_2_2, zx_2_3, zx_2_4, zx_2_5, zx_10_0, zx_10_1, zx_11_0, zx_11_1, zx_11_2, zx_11_3, zx_17_0, zx_19_0, zx_19_1, zx_19_2, zx_20_0, zx_20_1, zx_20_3, zx_20_4, zx_20_5, zx_20_6, zx_20_7, zx_20_8, zx_20_9, zx_30_0, zx_30_1, zx_30_4, zx_30_5, zx_48_0, zx_50_0, zx_52_0, zx_52_1, zx_52_2, zx_56_0, zx_56_1, zx_56_2, zx_57_0, zx_59_0, zx_80_3, zx_80_4, zx_80_5, zx_81_0, zx_81_1, zx_81_2, zx_81_3, zx_81_4, zx_81_5, zx_88_0, zx_88_1, zx_88_2, zx_93_3, zx_93_4, zx_93_5, zx_94_0, zx_94_1, zx_94_2, zx_94_3, zx_94_4, zx_94_5, zx_101_0, zx_101_1, zx_101_2, zx_106_0, zx_106_1, zx_106_2, zx_110_0, zx_110_1, zx_110_2, zx_114_0, zx_114_1, zx_114_2, zgI_9, zsI_9, zgI_16, zsI_16, zgI_18, zsI_18, zgI_21, zsI_21, zgI_22, zsI_22, zgI_23, zsI_23, zgI_24, zsI_24, zgI_25, zsI_25, zgI_26, zsI_26, zgI_27, zsI_27, zgI_28, zsI_28, zgI_29, zsI_29, zgI_47, zsI_47, zgI_49, zsI_49, zgI_51, zsI_51, zgI_53, zsI_53, zgI_54, zsI_54, zgI_55, zsI_55, zgI_58, zsI_58, zgI_76, zsI_76, zgI_79, zsI_79, zb_58_72, zGo_i, hg2, hed, hk0]
          refine ih2 σ1 ⟨⟨by rw [zsc_b hb]; exact i1, fun f hf => ⟨fun q => ?_, fun q => (i2 f hf).2 (by omega)⟩⟩, hK⟩
          by_cases q2 : f = e
          · rw [q2, zkd_b hb, zsg_b hb]
            exact ⟨hk0, hs0, fun q => absurd hb q⟩
          · exact (i2 f hf).1 (by omega)
        · rw [if_neg hb] at hk0
          have hmv := c_moved hF1 ha hG1 hv hp (v := nI (x + 1)) ⟨x, hx, Or.inl rfl⟩
          rw [zmv_p _ _ (by omega)] at hmv
          have hto : G.2.2.1 x p < G.1 := (hv.2.2.2.1 x p hx hp).1
          have hkd := c_kindOfSign hF1 hC1 hT hv (hal p hp) (hal _ hto)
          have hsc := zsc_le G t e
          have hnm := c_nameSign (k := zk2 t p (G.2.2.1 x p)) hF1 e15 (show zsc G t e < 15 by omega) i1
          have ekd : zkd G t e = zk2 t p (G.2.2.1 x p) := by rw [zkd_n hb, zto, d1, d2]
          simp (disch := first | assumption | omega) only [zn0, zn1, Option.bind_some, zm_ai, zm_al, zm_av, zm_opt, zm_fw, zE_l, zE_r, nI_add, pk_mul, pk_sub, pk_div, pk_rem, zrem, zpm1, zB_i0, zB_i1, zB_ok, zB_T, zB_F, nI_toInt, zT_sub, zT_neg, zT_le, zT_lt, nI_eq, zne1, zne2, zne9, ite_not, or_true, true_or, if_true, if_false, if_pos, if_neg, zw_R, zw_RL, zw_I, zF_R, zw_same, zw_cell, zw_ne, zF_at, zF_ne, zi_0, zi_1, zi_10, zi_17, zi_19, zi_20, zi_30, zi_48, zi_50, zi_52, zi_57, zi_59, zi_80, zi_93, zi_106, zi_110, zi_114, zx_0_0, zx_0_1, zx_0_2, zx_0_3, zx_0_4, zx_0_5, zx_0_6, zx_0_7, zx_0_8, zx_0_9, zx_0_10, zx_1_0, zx_1_1, zx_2_0, zx_2_1, zx_2_2, zx_2_3, zx_2_4, zx_2_5, zx_10_0, zx_10_1, zx_11_0, zx_11_1, zx_11_2, zx_11_3, zx_17_0, zx_19_0, zx_19_1, zx_19_2, zx_20_0, zx_20_1, zx_20_3, zx_20_4, zx_20_5, zx_20_6, zx_20_7, zx_20_8, zx_20_9, zx_30_0, zx_30_1, zx_30_4, zx_30_5, zx_48_0, zx_50_0, zx_52_0, zx_52_1, zx_52_2, zx_56_0, zx_56_1, zx_56_2, zx_57_0, zx_59_0, zx_80_3, zx_80_4, zx_80_5, zx_81_0, zx_81_1, zx_81_2, zx_81_3, zx_81_4, zx_81_5, zx_88_0, zx_88_1, zx_88_2, zx_93_3, zx_93_4, zx_93_5, zx_94_0, zx_94_1, zx_94_2, zx_94_3, zx_94_4, zx_94_5, zx_101_0, zx_101_1, zx_101_2, zx_106_0, zx_106_1, zx_106_2, zx_110_0, zx_110_1, zx_110_2, zx_114_0, zx_114_1, zx_114_2, zgI_9, zsI_9, zgI_16, zsI_16, zgI_18, zsI_18, zgI_21, zsI_21, zgI_22, zsI_22, zgI_23, zsI_23, zgI_24, zsI_24, zgI_25, zsI_25, zgI_26, zsI_26, zgI_27, zsI_27, zgI_28, zsI_28, zgI_29, zsI_29, zgI_47, zsI_47, zgI_49, zsI_49, zgI_51, zsI_51, zgI_53, zsI_53, zgI_54, zsI_54, zgI_55, zsI_55, zgI_58, zsI_58, zgI_76, zsI_76, zgI_79, zsI_79, zb_58_72, zGo_i, hg2, hed, hk0, hmv, hkd, hnm]
          refine ih2 _ ⟨⟨?_, fun f hf => ?_⟩, (((hK.wI rfl).wI rfl).wI rfl).wI rfl⟩
          · rw [zw_cell _ _ (by decide), zw_cell _ _ (by decide), zw_same, zsc_n hb]
          · rw [zw_cell _ _ (show (21 : Nat) ≠ 28 by decide), zw_cell _ _ (show (21 : Nat) ≠ 22 by decide), zw_cell _ _ (show (21 : Nat) ≠ 20 by decide), zw_cell _ _ (show (22 : Nat) ≠ 28 by decide), zwx, zwx, zw_cell _ _ (show (22 : Nat) ≠ 20 by decide), zw_cell _ _ (show (22 : Nat) ≠ 21 by decide)]
            refine ⟨fun q => ?_, fun q => ?_⟩
            · by_cases q2 : f = e
              · rw [if_pos q2, if_pos q2, q2, ekd, zsg_n hb]
                exact ⟨rfl, rfl, fun _ => zw_same _ _ _ _⟩
              · rw [if_neg q2, if_neg q2]
                obtain ⟨j1, j2, j3⟩ := (i2 f hf).1 (by omega)
                refine ⟨j1, j2, fun hfb => ?_⟩
                have hlt : zsg G t f ≤ zsc G t e := by
                  rw [zsg_n hfb, ← zsc_n hfb]
                  exact zsc_mono G t (by omega)
                rw [zw_ne _ _ (Or.inr (by omega)), zw_cell _ _ (by decide), zw_cell _ _ (by decide), zw_cell _ _ (by decide)]
                exact j3 hfb
            · rw [if_neg (show ¬ f = e by omega), if_neg (show ¬ f = e by omega)]
              exact (i2 f hf).2 (by omega)
      · obtain ⟨i1, hK⟩ := hI
        have hg2 := (keepG hK).2.1
        refine zW_of zg_58_72 ?_
        simp (disch := first | assumption | omega) only [zn0, zn1, Option.bind_some, zm_ai, zm_al, zm_av, zm_opt, zm_fw, zE_l, zE_r, nI_add, pk_mul, pk_sub, pk_div, pk_rem, zrem, zpm1, zB_i0, zB_i1, zB_ok, zB_T, zB_F, nI_toInt, zT_sub, zT_neg, zT_le, zT_lt, nI_eq, zne1, zne2, zne9, ite_not, or_true, true_or, if_true, if_false, if_pos, if_neg, zw_R, zw_RL, zw_I, zF_R, zw_same, zw_cell, zw_ne, zF_at, zF_ne, zi_0, zi_1, zi_10, zi_17, zi_19, zi_20, zi_30, zi_48, zi_50, zi_52, zi_57, zi_59, zi_80, zi_93, zi_106, zi_110, zi_114, zx_0_0, zx_0_1, zx_0_2, zx_0_3, zx_0_4, zx_0_5, zx_0_6, zx_0_7, zx_0_8, zx_0_9, zx_0_10, zx_1_0, zx_1_1, zx_2_0, zx_2_1, zx_2_2, zx_2_3, zx_2_4, zx_2_5, zx_10_0, zx_10_1, zx_11_0, zx_11_1, zx_11_2, zx_11_3, zx_17_0, zx_19_0, zx_19_1, zx_19_2, zx_20_0, zx_20_1, zx_20_3, zx_20_4, zx_20_5, zx_20_6, zx_20_7, zx_20_8, zx_20_9, zx_30_0, zx_30_1, zx_30_4, zx_30_5, zx_48_0, zx_50_0, zx_52_0, zx_52_1, zx_52_2, zx_56_0, zx_56_1, zx_56_2, zx_57_0, zx_59_0, zx_80_3, zx_80_4, zx_80_5, zx_81_0, zx_81_1, zx_81_2, zx_81_3, zx_81_4, zx_81_5, zx_88_0, zx_88_1, zx_88_2, zx_93_3, zx_93_4, zx_93_5, zx_94_0, zx_94_1, zx_94_2, zx_94_3, zx_94_4, zx_94_5, zx_101_0, zx_101_1, zx_101_2, zx_106_0, zx_106_1, zx_106_2, zx_110_0, zx_110_1, zx_110_2, zx_114_0, zx_114_1, zx_114_2, zgI_9, zsI_9, zgI_16, zsI_16, zgI_18, zsI_18, zgI_21, zsI_21, zgI_22, zsI_22, zgI_23, zsI_23, zgI_24, zsI_24, zgI_25, zsI_25, zgI_26, zsI_26, zgI_27, zsI_27, zgI_28, zsI_28, zgI_29, zsI_29, zgI_47, zsI_47, zgI_49, zsI_49, zgI_51, zsI_51, zgI_53, zsI_53, zgI_54, zsI_54, zgI_55, zsI_55, zgI_58, zsI_58, zgI_76, zsI_76, zgI_79, zsI_79, zb_58_72, zGo_i, hg2]
        refine ih σ1 ⟨?_, hK⟩
        rw [Nat.mul_add, Nat.mul_one]
        exact i1
    · obtain ⟨⟨i1, i2⟩, hK⟩ := hI
      have hg1 := (keepG hK).1
      rw [Nat.mul_comm G.2.1 G.1] at i1 i2
      refine zW_of zg_58_62 ?_
      simp (disch := first | assumption | omega) only [zn0, zn1, Option.bind_some, zm_ai, zm_al, zm_av, zm_opt, zm_fw, zE_l, zE_r, nI_add, pk_mul, pk_sub, pk_div, pk_rem, zrem, zpm1, zB_i0, zB_i1, zB_ok, zB_T, zB_F, nI_toInt, zT_sub, zT_neg, zT_le, zT_lt, nI_eq, zne1, zne2, zne9, ite_not, or_true, true_or, if_true, if_false, if_pos, if_neg, zw_R, zw_RL, zw_I, zF_R, zw_same, zw_cell, zw_ne, zF_at, zF_ne, zi_0, zi_1, zi_10, zi_17, zi_19, zi_20, zi_30, zi_48, zi_50, zi_52, zi_57, zi_59, zi_80, zi_93, zi_106, zi_110, zi_114, zx_0_0, zx_0_1, zx_0_2, zx_0_3, zx_0_4, zx_0_5, zx_0_6, zx_0_7, zx_0_8, zx_0_9, zx_0_10, zx_1_0, zx_1_1, zx_2_0, zx_2_1, zx_2_2, zx_2_3, zx_2_4, zx_2_5, zx_10_0, zx_10_1, zx_11_0, zx_11_1, zx_11_2, zx_11_3, zx_17_0, zx_19_0, zx_19_1, zx_19_2, zx_20_0, zx_20_1, zx_20_3, zx_20_4, zx_20_5, zx_20_6, zx_20_7, zx_20_8, zx_20_9, zx_30_0, zx_30_1, zx_30_4, zx_30_5, zx_48_0, zx_50_0, zx_52_0, zx_52_1, zx_52_2, zx_56_0, zx_56_1, zx_56_2, zx_57_0, zx_59_0, zx_80_3, zx_80_4, zx_80_5, zx_81_0, zx_81_1, zx_81_2, zx_81_3, zx_81_4, zx_81_5, zx_88_0, zx_88_1, zx_88_2, zx_93_3, zx_93_4, zx_93_5, zx_94_0, zx_94_1, zx_94_2, zx_94_3, zx_94_4, zx_94_5, zx_101_0, zx_101_1, zx_101_2, zx_106_0, zx_106_1, zx_106_2, zx_110_0, zx_110_1, zx_110_2, zx_114_0, zx_114_1, zx_114_2, zgI_9, zsI_9, zgI_16, zsI_16, zgI_18, zsI_18, zgI_21, zsI_21, zgI_22, zsI_22, zgI_23, zsI_23, zgI_24, zsI_24, zgI_25, zsI_25, zgI_26, zsI_26, zgI_27, zsI_27, zgI_28, zsI_28, zgI_29, zsI_29, zgI_47, zsI_47, zgI_49, zsI_49, zgI_51, zsI_51, zgI_53, zsI_53, zgI_54, zsI_54, zgI_55, zsI_55, zgI_58, zsI_58, zgI_76, zsI_76, zgI_79, zsI_79, zb_58_62, zGo_i, hg1]
      exact ⟨σ1, rfl, ⟨i1, fun e he => (i2 e he).1 he⟩, hK⟩
  · refine ⟨⟨?_, fun e he => ⟨?_, ?_⟩⟩, ?_⟩
    · rw [zF_ne _ _ (by decide), zF_ne _ _ (by decide), zw_same]
    · rw [zF_ne _ _ (by decide), zF_at]
      rw [if_pos he]
      exact congrArg nI (if_neg (by rintro ⟨q, h1, _⟩; omega)).symm
    · rw [zF_at]
      rw [if_pos he]
    · exact (((zKeep.rf zFN σ).wI rfl).wF fun k => rfl).wF fun k => rfl
end ZED
