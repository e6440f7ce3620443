/-! what is told as a share; powers -/
theorem zgcd_s (x y : Nat) : Nat.gcd y (x % y) = Nat.gcd x y := by
  rw [Nat.gcd_comm x y, Nat.gcd_rec y x, Nat.gcd_comm]
theorem zlc0 (y : Nat) (hy : y < 2 ^ 62) : (lg_cmp (lN y) (Int64.ofNat 0) = nI 0) = (y = 0) := propext (by
  rw [nI_0, lg_cmp_eq]
  exact pk_lEQ (by omega) (by omega))
theorem zlz (y : Nat) (hy : y < 2 ^ 62) : (lN y = 0) = (y = 0) := propext (pk_lEQ (a := y) (b := 0) (by omega) (by omega))
theorem zL_at (σ : zm_Sig) (a i : Nat) (v : Int64) (j : Nat) : (zm_wL σ a i v).2.1 a j = if j = i then v else σ.2.1 a j := by
  simp only [zm_wL, va_up, vp_updL, if_true]
theorem zL_ne (σ : zm_Sig) {a i b : Nat} (v : Int64) (h : b ≠ a) : (zm_wL σ a i v).2.1 b = σ.2.1 b := by
  simp only [zm_wL, va_up, if_neg h]
section ZSR
variable {σ σ' : zm_Sig} {a : Nat} {G : zG} {ds : List zDd} {ks : zKs} {R T : zRo} {K : zK}
theorem c_gcdLoop (Q : zm_Out → Prop) : ∀ (k x y i : Nat), y < 2 ^ k → x < 2 ^ 60 → y < 2 ^ 60 → i + 2 * k ≤ 199 → Q (some (.long (lN (Nat.gcd x y))), zL, σ) → zW 154 (9, [(4, .long (lN x)), (6, .long (lN y)), (8, .int (nI i))], [], zL, σ, 0, 0) Q := by
  have done : ∀ x i, i ≤ 199 → x < 2 ^ 60 → Q (some (.long (lN (Nat.gcd x 0))), zL, σ) → zW 154 (9, [(4, .long (lN x)), (6, .long (lN 0)), (8, .int (nI i))], [], zL, σ, 0, 0) Q := by
    intro x i hi hx hQ
    rw [Nat.gcd_zero_right] at hQ
    have e1 : (lg_cmp (lN 0) (Int64.ofNat 0) = nI 0) = True := eq_true (by decide)
    refine zW_of zg_154_9 ?_
    simp (disch := first | assumption | omega) only [zn0, zn1, Option.bind_some, zm_ai, zm_al, zm_av, zm_opt, zm_fw, zE_l, zE_r, nI_add, pk_mul, pk_sub, pk_div, pk_rem, zrem, zpm1, zB_i0, zB_i1, zB_ok, zB_T, zB_F, nI_toInt, zT_sub, zT_neg, zT_le, zT_lt, nI_eq, zne1, zne2, zne9, ite_not, or_true, true_or, if_true, if_false, if_pos, if_neg, zw_R, zw_RL, zw_I, zF_R, zw_same, zw_cell, zw_ne, zF_at, zF_ne, zb_154_9, e1]
    exact hQ
  have step : ∀ x y i, y ≠ 0 → i ≤ 198 → x < 2 ^ 60 → y < 2 ^ 60 → zW 154 (9, [(4, .long (lN y)), (6, .long (lN (x % y))), (8, .int (nI (i + 1)))], [], zL, σ, 0, 0) Q → zW 154 (9, [(4, .long (lN x)), (6, .long (lN y)), (8, .int (nI i))], [], zL, σ, 0, 0) Q := by
    intro x y i hy hi hx hyb ih
    have e1 : (lg_cmp (lN y) (Int64.ofNat 0) = nI 0) = False := by rw [zlc0 y (by omega)]; exact eq_false hy
    have e3 : lN x - lN x / lN y * lN y = lN (x % y) := pk_lRem (by omega) (by omega) (by omega)
    have e4 : (nI 200 ≤ nI i) = False := zd_leF (by omega) (by omega)
    have e2' : (lN y = 0) = False := by rw [zlz y (by omega)]; exact eq_false hy
    refine zW_of zg_154_9 ?_
    simp only [zb_154_9, zn0, zn1, e4, if_false, e1, e2', e3, nI_add, zE_l]
    exact ih
  intro k
  induction k with
  | zero =>
    intro x y i hy hx hyb hi hQ
    have : y = 0 := by omega
    subst this
    exact done x i (by omega) hx hQ
  | succ k ih =>
    intro x y i hy hx hyb hi hQ
    by_cases y0 : y = 0
    · subst y0
      exact done x i (by omega) hx hQ
    · have h1 : x % y < y := Nat.mod_lt _ (by omega)
      refine step x y i y0 (by omega) hx hyb ?_
      have hQ1 : Q (some (.long (lN (Nat.gcd y (x % y)))), zL, σ) := by
        rw [zgcd_s]
        exact hQ
      by_cases h2 : x % y < 2 ^ k
      · exact ih y (x % y) (i + 1) h2 hyb (by omega) (by omega) hQ1
      · have h3 : x % y ≠ 0 := by
          intro q
          rw [q] at h2
          exact h2 (Nat.two_pow_pos k)
        have h4 : y % (x % y) < 2 ^ k := by
          rw [Nat.pow_succ] at hy
          have : y / (x % y) = 1 := by
            refine Nat.div_eq_of_lt_le ?_ ?_ <;> omega
          have h5 := Nat.div_add_mod y (x % y)
          rw [this] at h5
          omega
        refine step y (x % y) (i + 1) h3 (by omega) hyb (by omega) ?_
        refine ih (x % y) (y % (x % y)) (i + 1 + 1) h4 (by omega) (by have := Nat.mod_lt y (show 0 < x % y by omega); omega) (by omega) ?_
        rw [zgcd_s]
        exact hQ1
theorem c_gcd {x y : Nat} (hx : x < 2 ^ 60) (hy : y < 2 ^ 60) : zM 154 [.long (lN x), .long (lN y)] zL σ = some (some (.long (lN (Nat.gcd x y))), zL, σ) := by
  refine zS_eq (zS_of ze_154 ?_)
  simp (disch := first | assumption | omega) only [zn0, zn1, Option.bind_some, zm_ai, zm_al, zm_av, zm_opt, zm_fw, zE_l, zE_r, nI_add, pk_mul, pk_sub, pk_div, pk_rem, zrem, zpm1, zB_i0, zB_i1, zB_ok, zB_T, zB_F, nI_toInt, zT_sub, zT_neg, zT_le, zT_lt, nI_eq, zne1, zne2, zne9, ite_not, or_true, true_or, if_true, if_false, if_pos, if_neg, zw_R, zw_RL, zw_I, zF_R, zw_same, zw_cell, zw_ne, zF_at, zF_ne, zb_154_0]
  exact c_gcdLoop _ 60 x y 0 hy hx hy (by omega) rfl
def zSh2 (σ : zm_Sig) (c i : Nat) (x y : Nat) : zm_Sig := zm_wL (zm_wL σ c i (lN (x / Nat.gcd x y))) c (i + 1) (lN (y / Nat.gcd x y))
theorem zgpos {x y : Nat} (hy : 0 < y) : 0 < Nat.gcd x y := Nat.gcd_pos_of_pos_right x hy
theorem c_tellShare {x y : Nat} (hx : x < 2 ^ 60) (hy : y < 2 ^ 60) (h0 : 0 < y) : zM 153 [.ref 0, .long (lN x), .long (lN y)] zL σ = some (none, zL, zSh2 σ 0 14 x y) := by
  have e1 := c_gcd (σ := σ) hx hy
  have hg := zgpos (x := x) h0
  have hgl : Nat.gcd x y ≤ y := Nat.gcd_le_right x h0
  have d1 : lN x / lN (Nat.gcd x y) = lN (x / Nat.gcd x y) := pk_lDiv (by omega) hg (by omega)
  have d2 : lN y / lN (Nat.gcd x y) = lN (y / Nat.gcd x y) := pk_lDiv (by omega) hg (by omega)
  have c1 : (nI 0 < lg_cmp (lN (Nat.gcd x y)) (Int64.ofNat 0)) = True := eq_true (by
    rw [nI_0, lg_cmp_gt]
    exact (pk_lLT (a := 0) (b := Nat.gcd x y) (by omega) (by omega)).mpr hg)
  have c2 : (lN (Nat.gcd x y) = 0) = False := by
    rw [zlz _ (by omega)]
    exact eq_false (by omega)
  refine zS_eq (zS_of ze_153 ?_)
  simp only [zb_153_0, zn0, e1, zm_al, Option.bind_some, c1, if_true, c2, if_false, zi_0, zm_fw, d1, d2, zE_r]
  rfl
theorem m_gcdLoop (Q : zm_Out → Prop) {A D : Nat} (hA : A < 2 ^ 60) (hD : D < 2 ^ 60) (h0 : 0 < D) (hQ : Q (some (.int (nI 1)), zL, zSh2 σ 118 27 A D)) : ∀ (y x : Nat), x < 2 ^ 60 → y < 2 ^ 60 → Nat.gcd x y = Nat.gcd A D → zW 275 (6, [(0, .ref 118), (1, .long (lN A)), (3, .long (lN D)), (5, .long (lN x)), (7, .long (lN y))], [], zL, σ, 0, 0) Q := by
  intro y
  induction y using Nat.strongRecOn with
  | ind y ih =>
    intro x hx hy hg
    by_cases y0 : y = 0
    · subst y0
      rw [Nat.gcd_zero_right] at hg
      have hp := zgpos (x := A) h0
      have hgl : Nat.gcd A D ≤ D := Nat.gcd_le_right A h0
      have e1 : (lg_cmp (lN 0) (Int64.ofNat 0) = nI 0) = True := eq_true (by decide)
      have d1 : lN A / lN x = lN (A / Nat.gcd A D) := by rw [hg]; exact pk_lDiv (by omega) hp (by omega)
      have d2 : lN D / lN x = lN (D / Nat.gcd A D) := by rw [hg]; exact pk_lDiv (by omega) hp (by omega)
      have c2 : (lN x = 0) = False := by
        rw [zlz _ (by omega)]
        exact eq_false (by omega)
      refine zW_of zg_275_6 ?_
      simp only [zb_275_6, zn0, zn1, e1, if_true, c2, if_false, zi_118, Option.bind_some, zm_fw, d1, d2, zE_r]
      exact hQ
    · have e1 : (lg_cmp (lN y) (Int64.ofNat 0) = nI 0) = False := by rw [zlc0 y (by omega)]; exact eq_false y0
      have c2 : (lN y = 0) = False := by
        rw [zlz _ (by omega)]
        exact eq_false y0
      have e3 : lN x - lN x / lN y * lN y = lN (x % y) := pk_lRem (by omega) (by omega) (by omega)
      have h1 : x % y < y := Nat.mod_lt _ (by omega)
      refine zW_of zg_275_6 ?_
      simp only [zb_275_6, zn0, e1, if_false, c2, e3, zE_l]
      exact ih (x % y) h1 y hy (by omega) (by rw [zgcd_s]; exact hg)
theorem m_tellsPart {A D : Nat} (hA : A < 2 ^ 60) (hD : D < 2 ^ 60) (h0 : 0 < D) : zM 275 [.ref 118, .long (lN A), .long (lN D)] zL σ = some (some (.int (nI 1)), zL, zSh2 σ 118 27 A D) := by
  refine zS_eq (zS_of ze_275 ?_)
  simp (disch := first | assumption | omega) only [zn0, zn1, Option.bind_some, zm_ai, zm_al, zm_av, zm_opt, zm_fw, zE_l, zE_r, nI_add, pk_mul, pk_sub, pk_div, pk_rem, zrem, zpm1, zB_i0, zB_i1, zB_ok, zB_T, zB_F, nI_toInt, zT_sub, zT_neg, zT_le, zT_lt, nI_eq, zne1, zne2, zne9, ite_not, or_true, true_or, if_true, if_false, if_pos, if_neg, zw_R, zw_RL, zw_I, zF_R, zw_same, zw_cell, zw_ne, zF_at, zF_ne, zb_275_0]
  exact m_gcdLoop (fun q => q = (some (.int (nI 1)), zL, zSh2 σ 118 27 A D)) hA hD h0 rfl D A hA hD rfl
theorem zC.share (h : zC σ a R T K G ds ks) (hV : zVk G ds ks) (x y : Nat) : zC (zSh2 σ 0 14 x y) a R T (zKu K (lN (x / Nat.gcd x y)) (lN (y / Nat.gcd x y))) G ds ks := by
  have hK : zKeep (fun x k => x == 0 && (k == 14 || k == 15)) σ (zSh2 σ 0 14 x y) := ((zKeep.rf _ _).wL rfl).wL rfl
  obtain ⟨h1, h2, h3, ⟨k1, k2, k3, k4, k5⟩, h5⟩ := h
  refine ⟨hK.fix h1 rfl, h2.keep hK (fun k => rfl) (fun r k hr => by simp <;> omega), h3.keep hK (fun k => rfl) (fun r k hr => by simp <;> omega), ⟨(hK.i rfl).trans k1, ?_, ?_, (hK.i rfl).trans k4, fun f hf => (hK.i rfl).trans (k5 f hf)⟩, h5.keep hV hK fun x k q => by
    have := zCi_f q
    have := h5.1
    unfold zGo at this
    simp
    omega⟩
  · unfold zSh2
    rw [zL_at, if_neg (by decide), zL_at, if_pos rfl]
    rfl
  · unfold zSh2
    rw [zL_at, if_pos rfl]
    rfl
theorem zMm.share (h : zMm σ R T K G ds ks) (hV : zVk G ds ks) (x y : Nat) : zMm (zSh2 σ 118 27 x y) R T (zKu K (lN (x / Nat.gcd x y)) (lN (y / Nat.gcd x y))) G ds ks := by
  have hK : zKeep (fun x k => x == 118 && (k == 27 || k == 28)) σ (zSh2 σ 118 27 x y) := ((zKeep.rf _ _).wL rfl).wL rfl
  obtain ⟨h1, h2, h3, ⟨k1, k2, k3, k4, k5⟩, h5⟩ := h
  refine ⟨hK.fix h1 rfl, h2.keep hK (fun k => rfl) (fun k => rfl), h3.keep hK (fun k => rfl) (fun k => rfl), ⟨(hK.i rfl).trans k1, ?_, ?_, (hK.i rfl).trans k4, fun f hf => (hK.i rfl).trans (k5 f hf)⟩, h5.keep hV hK fun x k q => by
    have := zMi_f q
    simp
    omega⟩
  · unfold zSh2
    rw [zL_at, if_neg (by decide), zL_at, if_pos rfl]
    rfl
  · unfold zSh2
    rw [zL_at, if_pos rfl]
    rfl
theorem zSh2_c (σ : zm_Sig) (x y : Nat) : zKeep zCls σ (zSh2 σ 0 14 x y) := ((zKeep.rf _ _).wL rfl).wL rfl
theorem zSh2_m (σ : zm_Sig) (x y : Nat) : zKeep zRfs σ (zSh2 σ 118 27 x y) := ((zKeep.rf _ _).wL rfl).wL rfl
theorem c_power (b : Nat) {n : Nat} (hn : n < 1000) : zM 152 [.long (lN b), .int (nI n)] zL σ = some (some (.long (lN (b ^ n))), zL, σ) := by
  refine zS_eq (zS_of ze_152 ?_)
  simp (disch := first | assumption | omega) only [zn0, zn1, Option.bind_some, zm_ai, zm_al, zm_av, zm_opt, zm_fw, zE_l, zE_r, nI_add, pk_mul, pk_sub, pk_div, pk_rem, zrem, zpm1, zB_i0, zB_i1, zB_ok, zB_T, zB_F, nI_toInt, zT_sub, zT_neg, zT_le, zT_lt, nI_eq, zne1, zne2, zne9, ite_not, or_true, true_or, if_true, if_false, if_pos, if_neg, zw_R, zw_RL, zw_I, zF_R, zw_same, zw_cell, zw_ne, zF_at, zF_ne, zb_152_0]
  refine zloopP (fun k => (5, [(0, .long (lN b)), (2, .int (nI n)), (3, .long (lN (b ^ k))), (5, .int (nI k))], [], zL, σ, 0, 0)) (fun _ => True) n (fun k hk _ ih => ?_) (fun _ => ?_) trivial
  · have ih := ih trivial
    rw [Nat.pow_succ] at ih
    refine zW_of zg_152_5 ?_
    simp (disch := first | assumption | omega) only [zn0, zn1, Option.bind_some, zm_ai, zm_al, zm_av, zm_opt, zm_fw, zE_l, zE_r, nI_add, pk_mul, pk_sub, pk_div, pk_rem, zrem, zpm1, zB_i0, zB_i1, zB_ok, zB_T, zB_F, nI_toInt, zT_sub, zT_neg, zT_le, zT_lt, nI_eq, zne1, zne2, zne9, ite_not, or_true, true_or, if_true, if_false, if_pos, if_neg, zw_R, zw_RL, zw_I, zF_R, zw_same, zw_cell, zw_ne, zF_at, zF_ne, zb_152_5, lN_mul]
    exact ih
  · refine zW_of zg_152_5 ?_
    simp (disch := first | assumption | omega) only [zn0, zn1, Option.bind_some, zm_ai, zm_al, zm_av, zm_opt, zm_fw, zE_l, zE_r, nI_add, pk_mul, pk_sub, pk_div, pk_rem, zrem, zpm1, zB_i0, zB_i1, zB_ok, zB_T, zB_F, nI_toInt, zT_sub, zT_neg, zT_le, zT_lt, nI_eq, zne1, zne2, zne9, ite_not, or_true, true_or, if_true, if_false, if_pos, if_neg, zw_R, zw_RL, zw_I, zF_R, zw_same, zw_cell, zw_ne, zF_at, zF_ne, zb_152_5]
end ZSR
