/-! matrices modulo a prime: class and reference -/
def zfmE (x y : Int32) : Int32 := if (0 : Int32) ≤ (x ^^^ y) then x - x / y * y else if x - x / y * y = 0 then x - x / y * y else (x - x / y * y) + y
def zrfE (x y : Int32) : Int32 := ((x - x / y * y) + y) - ((x - x / y * y) + y) / y * y
def zfv (p : Nat) (x : Int32) : Nat := (zfmE x (nI p)).toNatClampNeg
theorem zfv_d1 : ∀ p, p < 8 → 2 ≤ p → ∀ j, j < 41 → zfmE (nI j) (nI p) = nI (zfv p (nI j)) ∧ zfv p (nI j) < p ∧ zrfE (nI j) (nI p) = nI (zfv p (nI j)) := by decide +kernel
theorem zfv_d2 : ∀ p, p < 8 → 2 ≤ p → ∀ j, j < 41 → zfmE (-nI j) (nI p) = nI (zfv p (-nI j)) ∧ zfv p (-nI j) < p ∧ zrfE (-nI j) (nI p) = nI (zfv p (-nI j)) := by decide +kernel
theorem zel_b : (List.range 8).all (fun p => (List.range p).all fun e => (List.range p).all fun l => (List.range p).all fun b => (List.range p).all fun c => decide (p < 2 ∨ zfmE (nI e * nI l - nI b * nI c) (nI p) = nI ((e * l + (p - c) * b) % p))) = true := by decide +kernel
theorem zel_d (p : Nat) (hp : p < 8) (h2 : 2 ≤ p) (e : Nat) (he : e < p) (l : Nat) (hl : l < p) (b : Nat) (hb : b < p) (c : Nat) (hc : c < p) : zfmE (nI e * nI l - nI b * nI c) (nI p) = nI ((e * l + (p - c) * b) % p) := by
  have h1 := List.all_eq_true.mp zel_b p (List.mem_range.mpr hp)
  have h3 := List.all_eq_true.mp h1 e (List.mem_range.mpr he)
  have h4 := List.all_eq_true.mp h3 l (List.mem_range.mpr hl)
  have h5 := List.all_eq_true.mp h4 b (List.mem_range.mpr hb)
  have h6 := List.all_eq_true.mp h5 c (List.mem_range.mpr hc)
  rcases of_decide_eq_true h6 with q | q
  · omega
  · exact q
theorem z_pm {x : Int32} (h1 : -40 ≤ x.toInt) (h2 : x.toInt ≤ 40) : ∃ j, j < 41 ∧ (x = nI j ∨ x = -nI j) := by
  by_cases h : 0 ≤ x.toInt
  · refine ⟨x.toInt.toNat, by omega, Or.inl (Int32.toInt_inj.mp ?_)⟩
    rw [nI_toInt (by omega)]
    omega
  · refine ⟨(-x.toInt).toNat, by omega, Or.inr (Int32.toInt_inj.mp ?_)⟩
    rw [zT_neg (by omega)]
    omega
theorem zfv_ok {p : Nat} (hp2 : 2 ≤ p) (hp8 : p < 8) {x : Int32} (h1 : -40 ≤ x.toInt) (h2 : x.toInt ≤ 40) : zfmE x (nI p) = nI (zfv p x) ∧ zfv p x < p ∧ zrfE x (nI p) = nI (zfv p x) := by
  obtain ⟨j, hj, rfl | rfl⟩ := z_pm h1 h2
  · exact zfv_d1 p hp8 hp2 j hj
  · exact zfv_d2 p hp8 hp2 j hj
/-- values -/
noncomputable def zpv (M : Nat → Nat → Nat) (h k r : Nat) : Option Nat := zfirst (fun i => r ≤ i ∧ M i k ≠ 0) h
def zsw (M : Nat → Nat → Nat) (i r : Nat) : Nat → Nat → Nat := fun b => if b = r then M i else if b = i then M r else M b
def zce (p : Nat) (M : Nat → Nat → Nat) (r k i : Nat) : Nat → Nat → Nat := fun b m => if r < b ∧ b < i then (M b m * M r k + (p - M b k) * M r m) % p else M b m
noncomputable def zcl2 (p h : Nat) (s : Nat × (Nat → Nat → Nat)) (k : Nat) (o : Option Nat) : Nat × (Nat → Nat → Nat) := match o with
  | none => s
  | some i => (s.1 + 1, zce p (zsw s.2 i s.1) s.1 k h)
noncomputable def zcol (p h : Nat) (s : Nat × (Nat → Nat → Nat)) (k : Nat) : Nat × (Nat → Nat → Nat) := zcl2 p h s k (zpv s.2 h k s.1)
noncomputable def zrk (p h : Nat) (M : Nat → Nat → Nat) : Nat → Nat × (Nat → Nat → Nat)
  | 0 => (0, M)
  | k + 1 => zcol p h (zrk p h M k) k
def zLm (p h w : Nat) (M : Nat → Nat → Nat) : Prop := ∀ i m, i < h → m < w → M i m < p
theorem zpv_sp {M : Nat → Nat → Nat} {h k r i : Nat} (e : zpv M h k r = some i) : i < h ∧ r ≤ i ∧ M i k ≠ 0 := by
  obtain ⟨h1, h2, h3⟩ := zfirst_sp e
  exact ⟨h1, h2, h3⟩
theorem zpv_full {M : Nat → Nat → Nat} {h k r : Nat} (hr : h ≤ r) : zpv M h k r = none := zfirst_no fun j hj q => by
  have := q.1
  omega
theorem zsw_lm {p h w : Nat} {M : Nat → Nat → Nat} (hM : zLm p h w M) {i r : Nat} (hi : i < h) (hr : r < h) : zLm p h w (zsw M i r) := fun b m hb hm => by
  unfold zsw
  split
  · exact hM i m hi hm
  · split
    · exact hM r m hr hm
    · exact hM b m hb hm
theorem zce_lm {p h w : Nat} {M : Nat → Nat → Nat} (hp : 0 < p) (hM : zLm p h w M) (r k i : Nat) : zLm p h w (zce p M r k i) := fun b m hb hm => by
  unfold zce
  split
  · exact Nat.mod_lt _ hp
  · exact hM b m hb hm
theorem zrk_ok {p h w : Nat} {M : Nat → Nat → Nat} (hp : 0 < p) (hM : zLm p h w M) : ∀ k, zLm p h w (zrk p h M k).2 ∧ (zrk p h M k).1 ≤ h ∧ (zrk p h M k).1 ≤ k
  | 0 => ⟨hM, Nat.zero_le _, Nat.le_refl _⟩
  | k + 1 => by
    obtain ⟨h1, h2, h3⟩ := zrk_ok hp hM k
    show zLm p h w (zcol p h (zrk p h M k) k).2 ∧ (zcol p h (zrk p h M k) k).1 ≤ h ∧ (zcol p h (zrk p h M k) k).1 ≤ k + 1
    unfold zcol
    cases e : zpv (zrk p h M k).2 h k (zrk p h M k).1 with
    | none => exact ⟨h1, h2, Nat.le_succ_of_le h3⟩
    | some i =>
      obtain ⟨a1, a2, a3⟩ := zpv_sp e
      exact ⟨zce_lm hp (zsw_lm h1 a1 (by omega)) _ _ _, by show (zrk p h M k).1 + 1 ≤ h; omega, by show (zrk p h M k).1 + 1 ≤ k + 1; omega⟩
theorem zrk_full {p h : Nat} {M : Nat → Nat → Nat} {k : Nat} (hk : h ≤ (zrk p h M k).1) : ∀ d, zrk p h M (k + d) = zrk p h M k
  | 0 => rfl
  | d + 1 => by
    show zcol p h (zrk p h M (k + d)) (k + d) = _
    rw [zrk_full hk d]
    unfold zcol
    rw [zpv_full hk]
    rfl
section ZMA
variable {σ σ' : zm_Sig} {ρ : Nat → Nat} {h w p : Nat} {M : Nat → Nat → Nat}
theorem zL_mx {q : Nat} (hq : q < 15) : zL[61 + q]? = some (1, 15) := (show ∀ q, q < 15 → zL[61 + q]? = some (1, 15) by decide) q hq
theorem zgI_mx {q k : Nat} (hq : q < 15) (hk : k < 15) : zm_gI zL σ (61 + q) (nI k) = some (σ.1 (61 + q) k) := zgI (zL_mx hq) hk (by decide)
theorem zsI_mx {q k : Nat} {v : Int32} (hq : q < 15) (hk : k < 15) : zm_sI zL σ (61 + q) (nI k) v = some (zm_wI σ (61 + q) k v) := zsI (zL_mx hq) hk (by decide)
theorem zgR_60 {i : Nat} (hi : i < 15) : zm_gR zL σ 60 (nI i) = some (σ.2.2 60 i) := zgR4 (n := 15) rfl hi (by decide)
theorem zsR_60 {i q : Nat} (hi : i < 15) (hq : q < 15) : zm_sR zL σ 60 (nI i) (61 + q) = some (zm_wR σ 60 i (some (61 + q))) := by
  have ni : ¬ nI i < 0 := nI_pos (by omega)
  have ci : (nI i).toNatClampNeg = i := nI_clamp (by omega)
  unfold zm_sR
  rw [zL_mx hq]
  show (if nI i < 0 ∨ 15 ≤ (nI i).toNatClampNeg then none else some (zm_wR σ 60 (nI i).toNatClampNeg (some (61 + q)))) = _
  rw [ci, if_neg (by rintro (z | z); exact ni z; omega)]
def zFx0 (x k : Nat) : Bool := (61 ≤ x && x ≤ 75) || (x == 59 && (k == 1 || k == 2))
def zFxm (x k : Nat) : Bool := zFx0 x k || x == 60
theorem zFx0_f {x k : Nat} (hx : ¬ ((61 ≤ x ∧ x ≤ 75) ∨ (x = 59 ∧ (k = 1 ∨ k = 2)))) : zFx0 x k = false := zff fun q => hx (by
  simp only [zFx0, Bool.or_eq_true, Bool.and_eq_true, decide_eq_true_eq, beq_iff_eq] at q
  omega)
theorem zFx0_m (hK : zKeep zFx0 σ σ') : zKeep zFxm σ σ' := hK.mo fun x k q => by simp [zFxm, q]
theorem zFx0_scr (hK : zKeep zFx0 σ σ') : zKeep zScr σ σ' := hK.mo fun x k q => by
  simp only [zFx0, Bool.or_eq_true, Bool.and_eq_true, decide_eq_true_eq, beq_iff_eq] at q
  simp only [zScr, Bool.or_eq_true, Bool.and_eq_true, decide_eq_true_eq, beq_iff_eq]
  omega
theorem zFxm_t {x k : Nat} (q : zFxm x k = true) : (60 ≤ x ∧ x ≤ 75) ∨ (x = 59 ∧ (k = 1 ∨ k = 2)) := by
  simp only [zFxm, zFx0, Bool.or_eq_true, Bool.and_eq_true, decide_eq_true_eq, beq_iff_eq] at q
  omega
theorem zPm.k0 (hρ : zPm σ ρ) (hK : zKeep zFx0 σ σ') : zPm σ' ρ := ⟨fun i hi => (hK.r rfl).trans (hρ.1 i hi), hρ.2⟩
/-- the matrix of the class -/
def zMx (σ : zm_Sig) (ρ : Nat → Nat) (h w : Nat) (V : Nat → Nat → Int32) : Prop := zPm σ ρ ∧ σ.1 59 1 = nI h ∧ σ.1 59 2 = nI w ∧ ∀ i m, i < h → m < w → σ.1 (61 + ρ i) m = V i m
theorem c_mclear (hF : zFix σ) (hρ : zPm σ ρ) (hh : h ≤ 15) (hw : w ≤ 15) : ∃ σ', zM 143 [.ref 59, .int (nI h), .int (nI w)] zL σ = some (none, zL, σ') ∧ zMx σ' ρ h w (fun _ _ => nI 0) ∧ zKeep zFx0 σ σ' := by
  have e1 := c_min σ 15 h (by decide) (by omega)
  have e2 := fun τ => c_min τ 15 w (by decide) (by omega)
  rw [Nat.min_eq_right hh] at e1
  rw [Nat.min_eq_right hw] at e2
  refine zS_ex (zS_of ze_143 ?_)
  simp (disch := first | assumption | omega) only [zn0, zn1, Option.bind_some, zm_ai, zm_al, zm_av, zm_opt, zm_fw, zE_l, zE_r, nI_add, pk_mul, pk_sub, pk_div, pk_rem, zrem, zpm1, zB_i0, zB_i1, zB_ok, zB_T, zB_F, nI_toInt, zT_sub, zT_neg, zT_le, zT_lt, nI_eq, zne1, zne2, zne9, ite_not, or_true, true_or, if_true, if_false, if_pos, if_neg, zw_R, zw_RL, zw_I, zF_R, zw_same, zw_cell, zw_ne, zF_at, zF_ne, ↓zib_0, ↓zib_1, ↓zib_10, ↓zib_17, ↓zib_19, ↓zib_20, ↓zib_30, ↓zib_48, ↓zib_50, ↓zib_52, ↓zib_57, ↓zib_59, ↓zib_80, ↓zib_93, ↓zib_106, ↓zib_110, ↓zib_114, ↓zxb_0_0, ↓zxb_0_1, ↓zxb_0_2, ↓zxb_0_3, ↓zxb_0_4, ↓zxb_0_5, ↓zxb_0_6, ↓zxb_0_7, ↓zxb_0_8, ↓zxb_0_9, ↓zxb_0_10, ↓zxb_1_0, ↓zxb_1_1, ↓zxb_2_0, ↓zxb_2_1, ↓zxb_2_2, ↓zxb_2_3, ↓zxb_2_4, ↓zxb_2_5, ↓zxb_10_0, ↓zxb_10_1, ↓zxb_11_0, ↓zxb_11_1, ↓zxb_11_2, ↓zxb_11_3, ↓zxb_17_0, ↓zxb_19_0, ↓zxb_19_1, ↓zxb_19_2, ↓zxb_20_0, ↓zxb_20_1, ↓zxb_20_3, ↓zxb_20_4, ↓zxb_20_5, ↓zxb_20_6, ↓zxb_20_7, ↓zxb_20_8, ↓zxb_20_9, ↓zxb_30_0, ↓zxb_30_1, ↓zxb_30_4, ↓zxb_30_5, ↓zxb_48_0, ↓zxb_50_0, ↓zxb_52_0, ↓zxb_52_1, ↓zxb_52_2, ↓zxb_56_0, ↓zxb_56_1, ↓zxb_56_2, ↓zxb_57_0, ↓zxb_59_0, ↓zxb_80_3, ↓zxb_80_4, ↓zxb_80_5, ↓zxb_81_0, ↓zxb_81_1, ↓zxb_81_2, ↓zxb_81_3, ↓zxb_81_4, ↓zxb_81_5, ↓zxb_88_0, ↓zxb_88_1, ↓zxb_88_2, ↓zxb_93_3, ↓zxb_93_4, ↓zxb_93_5, ↓zxb_94_0, ↓zxb_94_1, ↓zxb_94_2, ↓zxb_94_3, ↓zxb_94_4, ↓zxb_94_5, ↓zxb_101_0, ↓zxb_101_1, ↓zxb_101_2, ↓zxb_106_0, ↓zxb_106_1, ↓zxb_106_2, ↓zxb_110_0, ↓zxb_110_1, ↓zxb_110_2, ↓zxb_114_0, ↓zxb_114_1, ↓zxb_114_2, ↓zgb_9, ↓zsb_9, ↓zgb_16, ↓zsb_16, ↓zgb_18, ↓zsb_18, ↓zgb_21, ↓zsb_21, ↓zgb_22, ↓zsb_22, ↓zgb_23, ↓zsb_23, ↓zgb_24, ↓zsb_24, ↓zgb_25, ↓zsb_25, ↓zgb_26, ↓zsb_26, ↓zgb_27, ↓zsb_27, ↓zgb_28, ↓zsb_28, ↓zgb_29, ↓zsb_29, ↓zgb_47, ↓zsb_47, ↓zgb_49, ↓zsb_49, ↓zgb_51, ↓zsb_51, ↓zgb_53, ↓zsb_53, ↓zgb_54, ↓zsb_54, ↓zgb_55, ↓zsb_55, ↓zgb_58, ↓zsb_58, ↓zgb_76, ↓zsb_76, ↓zgb_79, ↓zsb_79, zi_0, zi_1, zi_10, zi_17, zi_19, zi_20, zi_30, zi_48, zi_50, zi_52, zi_57, zi_59, zi_80, zi_93, zi_106, zi_110, zi_114, zx_0_0, zx_0_1, zx_0_2, zx_0_3, zx_0_4, zx_0_5, zx_0_6, zx_0_7, zx_0_8, zx_0_9, zx_0_10, zx_1_0, zx_1_1, zx_2_0, zx_2_1, zx_2_2, zx_2_3, zx_2_4, zx_2_5, zx_10_0, zx_10_1, zx_11_0, zx_11_1, zx_11_2, zx_11_3, zx_17_0, zx_19_0, zx_19_1, zx_19_2, zx_20_0, zx_20_1, zx_20_3, zx_20_4, zx_20_5, zx_20_6, zx_20_7, zx_20_8, zx_20_9, zx_30_0, zx_30_1, zx_30_4, zx_30_5, zx_48_0, zx_50_0, zx_52_0, zx_52_1, zx_52_2, zx_56_0, zx_56_1, zx_56_2, zx_57_0, zx_59_0, zx_80_3, zx_80_4, zx_80_5, zx_81_0, zx_81_1, zx_81_2, zx_81_3, zx_81_4, zx_81_5, zx_88_0, zx_88_1, zx_88_2, zx_93_3, zx_93_4, zx_93_5, zx_94_0, zx_94_1, zx_94_2, zx_94_3, zx_94_4, zx_94_5, zx_101_0, zx_101_1, zx_101_2, zx_106_0, zx_106_1, zx_106_2, zx_110_0, zx_110_1, zx_110_2, zx_114_0, zx_114_1, zx_114_2, zgI_9, zsI_9, zgI_16, zsI_16, zgI_18, zsI_18, zgI_21, zsI_21, zgI_22, zsI_22, zgI_23, zsI_23, zgI_24, zsI_24, zgI_25, zsI_25, zgI_26, zsI_26, zgI_27, zsI_27, zgI_28, zsI_28, zgI_29, zsI_29, zgI_47, zsI_47, zgI_49, zsI_49, zgI_51, zsI_51, zgI_53, zsI_53, zgI_54, zsI_54, zgI_55, zsI_55, zgI_58, zsI_58, zgI_76, zsI_76, zgI_79, zsI_79, zb_143_0, e1, e2]
  refine zloop (fun i σ1 => (22, [(0, .ref 59), (3, .int (nI i))], [], zL, σ1, 0, 0)) (fun i σ1 => σ1.1 59 1 = nI h ∧ σ1.1 59 2 = nI w ∧ (∀ j m, j < i → m < 15 → σ1.1 (61 + ρ j) m = nI 0) ∧ zKeep zFx0 σ σ1) h (fun i σ1 hi hI ih => ?_) (fun σ1 hI => ?_) 0 _ (by omega) ⟨by rw [zw_ne _ _ (Or.inr (by decide)), zw_same], zw_same _ _ _ _, fun j m hj _ => by omega, ((zKeep.rf _ _).wI rfl).wI rfl⟩
  · obtain ⟨i1, i2, i3, hK⟩ := hI
    have hF1 := hK.fix hF rfl
    have hρ1 := hρ.k0 hK
    have hp1 := hρ1.1 i (by omega)
    have hq := hρ.2.1 i (by omega)
    have hg := zgR_60 (σ := σ1) (i := i) (by omega)
    have e3 := c_fill (lay := zL) (σ := σ1) (zL_mx hq) (by decide) (nI 0)
    refine zW_of zg_143_22 ?_
    simp (disch := first | assumption | omega) only [zn0, zn1, Option.bind_some, zm_ai, zm_al, zm_av, zm_opt, zm_fw, zE_l, zE_r, nI_add, pk_mul, pk_sub, pk_div, pk_rem, zrem, zpm1, zB_i0, zB_i1, zB_ok, zB_T, zB_F, nI_toInt, zT_sub, zT_neg, zT_le, zT_lt, nI_eq, zne1, zne2, zne9, ite_not, or_true, true_or, if_true, if_false, if_pos, if_neg, zw_R, zw_RL, zw_I, zF_R, zw_same, zw_cell, zw_ne, zF_at, zF_ne, ↓zib_0, ↓zib_1, ↓zib_10, ↓zib_17, ↓zib_19, ↓zib_20, ↓zib_30, ↓zib_48, ↓zib_50, ↓zib_52, ↓zib_57, ↓zib_59, ↓zib_80, ↓zib_93, ↓zib_106, ↓zib_110, ↓zib_114, ↓zxb_0_0, ↓zxb_0_1, ↓zxb_0_2, ↓zxb_0_3, ↓zxb_0_4, ↓zxb_0_5, ↓zxb_0_6, ↓zxb_0_7, ↓zxb_0_8, ↓zxb_0_9, ↓zxb_0_10, ↓zxb_1_0, ↓zxb_1_1, ↓zxb_2_0, ↓zxb_2_1, ↓zxb_2_2, ↓zxb_2_3, ↓zxb_2_4, ↓zxb_2_5, ↓zxb_10_0, ↓zxb_10_1, ↓zxb_11_0, ↓zxb_11_1, ↓zxb_11_2, ↓zxb_11_3, ↓zxb_17_0, ↓zxb_19_0, ↓zxb_19_1, ↓zxb_19_2, ↓zxb_20_0, ↓zxb_20_1, ↓zxb_20_3, ↓zxb_20_4, ↓zxb_20_5, ↓zxb_20_6, ↓zxb_20_7, ↓zxb_20_8, ↓zxb_20_9, ↓zxb_30_0, ↓zxb_30_1, ↓zxb_30_4, ↓zxb_30_5, ↓zxb_48_0, ↓zxb_50_0, ↓zxb_52_0, ↓zxb_52_1, ↓zxb_52_2, ↓zxb_56_0, ↓zxb_56_1, ↓zxb_56_2, ↓zxb_57_0, ↓zxb_59_0, ↓zxb_80_3, ↓zxb_80_4, ↓zxb_80_5, ↓zxb_81_0, ↓zxb_81_1, ↓zxb_81_2, ↓zxb_81_3, ↓zxb_81_4, ↓zxb_81_5, ↓zxb_88_0, ↓zxb_88_1, ↓zxb_88_2, ↓zxb_93_3, ↓zxb_93_4, ↓zxb_93_5, ↓zxb_94_0, ↓zxb_94_1, ↓zxb_94_2, ↓zxb_94_3, ↓zxb_94_4, ↓zxb_94_5, ↓zxb_101_0, ↓zxb_101_1, ↓zxb_101_2, ↓zxb_106_0, ↓zxb_106_1, ↓zxb_106_2, ↓zxb_110_0, ↓zxb_110_1, ↓zxb_110_2, ↓zxb_114_0, ↓zxb_114_1, ↓zxb_114_2, ↓zgb_9, ↓zsb_9, ↓zgb_16, ↓zsb_16, ↓zgb_18, ↓zsb_18, ↓zgb_21, ↓zsb_21, ↓zgb_22, ↓zsb_22, ↓zgb_23, ↓zsb_23, ↓zgb_24, ↓zsb_24, ↓zgb_25, ↓zsb_25, ↓zgb_26, ↓zsb_26, ↓zgb_27, ↓zsb_27, ↓zgb_28, ↓zsb_28, ↓zgb_29, ↓zsb_29, ↓zgb_47, ↓zsb_47, ↓zgb_49, ↓zsb_49, ↓zgb_51, ↓zsb_51, ↓zgb_53, ↓zsb_53, ↓zgb_54, ↓zsb_54, ↓zgb_55, ↓zsb_55, ↓zgb_58, ↓zsb_58, ↓zgb_76, ↓zsb_76, ↓zgb_79, ↓zsb_79, zi_0, zi_1, zi_10, zi_17, zi_19, zi_20, zi_30, zi_48, zi_50, zi_52, zi_57, zi_59, zi_80, zi_93, zi_106, zi_110, zi_114, zx_0_0, zx_0_1, zx_0_2, zx_0_3, zx_0_4, zx_0_5, zx_0_6, zx_0_7, zx_0_8, zx_0_9, zx_0_10, zx_1_0, zx_1_1, zx_2_0, zx_2_1, zx_2_2, zx_2_3, zx_2_4, zx_2_5, zx_10_0, zx_10_1, zx_11_0, zx_11_1, zx_11_2, zx_11_3, zx_17_0, zx_19_0, zx_19_1, zx_19_2, zx_20_0, zx_20_1, zx_20_3, zx_20_4, zx_20_5, zx_20_6, zx_20_7, zx_20_8, zx_20_9, zx_30_0, zx_30_1, zx_30_4, zx_30_5, zx_48_0, zx_50_0, zx_52_0, zx_52_1, zx_52_2, zx_56_0, zx_56_1, zx_56_2, zx_57_0, zx_59_0, zx_80_3, zx_80_4, zx_80_5, zx_81_0, zx_81_1, zx_81_2, zx_81_3, zx_81_4, zx_81_5, zx_88_0, zx_88_1, zx_88_2, zx_93_3, zx_93_4, zx_93_5, zx_94_0, zx_94_1, zx_94_2, zx_94_3, zx_94_4, zx_94_5, zx_101_0, zx_101_1, zx_101_2, zx_106_0, zx_106_1, zx_106_2, zx_110_0, zx_110_1, zx_110_2, zx_114_0, zx_114_1, zx_114_2, zgI_9, zsI_9, zgI_16, zsI_16, zgI_18, zsI_18, zgI_21, zsI_21, zgI_22, zsI_22, zgI_23, zsI_23, zgI_24, zsI_24, zgI_25, zsI_25, zgI_26, zsI_26, zgI_27, zsI_27, zgI_28, zsI_28, zgI_29, zsI_29, zgI_47, zsI_47, zgI_49, zsI_49, zgI_51, zsI_51, zgI_53, zsI_53, zgI_54, zsI_54, zgI_55, zsI_55, zgI_58, zsI_58, zgI_76, zsI_76, zgI_79, zsI_79, zb_143_22, i1, hg, hp1, e3]
    refine ih _ ⟨by rw [zF_ne _ _ (by omega)]; exact i1, by rw [zF_ne _ _ (by omega)]; exact i2, fun j m hj hm => ?_, hK.wF fun k => by simp only [zFx0, Bool.or_eq_true, Bool.and_eq_true, decide_eq_true_eq, beq_iff_eq]; omega⟩
    by_cases e : j = i
    · subst e
      rw [zF_at]
      exact if_pos hm
    · rw [zF_ne _ _ (fun z => e (hρ.2.2 j i (by omega) (by omega) (by omega)))]
      exact i3 j m (by omega) hm
  · obtain ⟨i1, i2, i3, hK⟩ := hI
    have hF1 := hK.fix hF rfl
    refine zW_of zg_143_22 ?_
    simp (disch := first | assumption | omega) only [zn0, zn1, Option.bind_some, zm_ai, zm_al, zm_av, zm_opt, zm_fw, zE_l, zE_r, nI_add, pk_mul, pk_sub, pk_div, pk_rem, zrem, zpm1, zB_i0, zB_i1, zB_ok, zB_T, zB_F, nI_toInt, zT_sub, zT_neg, zT_le, zT_lt, nI_eq, zne1, zne2, zne9, ite_not, or_true, true_or, if_true, if_false, if_pos, if_neg, zw_R, zw_RL, zw_I, zF_R, zw_same, zw_cell, zw_ne, zF_at, zF_ne, ↓zib_0, ↓zib_1, ↓zib_10, ↓zib_17, ↓zib_19, ↓zib_20, ↓zib_30, ↓zib_48, ↓zib_50, ↓zib_52, ↓zib_57, ↓zib_59, ↓zib_80, ↓zib_93, ↓zib_106, ↓zib_110, ↓zib_114, ↓zxb_0_0, ↓zxb_0_1, ↓zxb_0_2, ↓zxb_0_3, ↓zxb_0_4, ↓zxb_0_5, ↓zxb_0_6, ↓zxb_0_7, ↓zxb_0_8, ↓zxb_0_9, ↓zxb_0_10, ↓zxb_1_0, ↓zxb_1_1, ↓zxb_2_0, ↓zxb_2_1, ↓zxb_2_2, ↓zxb_2_3, ↓zxb_2_4, ↓zxb_2_5, ↓zxb_10_0, ↓zxb_10_1, ↓zxb_11_0, ↓zxb_11_1, ↓zxb_11_2, ↓zxb_11_3, ↓zxb_17_0, ↓zxb_19_0, ↓zxb_19_1, ↓zxb_19_2, ↓zxb_20_0, ↓zxb_20_1, ↓zxb_20_3, ↓zxb_20_4, ↓zxb_20_5, ↓zxb_20_6, ↓zxb_20_7, ↓zxb_20_8, ↓zxb_20_9, ↓zxb_30_0, ↓zxb_30_1, ↓zxb_30_4, ↓zxb_30_5, ↓zxb_48_0, ↓zxb_50_0, ↓zxb_52_0, ↓zxb_52_1, ↓zxb_52_2, ↓zxb_56_0, ↓zxb_56_1, ↓zxb_56_2, ↓zxb_57_0, ↓zxb_59_0, ↓zxb_80_3, ↓zxb_80_4, ↓zxb_80_5, ↓zxb_81_0, ↓zxb_81_1, ↓zxb_81_2, ↓zxb_81_3, ↓zxb_81_4, ↓zxb_81_5, ↓zxb_88_0, ↓zxb_88_1, ↓zxb_88_2, ↓zxb_93_3, ↓zxb_93_4, ↓zxb_93_5, ↓zxb_94_0, ↓zxb_94_1, ↓zxb_94_2, ↓zxb_94_3, ↓zxb_94_4, ↓zxb_94_5, ↓zxb_101_0, ↓zxb_101_1, ↓zxb_101_2, ↓zxb_106_0, ↓zxb_106_1, ↓zxb_106_2, ↓zxb_110_0, ↓zxb_110_1, ↓zxb_110_2, ↓zxb_114_0, ↓zxb_114_1, ↓zxb_114_2, ↓zgb_9, ↓zsb_9, ↓zgb_16, ↓zsb_16, ↓zgb_18, ↓zsb_18, ↓zgb_21, ↓zsb_21, ↓zgb_22, ↓zsb_22, ↓zgb_23, ↓zsb_23, ↓zgb_24, ↓zsb_24, ↓zgb_25, ↓zsb_25, ↓zgb_26, ↓zsb_26, ↓zgb_27, ↓zsb_27, ↓zgb_28, ↓zsb_28, ↓zgb_29, ↓zsb_29, ↓zgb_47, ↓zsb_47, ↓zgb_49, ↓zsb_49, ↓zgb_51, ↓zsb_51, ↓zgb_53, ↓zsb_53, ↓zgb_54, ↓zsb_54, ↓zgb_55, ↓zsb_55, ↓zgb_58, ↓zsb_58, ↓zgb_76, ↓zsb_76, ↓zgb_79, ↓zsb_79, zi_0, zi_1, zi_10, zi_17, zi_19, zi_20, zi_30, zi_48, zi_50, zi_52, zi_57, zi_59, zi_80, zi_93, zi_106, zi_110, zi_114, zx_0_0, zx_0_1, zx_0_2, zx_0_3, zx_0_4, zx_0_5, zx_0_6, zx_0_7, zx_0_8, zx_0_9, zx_0_10, zx_1_0, zx_1_1, zx_2_0, zx_2_1, zx_2_2, zx_2_3, zx_2_4, zx_2_5, zx_10_0, zx_10_1, zx_11_0, zx_11_1, zx_11_2, zx_11_3, zx_17_0, zx_19_0, zx_19_1, zx_19_2, zx_20_0, zx_20_1, zx_20_3, zx_20_4, zx_20_5, zx_20_6, zx_20_7, zx_20_8, zx_20_9, zx_30_0, zx_30_1, zx_30_4, zx_30_5, zx_48_0, zx_50_0, zx_52_0, zx_52_1, zx_52_2, zx_56_0, zx_56_1, zx_56_2, zx_57_0, zx_59_0, zx_80_3, zx_80_4, zx_80_5, zx_81_0, zx_81_1, zx_81_2, zx_81_3, zx_81_4, zx_81_5, zx_88_0, zx_88_1, zx_88_2, zx_93_3, zx_93_4, zx_93_5, zx_94_0, zx_94_1, zx_94_2, zx_94_3, zx_94_4, zx_94_5, zx_101_0, zx_101_1, zx_101_2, zx_106_0, zx_106_1, zx_106_2, zx_110_0, zx_110_1, zx_110_2, zx_114_0, zx_114_1, zx_114_2, zgI_9, zsI_9, zgI_16, zsI_16, zgI_18, zsI_18, zgI_21, zsI_21, zgI_22, zsI_22, zgI_23, zsI_23, zgI_24, zsI_24, zgI_25, zsI_25, zgI_26, zsI_26, zgI_27, zsI_27, zgI_28, zsI_28, zgI_29, zsI_29, zgI_47, zsI_47, zgI_49, zsI_49, zgI_51, zsI_51, zgI_53, zsI_53, zgI_54, zsI_54, zgI_55, zsI_55, zgI_58, zsI_58, zgI_76, zsI_76, zgI_79, zsI_79, zb_143_22, i1]
    exact ⟨σ1, rfl, ⟨hρ.k0 hK, i1, i2, fun j m hj hm => i3 j m hj (by omega)⟩, hK⟩
theorem c_madd {V : Nat → Nat → Int32} (hF : zFix σ) (hh : h ≤ 15) (hw : w ≤ 15) (hX : zMx σ ρ h w V) {i k : Nat} (hi : i < h) (hk : k < w) (v : Int32) : ∃ σ', zM 144 [.ref 59, .int (nI i), .int (nI k), .int v] zL σ = some (none, zL, σ') ∧ zMx σ' ρ h w (fun j m => if j = i ∧ m = k then V i k + v else V j m) ∧ zKeep zFx0 σ σ' := by
  obtain ⟨hρ, i1, i2, i3⟩ := hX
  have hp1 := hρ.1 i (by omega)
  have hq := hρ.2.1 i (by omega)
  have hg := zgR_60 (σ := σ) (i := i) (by omega)
  have e1 := zgI_mx (σ := σ) (k := k) hq (by omega)
  have e2 : ∀ v, zm_sI zL σ (61 + ρ i) (nI k) v = some (zm_wI σ (61 + ρ i) k v) := fun v => zsI_mx hq (by omega)
  have hv := i3 i k hi hk
  have hK : zKeep zFx0 σ (zm_wI σ (61 + ρ i) k (V i k + v)) := (zKeep.rf _ _).wI (by simp only [zFx0, Bool.or_eq_true, Bool.and_eq_true, decide_eq_true_eq, beq_iff_eq]; omega)
  refine ⟨_, zS_eq (zS_of ze_144 ?_), ⟨hρ.k0 hK, by rw [zw_cell _ _ (by omega)]; exact i1, by rw [zw_cell _ _ (by omega)]; exact i2, fun j m hj hm => ?_⟩, hK⟩
  · simp (disch := first | assumption | omega) only [zn0, zn1, Option.bind_some, zm_ai, zm_al, zm_av, zm_opt, zm_fw, zE_l, zE_r, nI_add, pk_mul, pk_sub, pk_div, pk_rem, zrem, zpm1, zB_i0, zB_i1, zB_ok, zB_T, zB_F, nI_toInt, zT_sub, zT_neg, zT_le, zT_lt, nI_eq, zne1, zne2, zne9, ite_not, or_true, true_or, if_true, if_false, if_pos, if_neg, zw_R, zw_RL, zw_I, zF_R, zw_same, zw_cell, zw_ne, zF_at, zF_ne, ↓zib_0, ↓zib_1, ↓zib_10, ↓zib_17, ↓zib_19, ↓zib_20, ↓zib_30, ↓zib_48, ↓zib_50, ↓zib_52, ↓zib_57, ↓zib_59, ↓zib_80, ↓zib_93, ↓zib_106, ↓zib_110, ↓zib_114, ↓zxb_0_0, ↓zxb_0_1, ↓zxb_0_2, ↓zxb_0_3, ↓zxb_0_4, ↓zxb_0_5, ↓zxb_0_6, ↓zxb_0_7, ↓zxb_0_8, ↓zxb_0_9, ↓zxb_0_10, ↓zxb_1_0, ↓zxb_1_1, ↓zxb_2_0, ↓zxb_2_1, ↓zxb_2_2, ↓zxb_2_3, ↓zxb_2_4, ↓zxb_2_5, ↓zxb_10_0, ↓zxb_10_1, ↓zxb_11_0, ↓zxb_11_1, ↓zxb_11_2, ↓zxb_11_3, ↓zxb_17_0, ↓zxb_19_0, ↓zxb_19_1, ↓zxb_19_2, ↓zxb_20_0, ↓zxb_20_1, ↓zxb_20_3, ↓zxb_20_4, ↓zxb_20_5, ↓zxb_20_6, ↓zxb_20_7, ↓zxb_20_8, ↓zxb_20_9, ↓zxb_30_0, ↓zxb_30_1, ↓zxb_30_4, ↓zxb_30_5, ↓zxb_48_0, ↓zxb_50_0, ↓zxb_52_0, ↓zxb_52_1, ↓zxb_52_2, ↓zxb_56_0, ↓zxb_56_1, ↓zxb_56_2, ↓zxb_57_0, ↓zxb_59_0, ↓zxb_80_3, ↓zxb_80_4, ↓zxb_80_5, ↓zxb_81_0, ↓zxb_81_1, ↓zxb_81_2, ↓zxb_81_3, ↓zxb_81_4, ↓zxb_81_5, ↓zxb_88_0, ↓zxb_88_1, ↓zxb_88_2, ↓zxb_93_3, ↓zxb_93_4, ↓zxb_93_5, ↓zxb_94_0, ↓zxb_94_1, ↓zxb_94_2, ↓zxb_94_3, ↓zxb_94_4, ↓zxb_94_5, ↓zxb_101_0, ↓zxb_101_1, ↓zxb_101_2, ↓zxb_106_0, ↓zxb_106_1, ↓zxb_106_2, ↓zxb_110_0, ↓zxb_110_1, ↓zxb_110_2, ↓zxb_114_0, ↓zxb_114_1, ↓zxb_114_2, ↓zgb_9, ↓zsb_9, ↓zgb_16, ↓zsb_16, ↓zgb_18, ↓zsb_18, ↓zgb_21, ↓zsb_21, ↓zgb_22, ↓zsb_22, ↓zgb_23, ↓zsb_23, ↓zgb_24, ↓zsb_24, ↓zgb_25, ↓zsb_25, ↓zgb_26, ↓zsb_26, ↓zgb_27, ↓zsb_27, ↓zgb_28, ↓zsb_28, ↓zgb_29, ↓zsb_29, ↓zgb_47, ↓zsb_47, ↓zgb_49, ↓zsb_49, ↓zgb_51, ↓zsb_51, ↓zgb_53, ↓zsb_53, ↓zgb_54, ↓zsb_54, ↓zgb_55, ↓zsb_55, ↓zgb_58, ↓zsb_58, ↓zgb_76, ↓zsb_76, ↓zgb_79, ↓zsb_79, zi_0, zi_1, zi_10, zi_17, zi_19, zi_20, zi_30, zi_48, zi_50, zi_52, zi_57, zi_59, zi_80, zi_93, zi_106, zi_110, zi_114, zx_0_0, zx_0_1, zx_0_2, zx_0_3, zx_0_4, zx_0_5, zx_0_6, zx_0_7, zx_0_8, zx_0_9, zx_0_10, zx_1_0, zx_1_1, zx_2_0, zx_2_1, zx_2_2, zx_2_3, zx_2_4, zx_2_5, zx_10_0, zx_10_1, zx_11_0, zx_11_1, zx_11_2, zx_11_3, zx_17_0, zx_19_0, zx_19_1, zx_19_2, zx_20_0, zx_20_1, zx_20_3, zx_20_4, zx_20_5, zx_20_6, zx_20_7, zx_20_8, zx_20_9, zx_30_0, zx_30_1, zx_30_4, zx_30_5, zx_48_0, zx_50_0, zx_52_0, zx_52_1, zx_52_2, zx_56_0, zx_56_1, zx_56_2, zx_57_0, zx_59_0, zx_80_3, zx_80_4, zx_80_5, zx_81_0, zx_81_1, zx_81_2, zx_81_3, zx_81_4, zx_81_5, zx_88_0, zx_88_1, zx_88_2, zx_93_3, zx_93_4, zx_93_5, zx_94_0, zx_94_1, zx_94_2, zx_94_3, zx_94_4, zx_94_5, zx_101_0, zx_101_1, zx_101_2, zx_106_0, zx_106_1, zx_106_2, zx_110_0, zx_110_1, zx_110_2, zx_114_0, zx_114_1, zx_114_2, zgI_9, zsI_9, zgI_16, zsI_16, zgI_18, zsI_18, zgI_21, zsI_21, zgI_22, zsI_22, zgI_23, zsI_23, zgI_24, zsI_24, zgI_25, zsI_25, zgI_26, zsI_26, zgI_27, zsI_27, zgI_28, zsI_28, zgI_29, zsI_29, zgI_47, zsI_47, zgI_49, zsI_49, zgI_51, zsI_51, zgI_53, zsI_53, zgI_54, zsI_54, zgI_55, zsI_55, zgI_58, zsI_58, zgI_76, zsI_76, zgI_79, zsI_79, zb_144_0, i1, i2, hg, hp1, e1, hv, e2]
  · dsimp only
    by_cases e : j = i
    · subst e
      rw [zwx]
      by_cases em : m = k
      · rw [if_pos em, if_pos ⟨rfl, em⟩]
      · rw [if_neg em, if_neg (fun z => em z.2)]
        exact i3 j m hj hm
    · rw [zw_cell _ _ (fun z => e (hρ.2.2 j i (by omega) (by omega) (by omega))), if_neg (fun z => e z.1)]
      exact i3 j m hj hm
theorem c_floorMod (hp2 : 2 ≤ p) (hp8 : p < 8) (x : Int32) : zM 146 [.int x, .int (nI p)] zL σ = some (some (.int (zfmE x (nI p))), zL, σ) := by
  have hne : ¬ nI p = 0 := nI_ne0 (by omega) (by omega)
  refine zS_eq (zS_of ze_146 ?_)
  unfold zb_146_0 zfmE
  rw [if_neg hne]
  split
  · rfl
  · split
    · rfl
    · rfl
/-- the rows are brought to numbers below p, row by row -/
theorem c_norm {V : Nat → Nat → Int32} (hF : zFix σ) (hh : h ≤ 15) (hw : w ≤ 15) (hp2 : 2 ≤ p) (hp8 : p < 8) (hX : zMx σ ρ h w V) (hV : ∀ i m, i < h → m < w → -40 ≤ (V i m).toInt ∧ (V i m).toInt ≤ 40) (Q : zm_Out → Prop)
    (hQ : ∀ σ', zMx σ' ρ h w (fun i m => nI (zfv p (V i m))) → zKeep zFx0 σ σ' → zW 145 (63, [(0, .ref 59), (1, .int (nI p)), (2, .int (nI 0)), (3, .int (nI 0))], [], zL, σ', 0, 0) Q) :
    zW 145 (9, [(0, .ref 59), (1, .int (nI p)), (2, .int (nI 0))], [], zL, σ, 0, 0) Q := by
  refine zloop (fun i σ1 => (9, [(0, .ref 59), (1, .int (nI p)), (2, .int (nI i))], [], zL, σ1, 0, 0)) (fun i σ1 => zMx σ1 ρ h w (fun j m => if j < i then nI (zfv p (V j m)) else V j m) ∧ zKeep zFx0 σ σ1) h (fun i σ1 hi hI ih => ?_) (fun σ1 hI => ?_) 0 σ (by omega) ⟨⟨hX.1, hX.2.1, hX.2.2.1, fun j m hj hm => by dsimp only; rw [if_neg (by omega)]; exact hX.2.2.2 j m hj hm⟩, zKeep.rf _ _⟩
  · obtain ⟨⟨x1, x2, x3, x4⟩, hK⟩ := hI
    have hF1 := hK.fix hF rfl
    refine zW_of zg_145_9 ?_
    simp (disch := first | assumption | omega) only [zn0, zn1, Option.bind_some, zm_ai, zm_al, zm_av, zm_opt, zm_fw, zE_l, zE_r, nI_add, pk_mul, pk_sub, pk_div, pk_rem, zrem, zpm1, zB_i0, zB_i1, zB_ok, zB_T, zB_F, nI_toInt, zT_sub, zT_neg, zT_le, zT_lt, nI_eq, zne1, zne2, zne9, ite_not, or_true, true_or, if_true, if_false, if_pos, if_neg, zw_R, zw_RL, zw_I, zF_R, zw_same, zw_cell, zw_ne, zF_at, zF_ne, ↓zib_0, ↓zib_1, ↓zib_10, ↓zib_17, ↓zib_19, ↓zib_20, ↓zib_30, ↓zib_48, ↓zib_50, ↓zib_52, ↓zib_57, ↓zib_59, ↓zib_80, ↓zib_93, ↓zib_106, ↓zib_110, ↓zib_114, ↓zxb_0_0, ↓zxb_0_1, ↓zxb_0_2, ↓zxb_0_3, ↓zxb_0_4, ↓zxb_0_5, ↓zxb_0_6, ↓zxb_0_7, ↓zxb_0_8, ↓zxb_0_9, ↓zxb_0_10, ↓zxb_1_0, ↓zxb_1_1, ↓zxb_2_0, ↓zxb_2_1, ↓zxb_2_2, ↓zxb_2_3, ↓zxb_2_4, ↓zxb_2_5, ↓zxb_10_0, ↓zxb_10_1, ↓zxb_11_0, ↓zxb_11_1, ↓zxb_11_2, ↓zxb_11_3, ↓zxb_17_0, ↓zxb_19_0, ↓zxb_19_1, ↓zxb_19_2, ↓zxb_20_0, ↓zxb_20_1, ↓zxb_20_3, ↓zxb_20_4, ↓zxb_20_5, ↓zxb_20_6, ↓zxb_20_7, ↓zxb_20_8, ↓zxb_20_9, ↓zxb_30_0, ↓zxb_30_1, ↓zxb_30_4, ↓zxb_30_5, ↓zxb_48_0, ↓zxb_50_0, ↓zxb_52_0, ↓zxb_52_1, ↓zxb_52_2, ↓zxb_56_0, ↓zxb_56_1, ↓zxb_56_2, ↓zxb_57_0, ↓zxb_59_0, ↓zxb_80_3, ↓zxb_80_4, ↓zxb_80_5, ↓zxb_81_0, ↓zxb_81_1, ↓zxb_81_2, ↓zxb_81_3, ↓zxb_81_4, ↓zxb_81_5, ↓zxb_88_0, ↓zxb_88_1, ↓zxb_88_2, ↓zxb_93_3, ↓zxb_93_4, ↓zxb_93_5, ↓zxb_94_0, ↓zxb_94_1, ↓zxb_94_2, ↓zxb_94_3, ↓zxb_94_4, ↓zxb_94_5, ↓zxb_101_0, ↓zxb_101_1, ↓zxb_101_2, ↓zxb_106_0, ↓zxb_106_1, ↓zxb_106_2, ↓zxb_110_0, ↓zxb_110_1, ↓zxb_110_2, ↓zxb_114_0, ↓zxb_114_1, ↓zxb_114_2, ↓zgb_9, ↓zsb_9, ↓zgb_16, ↓zsb_16, ↓zgb_18, ↓zsb_18, ↓zgb_21, ↓zsb_21, ↓zgb_22, ↓zsb_22, ↓zgb_23, ↓zsb_23, ↓zgb_24, ↓zsb_24, ↓zgb_25, ↓zsb_25, ↓zgb_26, ↓zsb_26, ↓zgb_27, ↓zsb_27, ↓zgb_28, ↓zsb_28, ↓zgb_29, ↓zsb_29, ↓zgb_47, ↓zsb_47, ↓zgb_49, ↓zsb_49, ↓zgb_51, ↓zsb_51, ↓zgb_53, ↓zsb_53, ↓zgb_54, ↓zsb_54, ↓zgb_55, ↓zsb_55, ↓zgb_58, ↓zsb_58, ↓zgb_76, ↓zsb_76, ↓zgb_79, ↓zsb_79, zi_0, zi_1, zi_10, zi_17, zi_19, zi_20, zi_30, zi_48, zi_50, zi_52, zi_57, zi_59, zi_80, zi_93, zi_106, zi_110, zi_114, zx_0_0, zx_0_1, zx_0_2, zx_0_3, zx_0_4, zx_0_5, zx_0_6, zx_0_7, zx_0_8, zx_0_9, zx_0_10, zx_1_0, zx_1_1, zx_2_0, zx_2_1, zx_2_2, zx_2_3, zx_2_4, zx_2_5, zx_10_0, zx_10_1, zx_11_0, zx_11_1, zx_11_2, zx_11_3, zx_17_0, zx_19_0, zx_19_1, zx_19_2, zx_20_0, zx_20_1, zx_20_3, zx_20_4, zx_20_5, zx_20_6, zx_20_7, zx_20_8, zx_20_9, zx_30_0, zx_30_1, zx_30_4, zx_30_5, zx_48_0, zx_50_0, zx_52_0, zx_52_1, zx_52_2, zx_56_0, zx_56_1, zx_56_2, zx_57_0, zx_59_0, zx_80_3, zx_80_4, zx_80_5, zx_81_0, zx_81_1, zx_81_2, zx_81_3, zx_81_4, zx_81_5, zx_88_0, zx_88_1, zx_88_2, zx_93_3, zx_93_4, zx_93_5, zx_94_0, zx_94_1, zx_94_2, zx_94_3, zx_94_4, zx_94_5, zx_101_0, zx_101_1, zx_101_2, zx_106_0, zx_106_1, zx_106_2, zx_110_0, zx_110_1, zx_110_2, zx_114_0, zx_114_1, zx_114_2, zgI_9, zsI_9, zgI_16, zsI_16, zgI_18, zsI_18, zgI_21, zsI_21, zgI_22, zsI_22, zgI_23, zsI_23, zgI_24, zsI_24, zgI_25, zsI_25, zgI_26, zsI_26, zgI_27, zsI_27, zgI_28, zsI_28, zgI_29, zsI_29, zgI_47, zsI_47, zgI_49, zsI_49, zgI_51, zsI_51, zgI_53, zsI_53, zgI_54, zsI_54, zgI_55, zsI_55, zgI_58, zsI_58, zgI_76, zsI_76, zgI_79, zsI_79, zb_145_9, x2]
    refine zloop (fun k σ2 => (19, [(0, .ref 59), (1, .int (nI p)), (2, .int (nI i)), (3, .int (nI k))], [], zL, σ2, 0, 0)) (fun k σ2 => zMx σ2 ρ h w (fun j m => if j < i ∨ (j = i ∧ m < k) then nI (zfv p (V j m)) else V j m) ∧ zKeep zFx0 σ σ2) w (fun k σ2 hk hI2 ih2 => ?_) (fun σ2 hI2 => ?_) 0 σ1 (by omega) ⟨⟨x1, x2, x3, fun j m hj hm => by
      rw [x4 j m hj hm]
      dsimp only
      by_cases z : j < i
      · rw [if_pos z, if_pos (Or.inl z)]
      · rw [if_neg z, if_neg (by omega)]⟩, hK⟩
    · obtain ⟨⟨y1, y2, y3, y4⟩, hK2⟩ := hI2
      have hF2 := hK2.fix hF rfl
      have hp1 := y1.1 i (by omega)
      have hq := y1.2.1 i (by omega)
      have hg := zgR_60 (σ := σ2) (i := i) (by omega)
      have e1 := zgI_mx (σ := σ2) (k := k) hq (by omega)
      have hv := y4 i k hi hk
      dsimp only at hv
      rw [if_neg (by omega)] at hv
      have hb := hV i k hi hk
      have e2 := c_floorMod (σ := σ2) hp2 hp8 (V i k)
      rw [(zfv_ok hp2 hp8 hb.1 hb.2).1] at e2
      have e3 : ∀ v, zm_sI zL σ2 (61 + ρ i) (nI k) v = some (zm_wI σ2 (61 + ρ i) k v) := fun v => zsI_mx hq (by omega)
      have hK3 : zKeep zFx0 σ2 (zm_wI σ2 (61 + ρ i) k (nI (zfv p (V i k)))) := (zKeep.rf _ _).wI (by simp only [zFx0, Bool.or_eq_true, Bool.and_eq_true, decide_eq_true_eq, beq_iff_eq]; omega)
      refine zW_of zg_145_19 ?_
      simp (disch := first | assumption | omega) only [zn0, zn1, Option.bind_some, zm_ai, zm_al, zm_av, zm_opt, zm_fw, zE_l, zE_r, nI_add, pk_mul, pk_sub, pk_div, pk_rem, zrem, zpm1, zB_i0, zB_i1, zB_ok, zB_T, zB_F, nI_toInt, zT_sub, zT_neg, zT_le, zT_lt, nI_eq, zne1, zne2, zne9, ite_not, or_true, true_or, if_true, if_false, if_pos, if_neg, zw_R, zw_RL, zw_I, zF_R, zw_same, zw_cell, zw_ne, zF_at, zF_ne, ↓zib_0, ↓zib_1, ↓zib_10, ↓zib_17, ↓zib_19, ↓zib_20, ↓zib_30, ↓zib_48, ↓zib_50, ↓zib_52, ↓zib_57, ↓zib_59, ↓zib_80, ↓zib_93, ↓zib_106, ↓zib_110, ↓zib_114, ↓zxb_0_0, ↓zxb_0_1, ↓zxb_0_2, ↓zxb_0_3, ↓zxb_0_4, ↓zxb_0_5, ↓zxb_0_6, ↓zxb_0_7, ↓zxb_0_8, ↓zxb_0_9, ↓zxb_0_10, ↓zxb_1_0, ↓zxb_1_1, ↓zxb_2_0, ↓zxb_2_1, ↓zxb_2_2, ↓zxb_2_3, ↓zxb_2_4, ↓zxb_2_5, ↓zxb_10_0, ↓zxb_10_1, ↓zxb_11_0, ↓zxb_11_1, ↓zxb_11_2, ↓zxb_11_3, ↓zxb_17_0, ↓zxb_19_0, ↓zxb_19_1, ↓zxb_19_2, ↓zxb_20_0, ↓zxb_20_1, ↓zxb_20_3, ↓zxb_20_4, ↓zxb_20_5, ↓zxb_20_6, ↓zxb_20_7, ↓zxb_20_8, ↓zxb_20_9, ↓zxb_30_0, ↓zxb_30_1, ↓zxb_30_4, ↓zxb_30_5, ↓zxb_48_0, ↓zxb_50_0, ↓zxb_52_0, ↓zxb_52_1, ↓zxb_52_2, ↓zxb_56_0, ↓zxb_56_1, ↓zxb_56_2, ↓zxb_57_0, ↓zxb_59_0, ↓zxb_80_3, ↓zxb_80_4, ↓zxb_80_5, ↓zxb_81_0, ↓zxb_81_1, ↓zxb_81_2, ↓zxb_81_3, ↓zxb_81_4, ↓zxb_81_5, ↓zxb_88_0, ↓zxb_88_1, ↓zxb_88_2, ↓zxb_93_3, ↓zxb_93_4, ↓zxb_93_5, ↓zxb_94_0, ↓zxb_94_1, ↓zxb_94_2, ↓zxb_94_3, ↓zxb_94_4, ↓zxb_94_5, ↓zxb_101_0, ↓zxb_101_1, ↓zxb_101_2, ↓zxb_106_0, ↓zxb_106_1, ↓zxb_106_2, ↓zxb_110_0, ↓zxb_110_1, ↓zxb_110_2, ↓zxb_114_0, ↓zxb_114_1, ↓zxb_114_2, ↓zgb_9, ↓zsb_9, ↓zgb_16, ↓zsb_16, ↓zgb_18, ↓zsb_18, ↓zgb_21, ↓zsb_21, ↓zgb_22, ↓zsb_22, ↓zgb_23, ↓zsb_23, ↓zgb_24, ↓zsb_24, ↓zgb_25, ↓zsb_25, ↓zgb_26, ↓zsb_26, ↓zgb_27, ↓zsb_27, ↓zgb_28, ↓zsb_28, ↓zgb_29, ↓zsb_29, ↓zgb_47, ↓zsb_47, ↓zgb_49, ↓zsb_49, ↓zgb_51, ↓zsb_51, ↓zgb_53, ↓zsb_53, ↓zgb_54, ↓zsb_54, ↓zgb_55, ↓zsb_55, ↓zgb_58, ↓zsb_58, ↓zgb_76, ↓zsb_76, ↓zgb_79, ↓zsb_79, zi_0, zi_1, zi_10, zi_17, zi_19, zi_20, zi_30, zi_48, zi_50, zi_52, zi_57, zi_59, zi_80, zi_93, zi_106, zi_110, zi_114, zx_0_0, zx_0_1, zx_0_2, zx_0_3, zx_0_4, zx_0_5, zx_0_6, zx_0_7, zx_0_8, zx_0_9, zx_0_10, zx_1_0, zx_1_1, zx_2_0, zx_2_1, zx_2_2, zx_2_3, zx_2_4, zx_2_5, zx_10_0, zx_10_1, zx_11_0, zx_11_1, zx_11_2, zx_11_3, zx_17_0, zx_19_0, zx_19_1, zx_19_2, zx_20_0, zx_20_1, zx_20_3, zx_20_4, zx_20_5, zx_20_6, zx_20_7, zx_20_8, zx_20_9, zx_30_0, zx_30_1, zx_30_4, zx_30_5, zx_48_0, zx_50_0, zx_52_0, zx_52_1, zx_52_2, zx_56_0, zx_56_1, zx_56_2, zx_57_0, zx_59_0, zx_80_3, zx_80_4, zx_80_5, zx_81_0, zx_81_1, zx_81_2, zx_81_3, zx_81_4, zx_81_5, zx_88_0, zx_88_1, zx_88_2, zx_93_3, zx_93_4, zx_93_5, zx_94_0, zx_94_1, zx_94_2, zx_94_3, zx_94_4, zx_94_5, zx_101_0, zx_101_1, zx_101_2, zx_106_0, zx_106_1, zx_106_2, zx_110_0, zx_110_1, zx_110_2, zx_114_0, zx_114_1, zx_114_2, zgI_9, zsI_9, zgI_16, zsI_16, zgI_18, zsI_18, zgI_21, zsI_21, zgI_22, zsI_22, zgI_23, zsI_23, zgI_24, zsI_24, zgI_25, zsI_25, zgI_26, zsI_26, zgI_27, zsI_27, zgI_28, zsI_28, zgI_29, zsI_29, zgI_47, zsI_47, zgI_49, zsI_49, zgI_51, zsI_51, zgI_53, zsI_53, zgI_54, zsI_54, zgI_55, zsI_55, zgI_58, zsI_58, zgI_76, zsI_76, zgI_79, zsI_79, zb_145_19, y3, hg, hp1, e1, hv, e2, e3]
      refine ih2 _ ⟨⟨y1.k0 hK3, by rw [zw_cell _ _ (by omega)]; exact y2, by rw [zw_cell _ _ (by omega)]; exact y3, fun j m hj hm => ?_⟩, hK2.tr hK3⟩
      by_cases e : j = i
      · subst e
        rw [zwx]
        by_cases em : m = k
        · rw [if_pos em]
          dsimp only
          rw [if_pos (by omega), em]
        · rw [if_neg em, y4 j m hj hm]
          dsimp only
          by_cases z : m < k
          · rw [if_pos (by omega), if_pos (by omega)]
          · rw [if_neg (by omega), if_neg (by omega)]
      · rw [zw_cell _ _ (fun z => e (y1.2.2 j i (by omega) (by omega) (by omega))), y4 j m hj hm]
        dsimp only
        by_cases z : j < i
        · rw [if_pos (by omega), if_pos (by omega)]
        · rw [if_neg (by omega), if_neg (by omega)]
    · obtain ⟨⟨y1, y2, y3, y4⟩, hK2⟩ := hI2
      have hF2 := hK2.fix hF rfl
      refine zW_of zg_145_19 ?_
      simp (disch := first | assumption | omega) only [zn0, zn1, Option.bind_some, zm_ai, zm_al, zm_av, zm_opt, zm_fw, zE_l, zE_r, nI_add, pk_mul, pk_sub, pk_div, pk_rem, zrem, zpm1, zB_i0, zB_i1, zB_ok, zB_T, zB_F, nI_toInt, zT_sub, zT_neg, zT_le, zT_lt, nI_eq, zne1, zne2, zne9, ite_not, or_true, true_or, if_true, if_false, if_pos, if_neg, zw_R, zw_RL, zw_I, zF_R, zw_same, zw_cell, zw_ne, zF_at, zF_ne, ↓zib_0, ↓zib_1, ↓zib_10, ↓zib_17, ↓zib_19, ↓zib_20, ↓zib_30, ↓zib_48, ↓zib_50, ↓zib_52, ↓zib_57, ↓zib_59, ↓zib_80, ↓zib_93, ↓zib_106, ↓zib_110, ↓zib_114, ↓zxb_0_0, ↓zxb_0_1, ↓zxb_0_2, ↓zxb_0_3, ↓zxb_0_4, ↓zxb_0_5, ↓zxb_0_6, ↓zxb_0_7, ↓zxb_0_8, ↓zxb_0_9, ↓zxb_0_10, ↓zxb_1_0, ↓zxb_1_1, ↓zxb_2_0, ↓zxb_2_1, ↓zxb_2_2, ↓zxb_2_3, ↓zxb_2_4, ↓zxb_2_5, ↓zxb_10_0, ↓zxb_10_1, ↓zxb_11_0, ↓zxb_11_1, ↓zxb_11_2, ↓zxb_11_3, ↓zxb_17_0, ↓zxb_19_0, ↓zxb_19_1, ↓zxb_19_2, ↓zxb_20_0, ↓zxb_20_1, ↓zxb_20_3, ↓zxb_20_4, ↓zxb_20_5, ↓zxb_20_6, ↓zxb_20_7, ↓zxb_20_8, ↓zxb_20_9, ↓zxb_30_0, ↓zxb_30_1, ↓zxb_30_4, ↓zxb_30_5, ↓zxb_48_0, ↓zxb_50_0, ↓zxb_52_0, ↓zxb_52_1, ↓zxb_52_2, ↓zxb_56_0, ↓zxb_56_1, ↓zxb_56_2, ↓zxb_57_0, ↓zxb_59_0, ↓zxb_80_3, ↓zxb_80_4, ↓zxb_80_5, ↓zxb_81_0, ↓zxb_81_1, ↓zxb_81_2, ↓zxb_81_3, ↓zxb_81_4, ↓zxb_81_5, ↓zxb_88_0, ↓zxb_88_1, ↓zxb_88_2, ↓zxb_93_3, ↓zxb_93_4, ↓zxb_93_5, ↓zxb_94_0, ↓zxb_94_1, ↓zxb_94_2, ↓zxb_94_3, ↓zxb_94_4, ↓zxb_94_5, ↓zxb_101_0, ↓zxb_101_1, ↓zxb_101_2, ↓zxb_106_0, ↓zxb_106_1, ↓zxb_106_2, ↓zxb_110_0, ↓zxb_110_1, ↓zxb_110_2, ↓zxb_114_0, ↓zxb_114_1, ↓zxb_114_2, ↓zgb_9, ↓zsb_9, ↓zgb_16, ↓zsb_16, ↓zgb_18, ↓zsb_18, ↓zgb_21, ↓zsb_21, ↓zgb_22, ↓zsb_22, ↓zgb_23, ↓zsb_23, ↓zgb_24, ↓zsb_24, ↓zgb_25, ↓zsb_25, ↓zgb_26, ↓zsb_26, ↓zgb_27, ↓zsb_27, ↓zgb_28, ↓zsb_28, ↓zgb_29, ↓zsb_29, ↓zgb_47, ↓zsb_47, ↓zgb_49, ↓zsb_49, ↓zgb_51, ↓zsb_51, ↓zgb_53, ↓zsb_53, ↓zgb_54, ↓zsb_54, ↓zgb_55, ↓zsb_55, ↓zgb_58, ↓zsb_58, ↓zgb_76, ↓zsb_76, ↓zgb_79, ↓zsb_79, zi_0, zi_1, zi_10, zi_17, zi_19, zi_20, zi_30, zi_48, zi_50, zi_52, zi_57, zi_59, zi_80, zi_93, zi_106, zi_110, zi_114, zx_0_0, zx_0_1, zx_0_2, zx_0_3, zx_0_4, zx_0_5, zx_0_6, zx_0_7, zx_0_8, zx_0_9, zx_0_10, zx_1_0, zx_1_1, zx_2_0, zx_2_1, zx_2_2, zx_2_3, zx_2_4, zx_2_5, zx_10_0, zx_10_1, zx_11_0, zx_11_1, zx_11_2, zx_11_3, zx_17_0, zx_19_0, zx_19_1, zx_19_2, zx_20_0, zx_20_1, zx_20_3, zx_20_4, zx_20_5, zx_20_6, zx_20_7, zx_20_8, zx_20_9, zx_30_0, zx_30_1, zx_30_4, zx_30_5, zx_48_0, zx_50_0, zx_52_0, zx_52_1, zx_52_2, zx_56_0, zx_56_1, zx_56_2, zx_57_0, zx_59_0, zx_80_3, zx_80_4, zx_80_5, zx_81_0, zx_81_1, zx_81_2, zx_81_3, zx_81_4, zx_81_5, zx_88_0, zx_88_1, zx_88_2, zx_93_3, zx_93_4, zx_93_5, zx_94_0, zx_94_1, zx_94_2, zx_94_3, zx_94_4, zx_94_5, zx_101_0, zx_101_1, zx_101_2, zx_106_0, zx_106_1, zx_106_2, zx_110_0, zx_110_1, zx_110_2, zx_114_0, zx_114_1, zx_114_2, zgI_9, zsI_9, zgI_16, zsI_16, zgI_18, zsI_18, zgI_21, zsI_21, zgI_22, zsI_22, zgI_23, zsI_23, zgI_24, zsI_24, zgI_25, zsI_25, zgI_26, zsI_26, zgI_27, zsI_27, zgI_28, zsI_28, zgI_29, zsI_29, zgI_47, zsI_47, zgI_49, zsI_49, zgI_51, zsI_51, zgI_53, zsI_53, zgI_54, zsI_54, zgI_55, zsI_55, zgI_58, zsI_58, zgI_76, zsI_76, zgI_79, zsI_79, zb_145_19, y3]
      refine ih σ2 ⟨⟨y1, y2, y3, fun j m hj hm => ?_⟩, hK2⟩
      rw [y4 j m hj hm]
      dsimp only
      by_cases z : j < i + 1
      · rw [if_pos z, if_pos (by omega)]
      · rw [if_neg z, if_neg (by omega)]
  · obtain ⟨⟨x1, x2, x3, x4⟩, hK⟩ := hI
    have hF1 := hK.fix hF rfl
    refine zW_of zg_145_9 ?_
    simp (disch := first | assumption | omega) only [zn0, zn1, Option.bind_some, zm_ai, zm_al, zm_av, zm_opt, zm_fw, zE_l, zE_r, nI_add, pk_mul, pk_sub, pk_div, pk_rem, zrem, zpm1, zB_i0, zB_i1, zB_ok, zB_T, zB_F, nI_toInt, zT_sub, zT_neg, zT_le, zT_lt, nI_eq, zne1, zne2, zne9, ite_not, or_true, true_or, if_true, if_false, if_pos, if_neg, zw_R, zw_RL, zw_I, zF_R, zw_same, zw_cell, zw_ne, zF_at, zF_ne, ↓zib_0, ↓zib_1, ↓zib_10, ↓zib_17, ↓zib_19, ↓zib_20, ↓zib_30, ↓zib_48, ↓zib_50, ↓zib_52, ↓zib_57, ↓zib_59, ↓zib_80, ↓zib_93, ↓zib_106, ↓zib_110, ↓zib_114, ↓zxb_0_0, ↓zxb_0_1, ↓zxb_0_2, ↓zxb_0_3, ↓zxb_0_4, ↓zxb_0_5, ↓zxb_0_6, ↓zxb_0_7, ↓zxb_0_8, ↓zxb_0_9, ↓zxb_0_10, ↓zxb_1_0, ↓zxb_1_1, ↓zxb_2_0, ↓zxb_2_1, ↓zxb_2_2, ↓zxb_2_3, ↓zxb_2_4, ↓zxb_2_5, ↓zxb_10_0, ↓zxb_10_1, ↓zxb_11_0, ↓zxb_11_1, ↓zxb_11_2, ↓zxb_11_3, ↓zxb_17_0, ↓zxb_19_0, ↓zxb_19_1, ↓zxb_19_2, ↓zxb_20_0, ↓zxb_20_1, ↓zxb_20_3, ↓zxb_20_4, ↓zxb_20_5, ↓zxb_20_6, ↓zxb_20_7, ↓zxb_20_8, ↓zxb_20_9, ↓zxb_30_0, ↓zxb_30_1, ↓zxb_30_4, ↓zxb_30_5, ↓zxb_48_0, ↓zxb_50_0, ↓zxb_52_0, ↓zxb_52_1, ↓zxb_52_2, ↓zxb_56_0, ↓zxb_56_1, ↓zxb_56_2, ↓zxb_57_0, ↓zxb_59_0, ↓zxb_80_3, ↓zxb_80_4, ↓zxb_80_5, ↓zxb_81_0, ↓zxb_81_1, ↓zxb_81_2, ↓zxb_81_3, ↓zxb_81_4, ↓zxb_81_5, ↓zxb_88_0, ↓zxb_88_1, ↓zxb_88_2, ↓zxb_93_3, ↓zxb_93_4, ↓zxb_93_5, ↓zxb_94_0, ↓zxb_94_1, ↓zxb_94_2, ↓zxb_94_3, ↓zxb_94_4, ↓zxb_94_5, ↓zxb_101_0, ↓zxb_101_1, ↓zxb_101_2, ↓zxb_106_0, ↓zxb_106_1, ↓zxb_106_2, ↓zxb_110_0, ↓zxb_110_1, ↓zxb_110_2, ↓zxb_114_0, ↓zxb_114_1, ↓zxb_114_2, ↓zgb_9, ↓zsb_9, ↓zgb_16, ↓zsb_16, ↓zgb_18, ↓zsb_18, ↓zgb_21, ↓zsb_21, ↓zgb_22, ↓zsb_22, ↓zgb_23, ↓zsb_23, ↓zgb_24, ↓zsb_24, ↓zgb_25, ↓zsb_25, ↓zgb_26, ↓zsb_26, ↓zgb_27, ↓zsb_27, ↓zgb_28, ↓zsb_28, ↓zgb_29, ↓zsb_29, ↓zgb_47, ↓zsb_47, ↓zgb_49, ↓zsb_49, ↓zgb_51, ↓zsb_51, ↓zgb_53, ↓zsb_53, ↓zgb_54, ↓zsb_54, ↓zgb_55, ↓zsb_55, ↓zgb_58, ↓zsb_58, ↓zgb_76, ↓zsb_76, ↓zgb_79, ↓zsb_79, zi_0, zi_1, zi_10, zi_17, zi_19, zi_20, zi_30, zi_48, zi_50, zi_52, zi_57, zi_59, zi_80, zi_93, zi_106, zi_110, zi_114, zx_0_0, zx_0_1, zx_0_2, zx_0_3, zx_0_4, zx_0_5, zx_0_6, zx_0_7, zx_0_8, zx_0_9, zx_0_10, zx_1_0, zx_1_1, zx_2_0, zx_2_1, zx_2_2, zx_2_3, zx_2_4, zx_2_5, zx_10_0, zx_10_1, zx_11_0, zx_11_1, zx_11_2, zx_11_3, zx_17_0, zx_19_0, zx_19_1, zx_19_2, zx_20_0, zx_20_1, zx_20_3, zx_20_4, zx_20_5, zx_20_6, zx_20_7, zx_20_8, zx_20_9, zx_30_0, zx_30_1, zx_30_4, zx_30_5, zx_48_0, zx_50_0, zx_52_0, zx_52_1, zx_52_2, zx_56_0, zx_56_1, zx_56_2, zx_57_0, zx_59_0, zx_80_3, zx_80_4, zx_80_5, zx_81_0, zx_81_1, zx_81_2, zx_81_3, zx_81_4, zx_81_5, zx_88_0, zx_88_1, zx_88_2, zx_93_3, zx_93_4, zx_93_5, zx_94_0, zx_94_1, zx_94_2, zx_94_3, zx_94_4, zx_94_5, zx_101_0, zx_101_1, zx_101_2, zx_106_0, zx_106_1, zx_106_2, zx_110_0, zx_110_1, zx_110_2, zx_114_0, zx_114_1, zx_114_2, zgI_9, zsI_9, zgI_16, zsI_16, zgI_18, zsI_18, zgI_21, zsI_21, zgI_22, zsI_22, zgI_23, zsI_23, zgI_24, zsI_24, zgI_25, zsI_25, zgI_26, zsI_26, zgI_27, zsI_27, zgI_28, zsI_28, zgI_29, zsI_29, zgI_47, zsI_47, zgI_49, zsI_49, zgI_51, zsI_51, zgI_53, zsI_53, zgI_54, zsI_54, zgI_55, zsI_55, zgI_58, zsI_58, zgI_76, zsI_76, zgI_79, zsI_79, zb_145_9, x2]
    refine hQ σ1 ⟨x1, x2, x3, fun j m hj hm => ?_⟩ hK
    exact (x4 j m hj hm).trans (if_pos hj)
def zMn (M : Nat → Nat → Nat) : Nat → Nat → Int32 := fun i m => nI (M i m)
theorem c_bringUp (hF : zFix σ) (hh : h ≤ 15) (hw : w ≤ 15) (hp8 : p < 8) (hX : zMx σ ρ h w (zMn M)) (hM : zLm p h w M) {r k : Nat} (hr : r < h) (hk : k < w) : ∃ σ', zM 147 [.ref 59, .int (nI r), .int (nI k)] zL σ = some (some (.int (match zpv M h k r with | none => nI 0 | some _ => nI 1)), zL, σ') ∧ (∃ ρ', zMx σ' ρ' h w (zMn (match zpv M h k r with | none => M | some i => zsw M i r))) ∧ zKeep zFxm σ σ' := by
  obtain ⟨x1, x2, x3, x4⟩ := id hX
  have skip : ∀ (Q : zm_Out → Prop) (i : Nat), r ≤ i → i < h → M i k = 0 → zW 147 (2, [(0, .ref 59), (1, .int (nI r)), (2, .int (nI k)), (3, .int (nI (i + 1)))], [], zL, σ, 0, 0) Q → zW 147 (2, [(0, .ref 59), (1, .int (nI r)), (2, .int (nI k)), (3, .int (nI i))], [], zL, σ, 0, 0) Q := by
    intro Q i hri hi h0 ih
    have hp1 := x1.1 i (by omega)
    have hq := x1.2.1 i (by omega)
    have hg := zgR_60 (σ := σ) (i := i) (by omega)
    have e1 := zgI_mx (σ := σ) (k := k) hq (by omega)
    have hv : σ.1 (61 + ρ i) k = nI 0 := by rw [x4 i k hi hk]; show nI (M i k) = _; rw [h0]
    refine zW_of zg_147_2 ?_
    simp (disch := first | assumption | omega) only [zn0, zn1, Option.bind_some, zm_ai, zm_al, zm_av, zm_opt, zm_fw, zE_l, zE_r, nI_add, pk_mul, pk_sub, pk_div, pk_rem, zrem, zpm1, zB_i0, zB_i1, zB_ok, zB_T, zB_F, nI_toInt, zT_sub, zT_neg, zT_le, zT_lt, nI_eq, zne1, zne2, zne9, ite_not, or_true, true_or, if_true, if_false, if_pos, if_neg, zw_R, zw_RL, zw_I, zF_R, zw_same, zw_cell, zw_ne, zF_at, zF_ne, ↓zib_0, ↓zib_1, ↓zib_10, ↓zib_17, ↓zib_19, ↓zib_20, ↓zib_30, ↓zib_48, ↓zib_50, ↓zib_52, ↓zib_57, ↓zib_59, ↓zib_80, ↓zib_93, ↓zib_106, ↓zib_110, ↓zib_114, ↓zxb_0_0, ↓zxb_0_1, ↓zxb_0_2, ↓zxb_0_3, ↓zxb_0_4, ↓zxb_0_5, ↓zxb_0_6, ↓zxb_0_7, ↓zxb_0_8, ↓zxb_0_9, ↓zxb_0_10, ↓zxb_1_0, ↓zxb_1_1, ↓zxb_2_0, ↓zxb_2_1, ↓zxb_2_2, ↓zxb_2_3, ↓zxb_2_4, ↓zxb_2_5, ↓zxb_10_0, ↓zxb_10_1, ↓zxb_11_0, ↓zxb_11_1, ↓zxb_11_2, ↓zxb_11_3, ↓zxb_17_0, ↓zxb_19_0, ↓zxb_19_1, ↓zxb_19_2, ↓zxb_20_0, ↓zxb_20_1, ↓zxb_20_3, ↓zxb_20_4, ↓zxb_20_5, ↓zxb_20_6, ↓zxb_20_7, ↓zxb_20_8, ↓zxb_20_9, ↓zxb_30_0, ↓zxb_30_1, ↓zxb_30_4, ↓zxb_30_5, ↓zxb_48_0, ↓zxb_50_0, ↓zxb_52_0, ↓zxb_52_1, ↓zxb_52_2, ↓zxb_56_0, ↓zxb_56_1, ↓zxb_56_2, ↓zxb_57_0, ↓zxb_59_0, ↓zxb_80_3, ↓zxb_80_4, ↓zxb_80_5, ↓zxb_81_0, ↓zxb_81_1, ↓zxb_81_2, ↓zxb_81_3, ↓zxb_81_4, ↓zxb_81_5, ↓zxb_88_0, ↓zxb_88_1, ↓zxb_88_2, ↓zxb_93_3, ↓zxb_93_4, ↓zxb_93_5, ↓zxb_94_0, ↓zxb_94_1, ↓zxb_94_2, ↓zxb_94_3, ↓zxb_94_4, ↓zxb_94_5, ↓zxb_101_0, ↓zxb_101_1, ↓zxb_101_2, ↓zxb_106_0, ↓zxb_106_1, ↓zxb_106_2, ↓zxb_110_0, ↓zxb_110_1, ↓zxb_110_2, ↓zxb_114_0, ↓zxb_114_1, ↓zxb_114_2, ↓zgb_9, ↓zsb_9, ↓zgb_16, ↓zsb_16, ↓zgb_18, ↓zsb_18, ↓zgb_21, ↓zsb_21, ↓zgb_22, ↓zsb_22, ↓zgb_23, ↓zsb_23, ↓zgb_24, ↓zsb_24, ↓zgb_25, ↓zsb_25, ↓zgb_26, ↓zsb_26, ↓zgb_27, ↓zsb_27, ↓zgb_28, ↓zsb_28, ↓zgb_29, ↓zsb_29, ↓zgb_47, ↓zsb_47, ↓zgb_49, ↓zsb_49, ↓zgb_51, ↓zsb_51, ↓zgb_53, ↓zsb_53, ↓zgb_54, ↓zsb_54, ↓zgb_55, ↓zsb_55, ↓zgb_58, ↓zsb_58, ↓zgb_76, ↓zsb_76, ↓zgb_79, ↓zsb_79, zi_0, zi_1, zi_10, zi_17, zi_19, zi_20, zi_30, zi_48, zi_50, zi_52, zi_57, zi_59, zi_80, zi_93, zi_106, zi_110, zi_114, zx_0_0, zx_0_1, zx_0_2, zx_0_3, zx_0_4, zx_0_5, zx_0_6, zx_0_7, zx_0_8, zx_0_9, zx_0_10, zx_1_0, zx_1_1, zx_2_0, zx_2_1, zx_2_2, zx_2_3, zx_2_4, zx_2_5, zx_10_0, zx_10_1, zx_11_0, zx_11_1, zx_11_2, zx_11_3, zx_17_0, zx_19_0, zx_19_1, zx_19_2, zx_20_0, zx_20_1, zx_20_3, zx_20_4, zx_20_5, zx_20_6, zx_20_7, zx_20_8, zx_20_9, zx_30_0, zx_30_1, zx_30_4, zx_30_5, zx_48_0, zx_50_0, zx_52_0, zx_52_1, zx_52_2, zx_56_0, zx_56_1, zx_56_2, zx_57_0, zx_59_0, zx_80_3, zx_80_4, zx_80_5, zx_81_0, zx_81_1, zx_81_2, zx_81_3, zx_81_4, zx_81_5, zx_88_0, zx_88_1, zx_88_2, zx_93_3, zx_93_4, zx_93_5, zx_94_0, zx_94_1, zx_94_2, zx_94_3, zx_94_4, zx_94_5, zx_101_0, zx_101_1, zx_101_2, zx_106_0, zx_106_1, zx_106_2, zx_110_0, zx_110_1, zx_110_2, zx_114_0, zx_114_1, zx_114_2, zgI_9, zsI_9, zgI_16, zsI_16, zgI_18, zsI_18, zgI_21, zsI_21, zgI_22, zsI_22, zgI_23, zsI_23, zgI_24, zsI_24, zgI_25, zsI_25, zgI_26, zsI_26, zgI_27, zsI_27, zgI_28, zsI_28, zgI_29, zsI_29, zgI_47, zsI_47, zgI_49, zsI_49, zgI_51, zsI_51, zgI_53, zsI_53, zgI_54, zsI_54, zgI_55, zsI_55, zgI_58, zsI_58, zgI_76, zsI_76, zgI_79, zsI_79, zb_147_2, x2, hg, hp1, e1, hv, not_true]
    exact ih
  cases e : zpv M h k r with
  | none =>
    have hall : ∀ i, r ≤ i → i < h → M i k = 0 := fun i h1 h2 => Classical.byContradiction fun q => by
      obtain ⟨j, j1, j2, j3⟩ := zleast (P := fun i => r ≤ i ∧ M i k ≠ 0) (n := h) ⟨i, h2, h1, q⟩
      have : zpv M h k r = some j := zfirst_yes j2 j3 j1
      rw [e] at this
      cases this
    refine ⟨σ, zS_eq (zS_of ze_147 ?_), ⟨ρ, hX⟩, zKeep.rf _ _⟩
    simp (disch := first | assumption | omega) only [zn0, zn1, Option.bind_some, zm_ai, zm_al, zm_av, zm_opt, zm_fw, zE_l, zE_r, nI_add, pk_mul, pk_sub, pk_div, pk_rem, zrem, zpm1, zB_i0, zB_i1, zB_ok, zB_T, zB_F, nI_toInt, zT_sub, zT_neg, zT_le, zT_lt, nI_eq, zne1, zne2, zne9, ite_not, or_true, true_or, if_true, if_false, if_pos, if_neg, zw_R, zw_RL, zw_I, zF_R, zw_same, zw_cell, zw_ne, zF_at, zF_ne, ↓zib_0, ↓zib_1, ↓zib_10, ↓zib_17, ↓zib_19, ↓zib_20, ↓zib_30, ↓zib_48, ↓zib_50, ↓zib_52, ↓zib_57, ↓zib_59, ↓zib_80, ↓zib_93, ↓zib_106, ↓zib_110, ↓zib_114, ↓zxb_0_0, ↓zxb_0_1, ↓zxb_0_2, ↓zxb_0_3, ↓zxb_0_4, ↓zxb_0_5, ↓zxb_0_6, ↓zxb_0_7, ↓zxb_0_8, ↓zxb_0_9, ↓zxb_0_10, ↓zxb_1_0, ↓zxb_1_1, ↓zxb_2_0, ↓zxb_2_1, ↓zxb_2_2, ↓zxb_2_3, ↓zxb_2_4, ↓zxb_2_5, ↓zxb_10_0, ↓zxb_10_1, ↓zxb_11_0, ↓zxb_11_1, ↓zxb_11_2, ↓zxb_11_3, ↓zxb_17_0, ↓zxb_19_0, ↓zxb_19_1, ↓zxb_19_2, ↓zxb_20_0, ↓zxb_20_1, ↓zxb_20_3, ↓zxb_20_4, ↓zxb_20_5, ↓zxb_20_6, ↓zxb_20_7, ↓zxb_20_8, ↓zxb_20_9, ↓zxb_30_0, ↓zxb_30_1, ↓zxb_30_4, ↓zxb_30_5, ↓zxb_48_0, ↓zxb_50_0, ↓zxb_52_0, ↓zxb_52_1, ↓zxb_52_2, ↓zxb_56_0, ↓zxb_56_1, ↓zxb_56_2, ↓zxb_57_0, ↓zxb_59_0, ↓zxb_80_3, ↓zxb_80_4, ↓zxb_80_5, ↓zxb_81_0, ↓zxb_81_1, ↓zxb_81_2, ↓zxb_81_3, ↓zxb_81_4, ↓zxb_81_5, ↓zxb_88_0, ↓zxb_88_1, ↓zxb_88_2, ↓zxb_93_3, ↓zxb_93_4, ↓zxb_93_5, ↓zxb_94_0, ↓zxb_94_1, ↓zxb_94_2, ↓zxb_94_3, ↓zxb_94_4, ↓zxb_94_5, ↓zxb_101_0, ↓zxb_101_1, ↓zxb_101_2, ↓zxb_106_0, ↓zxb_106_1, ↓zxb_106_2, ↓zxb_110_0, ↓zxb_110_1, ↓zxb_110_2, ↓zxb_114_0, ↓zxb_114_1, ↓zxb_114_2, ↓zgb_9, ↓zsb_9, ↓zgb_16, ↓zsb_16, ↓zgb_18, ↓zsb_18, ↓zgb_21, ↓zsb_21, ↓zgb_22, ↓zsb_22, ↓zgb_23, ↓zsb_23, ↓zgb_24, ↓zsb_24, ↓zgb_25, ↓zsb_25, ↓zgb_26, ↓zsb_26, ↓zgb_27, ↓zsb_27, ↓zgb_28, ↓zsb_28, ↓zgb_29, ↓zsb_29, ↓zgb_47, ↓zsb_47, ↓zgb_49, ↓zsb_49, ↓zgb_51, ↓zsb_51, ↓zgb_53, ↓zsb_53, ↓zgb_54, ↓zsb_54, ↓zgb_55, ↓zsb_55, ↓zgb_58, ↓zsb_58, ↓zgb_76, ↓zsb_76, ↓zgb_79, ↓zsb_79, zi_0, zi_1, zi_10, zi_17, zi_19, zi_20, zi_30, zi_48, zi_50, zi_52, zi_57, zi_59, zi_80, zi_93, zi_106, zi_110, zi_114, zx_0_0, zx_0_1, zx_0_2, zx_0_3, zx_0_4, zx_0_5, zx_0_6, zx_0_7, zx_0_8, zx_0_9, zx_0_10, zx_1_0, zx_1_1, zx_2_0, zx_2_1, zx_2_2, zx_2_3, zx_2_4, zx_2_5, zx_10_0, zx_10_1, zx_11_0, zx_11_1, zx_11_2, zx_11_3, zx_17_0, zx_19_0, zx_19_1, zx_19_2, zx_20_0, zx_20_1, zx_20_3, zx_20_4, zx_20_5, zx_20_6, zx_20_7, zx_20_8, zx_20_9, zx_30_0, zx_30_1, zx_30_4, zx_30_5, zx_48_0, zx_50_0, zx_52_0, zx_52_1, zx_52_2, zx_56_0, zx_56_1, zx_56_2, zx_57_0, zx_59_0, zx_80_3, zx_80_4, zx_80_5, zx_81_0, zx_81_1, zx_81_2, zx_81_3, zx_81_4, zx_81_5, zx_88_0, zx_88_1, zx_88_2, zx_93_3, zx_93_4, zx_93_5, zx_94_0, zx_94_1, zx_94_2, zx_94_3, zx_94_4, zx_94_5, zx_101_0, zx_101_1, zx_101_2, zx_106_0, zx_106_1, zx_106_2, zx_110_0, zx_110_1, zx_110_2, zx_114_0, zx_114_1, zx_114_2, zgI_9, zsI_9, zgI_16, zsI_16, zgI_18, zsI_18, zgI_21, zsI_21, zgI_22, zsI_22, zgI_23, zsI_23, zgI_24, zsI_24, zgI_25, zsI_25, zgI_26, zsI_26, zgI_27, zsI_27, zgI_28, zsI_28, zgI_29, zsI_29, zgI_47, zsI_47, zgI_49, zsI_49, zgI_51, zsI_51, zgI_53, zsI_53, zgI_54, zsI_54, zgI_55, zsI_55, zgI_58, zsI_58, zgI_76, zsI_76, zgI_79, zsI_79, zb_147_0]
    have key : ∀ d i, i + d = h → r ≤ i → zW 147 (2, [(0, .ref 59), (1, .int (nI r)), (2, .int (nI k)), (3, .int (nI i))], [], zL, σ, 0, 0) (fun q => q = (some (.int (nI 0)), zL, σ)) := by
      intro d
      induction d with
      | zero =>
        intro i hi hri
        have : i = h := by omega
        subst this
        refine zW_of zg_147_2 ?_
        simp (disch := first | assumption | omega) only [zn0, zn1, Option.bind_some, zm_ai, zm_al, zm_av, zm_opt, zm_fw, zE_l, zE_r, nI_add, pk_mul, pk_sub, pk_div, pk_rem, zrem, zpm1, zB_i0, zB_i1, zB_ok, zB_T, zB_F, nI_toInt, zT_sub, zT_neg, zT_le, zT_lt, nI_eq, zne1, zne2, zne9, ite_not, or_true, true_or, if_true, if_false, if_pos, if_neg, zw_R, zw_RL, zw_I, zF_R, zw_same, zw_cell, zw_ne, zF_at, zF_ne, ↓zib_0, ↓zib_1, ↓zib_10, ↓zib_17, ↓zib_19, ↓zib_20, ↓zib_30, ↓zib_48, ↓zib_50, ↓zib_52, ↓zib_57, ↓zib_59, ↓zib_80, ↓zib_93, ↓zib_106, ↓zib_110, ↓zib_114, ↓zxb_0_0, ↓zxb_0_1, ↓zxb_0_2, ↓zxb_0_3, ↓zxb_0_4, ↓zxb_0_5, ↓zxb_0_6, ↓zxb_0_7, ↓zxb_0_8, ↓zxb_0_9, ↓zxb_0_10, ↓zxb_1_0, ↓zxb_1_1, ↓zxb_2_0, ↓zxb_2_1, ↓zxb_2_2, ↓zxb_2_3, ↓zxb_2_4, ↓zxb_2_5, ↓zxb_10_0, ↓zxb_10_1, ↓zxb_11_0, ↓zxb_11_1, ↓zxb_11_2, ↓zxb_11_3, ↓zxb_17_0, ↓zxb_19_0, ↓zxb_19_1, ↓zxb_19_2, ↓zxb_20_0, ↓zxb_20_1, ↓zxb_20_3, ↓zxb_20_4, ↓zxb_20_5, ↓zxb_20_6, ↓zxb_20_7, ↓zxb_20_8, ↓zxb_20_9, ↓zxb_30_0, ↓zxb_30_1, ↓zxb_30_4, ↓zxb_30_5, ↓zxb_48_0, ↓zxb_50_0, ↓zxb_52_0, ↓zxb_52_1, ↓zxb_52_2, ↓zxb_56_0, ↓zxb_56_1, ↓zxb_56_2, ↓zxb_57_0, ↓zxb_59_0, ↓zxb_80_3, ↓zxb_80_4, ↓zxb_80_5, ↓zxb_81_0, ↓zxb_81_1, ↓zxb_81_2, ↓zxb_81_3, ↓zxb_81_4, ↓zxb_81_5, ↓zxb_88_0, ↓zxb_88_1, ↓zxb_88_2, ↓zxb_93_3, ↓zxb_93_4, ↓zxb_93_5, ↓zxb_94_0, ↓zxb_94_1, ↓zxb_94_2, ↓zxb_94_3, ↓zxb_94_4, ↓zxb_94_5, ↓zxb_101_0, ↓zxb_101_1, ↓zxb_101_2, ↓zxb_106_0, ↓zxb_106_1, ↓zxb_106_2, ↓zxb_110_0, ↓zxb_110_1, ↓zxb_110_2, ↓zxb_114_0, ↓zxb_114_1, ↓zxb_114_2, ↓zgb_9, ↓zsb_9, ↓zgb_16, ↓zsb_16, ↓zgb_18, ↓zsb_18, ↓zgb_21, ↓zsb_21, ↓zgb_22, ↓zsb_22, ↓zgb_23, ↓zsb_23, ↓zgb_24, ↓zsb_24, ↓zgb_25, ↓zsb_25, ↓zgb_26, ↓zsb_26, ↓zgb_27, ↓zsb_27, ↓zgb_28, ↓zsb_28, ↓zgb_29, ↓zsb_29, ↓zgb_47, ↓zsb_47, ↓zgb_49, ↓zsb_49, ↓zgb_51, ↓zsb_51, ↓zgb_53, ↓zsb_53, ↓zgb_54, ↓zsb_54, ↓zgb_55, ↓zsb_55, ↓zgb_58, ↓zsb_58, ↓zgb_76, ↓zsb_76, ↓zgb_79, ↓zsb_79, zi_0, zi_1, zi_10, zi_17, zi_19, zi_20, zi_30, zi_48, zi_50, zi_52, zi_57, zi_59, zi_80, zi_93, zi_106, zi_110, zi_114, zx_0_0, zx_0_1, zx_0_2, zx_0_3, zx_0_4, zx_0_5, zx_0_6, zx_0_7, zx_0_8, zx_0_9, zx_0_10, zx_1_0, zx_1_1, zx_2_0, zx_2_1, zx_2_2, zx_2_3, zx_2_4, zx_2_5, zx_10_0, zx_10_1, zx_11_0, zx_11_1, zx_11_2, zx_11_3, zx_17_0, zx_19_0, zx_19_1, zx_19_2, zx_20_0, zx_20_1, zx_20_3, zx_20_4, zx_20_5, zx_20_6, zx_20_7, zx_20_8, zx_20_9, zx_30_0, zx_30_1, zx_30_4, zx_30_5, zx_48_0, zx_50_0, zx_52_0, zx_52_1, zx_52_2, zx_56_0, zx_56_1, zx_56_2, zx_57_0, zx_59_0, zx_80_3, zx_80_4, zx_80_5, zx_81_0, zx_81_1, zx_81_2, zx_81_3, zx_81_4, zx_81_5, zx_88_0, zx_88_1, zx_88_2, zx_93_3, zx_93_4, zx_93_5, zx_94_0, zx_94_1, zx_94_2, zx_94_3, zx_94_4, zx_94_5, zx_101_0, zx_101_1, zx_101_2, zx_106_0, zx_106_1, zx_106_2, zx_110_0, zx_110_1, zx_110_2, zx_114_0, zx_114_1, zx_114_2, zgI_9, zsI_9, zgI_16, zsI_16, zgI_18, zsI_18, zgI_21, zsI_21, zgI_22, zsI_22, zgI_23, zsI_23, zgI_24, zsI_24, zgI_25, zsI_25, zgI_26, zsI_26, zgI_27, zsI_27, zgI_28, zsI_28, zgI_29, zsI_29, zgI_47, zsI_47, zgI_49, zsI_49, zgI_51, zsI_51, zgI_53, zsI_53, zgI_54, zsI_54, zgI_55, zsI_55, zgI_58, zsI_58, zgI_76, zsI_76, zgI_79, zsI_79, zb_147_2, x2]
      | succ d ih =>
        intro i hi hri
        exact skip _ i hri (by omega) (hall i hri (by omega)) (ih (i + 1) (by omega) (by omega))
    exact key (h - r) r (by omega) (Nat.le_refl _)
  | some i =>
    obtain ⟨a1, a2, a3⟩ := zpv_sp e
    have hbef : ∀ j, r ≤ j → j < i → M j k = 0 := fun j h1 h2 => Classical.byContradiction fun q => by
      obtain ⟨j', j1, j2, j3⟩ := zleast (P := fun i => r ≤ i ∧ M i k ≠ 0) (n := h) ⟨j, by omega, h1, q⟩
      have : zpv M h k r = some j' := zfirst_yes j2 j3 j1
      rw [e] at this
      cases this
      exact j3 j (by omega) ⟨h1, q⟩
    have hpi := x1.1 i (by omega)
    have hqi := x1.2.1 i (by omega)
    have hpr := x1.1 r (by omega)
    have hqr := x1.2.1 r (by omega)
    have hg := zgR_60 (σ := σ) (i := i) (by omega)
    have hg2 := zgR_60 (σ := σ) (i := r) (by omega)
    have e1 := zgI_mx (σ := σ) (k := k) hqi (by omega)
    have hv : σ.1 (61 + ρ i) k = nI (M i k) := x4 i k a1 hk
    have hml := hM i k a1 hk
    have s1 := zsR_60 (σ := σ) (i := i) (q := ρ r) (by omega) hqr
    have s2 := zsR_60 (σ := zm_wR σ 60 i (some (61 + ρ r))) (i := r) (q := ρ i) (by omega) hqi
    have hK : zKeep zFxm σ (zm_wR (zm_wR σ 60 i (some (61 + ρ r))) 60 r (some (61 + ρ i))) := ((zKeep.rf _ _).wR rfl).wR rfl
    have hF1 : zFix (zm_wR σ 60 i (some (61 + ρ r))) := ((zKeep.rf zFxm σ).wR (a := 60) (i := i) (v := some (61 + ρ r)) rfl).fix hF rfl
    have f59 : (zm_wR σ 60 i (some (61 + ρ r))).2.2 59 0 = some 60 := zx_59_0 hF1
    refine ⟨zm_wR (zm_wR σ 60 i (some (61 + ρ r))) 60 r (some (61 + ρ i)), zS_eq (zS_of ze_147 ?_), ⟨fun j => if j = r then ρ i else if j = i then ρ r else ρ j, ⟨fun j hj => ?_, fun j hj => ?_, fun j j' hj hj' => ?_⟩, x2, x3, fun j m hj hm => ?_⟩, hK⟩
    · simp (disch := first | assumption | omega) only [zn0, zn1, Option.bind_some, zm_ai, zm_al, zm_av, zm_opt, zm_fw, zE_l, zE_r, nI_add, pk_mul, pk_sub, pk_div, pk_rem, zrem, zpm1, zB_i0, zB_i1, zB_ok, zB_T, zB_F, nI_toInt, zT_sub, zT_neg, zT_le, zT_lt, nI_eq, zne1, zne2, zne9, ite_not, or_true, true_or, if_true, if_false, if_pos, if_neg, zw_R, zw_RL, zw_I, zF_R, zw_same, zw_cell, zw_ne, zF_at, zF_ne, ↓zib_0, ↓zib_1, ↓zib_10, ↓zib_17, ↓zib_19, ↓zib_20, ↓zib_30, ↓zib_48, ↓zib_50, ↓zib_52, ↓zib_57, ↓zib_59, ↓zib_80, ↓zib_93, ↓zib_106, ↓zib_110, ↓zib_114, ↓zxb_0_0, ↓zxb_0_1, ↓zxb_0_2, ↓zxb_0_3, ↓zxb_0_4, ↓zxb_0_5, ↓zxb_0_6, ↓zxb_0_7, ↓zxb_0_8, ↓zxb_0_9, ↓zxb_0_10, ↓zxb_1_0, ↓zxb_1_1, ↓zxb_2_0, ↓zxb_2_1, ↓zxb_2_2, ↓zxb_2_3, ↓zxb_2_4, ↓zxb_2_5, ↓zxb_10_0, ↓zxb_10_1, ↓zxb_11_0, ↓zxb_11_1, ↓zxb_11_2, ↓zxb_11_3, ↓zxb_17_0, ↓zxb_19_0, ↓zxb_19_1, ↓zxb_19_2, ↓zxb_20_0, ↓zxb_20_1, ↓zxb_20_3, ↓zxb_20_4, ↓zxb_20_5, ↓zxb_20_6, ↓zxb_20_7, ↓zxb_20_8, ↓zxb_20_9, ↓zxb_30_0, ↓zxb_30_1, ↓zxb_30_4, ↓zxb_30_5, ↓zxb_48_0, ↓zxb_50_0, ↓zxb_52_0, ↓zxb_52_1, ↓zxb_52_2, ↓zxb_56_0, ↓zxb_56_1, ↓zxb_56_2, ↓zxb_57_0, ↓zxb_59_0, ↓zxb_80_3, ↓zxb_80_4, ↓zxb_80_5, ↓zxb_81_0, ↓zxb_81_1, ↓zxb_81_2, ↓zxb_81_3, ↓zxb_81_4, ↓zxb_81_5, ↓zxb_88_0, ↓zxb_88_1, ↓zxb_88_2, ↓zxb_93_3, ↓zxb_93_4, ↓zxb_93_5, ↓zxb_94_0, ↓zxb_94_1, ↓zxb_94_2, ↓zxb_94_3, ↓zxb_94_4, ↓zxb_94_5, ↓zxb_101_0, ↓zxb_101_1, ↓zxb_101_2, ↓zxb_106_0, ↓zxb_106_1, ↓zxb_106_2, ↓zxb_110_0, ↓zxb_110_1, ↓zxb_110_2, ↓zxb_114_0, ↓zxb_114_1, ↓zxb_114_2, ↓zgb_9, ↓zsb_9, ↓zgb_16, ↓zsb_16, ↓zgb_18, ↓zsb_18, ↓zgb_21, ↓zsb_21, ↓zgb_22, ↓zsb_22, ↓zgb_23, ↓zsb_23, ↓zgb_24, ↓zsb_24, ↓zgb_25, ↓zsb_25, ↓zgb_26, ↓zsb_26, ↓zgb_27, ↓zsb_27, ↓zgb_28, ↓zsb_28, ↓zgb_29, ↓zsb_29, ↓zgb_47, ↓zsb_47, ↓zgb_49, ↓zsb_49, ↓zgb_51, ↓zsb_51, ↓zgb_53, ↓zsb_53, ↓zgb_54, ↓zsb_54, ↓zgb_55, ↓zsb_55, ↓zgb_58, ↓zsb_58, ↓zgb_76, ↓zsb_76, ↓zgb_79, ↓zsb_79, zi_0, zi_1, zi_10, zi_17, zi_19, zi_20, zi_30, zi_48, zi_50, zi_52, zi_57, zi_59, zi_80, zi_93, zi_106, zi_110, zi_114, zx_0_0, zx_0_1, zx_0_2, zx_0_3, zx_0_4, zx_0_5, zx_0_6, zx_0_7, zx_0_8, zx_0_9, zx_0_10, zx_1_0, zx_1_1, zx_2_0, zx_2_1, zx_2_2, zx_2_3, zx_2_4, zx_2_5, zx_10_0, zx_10_1, zx_11_0, zx_11_1, zx_11_2, zx_11_3, zx_17_0, zx_19_0, zx_19_1, zx_19_2, zx_20_0, zx_20_1, zx_20_3, zx_20_4, zx_20_5, zx_20_6, zx_20_7, zx_20_8, zx_20_9, zx_30_0, zx_30_1, zx_30_4, zx_30_5, zx_48_0, zx_50_0, zx_52_0, zx_52_1, zx_52_2, zx_56_0, zx_56_1, zx_56_2, zx_57_0, zx_59_0, zx_80_3, zx_80_4, zx_80_5, zx_81_0, zx_81_1, zx_81_2, zx_81_3, zx_81_4, zx_81_5, zx_88_0, zx_88_1, zx_88_2, zx_93_3, zx_93_4, zx_93_5, zx_94_0, zx_94_1, zx_94_2, zx_94_3, zx_94_4, zx_94_5, zx_101_0, zx_101_1, zx_101_2, zx_106_0, zx_106_1, zx_106_2, zx_110_0, zx_110_1, zx_110_2, zx_114_0, zx_114_1, zx_114_2, zgI_9, zsI_9, zgI_16, zsI_16, zgI_18, zsI_18, zgI_21, zsI_21, zgI_22, zsI_22, zgI_23, zsI_23, zgI_24, zsI_24, zgI_25, zsI_25, zgI_26, zsI_26, zgI_27, zsI_27, zgI_28, zsI_28, zgI_29, zsI_29, zgI_47, zsI_47, zgI_49, zsI_49, zgI_51, zsI_51, zgI_53, zsI_53, zgI_54, zsI_54, zgI_55, zsI_55, zgI_58, zsI_58, zgI_76, zsI_76, zgI_79, zsI_79, zb_147_0]
      have key : ∀ d j, j + d = i → r ≤ j → zW 147 (2, [(0, .ref 59), (1, .int (nI r)), (2, .int (nI k)), (3, .int (nI j))], [], zL, σ, 0, 0) (fun q => q = (some (.int (nI 1)), zL, zm_wR (zm_wR σ 60 i (some (61 + ρ r))) 60 r (some (61 + ρ i)))) := by
        intro d
        induction d with
        | zero =>
          intro j hj hrj
          have : j = i := by omega
          subst this
          refine zW_of zg_147_2 ?_
          simp (disch := first | assumption | omega) only [zn0, zn1, Option.bind_some, zm_ai, zm_al, zm_av, zm_opt, zm_fw, zE_l, zE_r, nI_add, pk_mul, pk_sub, pk_div, pk_rem, zrem, zpm1, zB_i0, zB_i1, zB_ok, zB_T, zB_F, nI_toInt, zT_sub, zT_neg, zT_le, zT_lt, nI_eq, zne1, zne2, zne9, ite_not, or_true, true_or, if_true, if_false, if_pos, if_neg, zw_R, zw_RL, zw_I, zF_R, zw_same, zw_cell, zw_ne, zF_at, zF_ne, ↓zib_0, ↓zib_1, ↓zib_10, ↓zib_17, ↓zib_19, ↓zib_20, ↓zib_30, ↓zib_48, ↓zib_50, ↓zib_52, ↓zib_57, ↓zib_59, ↓zib_80, ↓zib_93, ↓zib_106, ↓zib_110, ↓zib_114, ↓zxb_0_0, ↓zxb_0_1, ↓zxb_0_2, ↓zxb_0_3, ↓zxb_0_4, ↓zxb_0_5, ↓zxb_0_6, ↓zxb_0_7, ↓zxb_0_8, ↓zxb_0_9, ↓zxb_0_10, ↓zxb_1_0, ↓zxb_1_1, ↓zxb_2_0, ↓zxb_2_1, ↓zxb_2_2, ↓zxb_2_3, ↓zxb_2_4, ↓zxb_2_5, ↓zxb_10_0, ↓zxb_10_1, ↓zxb_11_0, ↓zxb_11_1, ↓zxb_11_2, ↓zxb_11_3, ↓zxb_17_0, ↓zxb_19_0, ↓zxb_19_1, ↓zxb_19_2, ↓zxb_20_0, ↓zxb_20_1, ↓zxb_20_3, ↓zxb_20_4, ↓zxb_20_5, ↓zxb_20_6, ↓zxb_20_7, ↓zxb_20_8, ↓zxb_20_9, ↓zxb_30_0, ↓zxb_30_1, ↓zxb_30_4, ↓zxb_30_5, ↓zxb_48_0, ↓zxb_50_0, ↓zxb_52_0, ↓zxb_52_1, ↓zxb_52_2, ↓zxb_56_0, ↓zxb_56_1, ↓zxb_56_2, ↓zxb_57_0, ↓zxb_59_0, ↓zxb_80_3, ↓zxb_80_4, ↓zxb_80_5, ↓zxb_81_0, ↓zxb_81_1, ↓zxb_81_2, ↓zxb_81_3, ↓zxb_81_4, ↓zxb_81_5, ↓zxb_88_0, ↓zxb_88_1, ↓zxb_88_2, ↓zxb_93_3, ↓zxb_93_4, ↓zxb_93_5, ↓zxb_94_0, ↓zxb_94_1, ↓zxb_94_2, ↓zxb_94_3, ↓zxb_94_4, ↓zxb_94_5, ↓zxb_101_0, ↓zxb_101_1, ↓zxb_101_2, ↓zxb_106_0, ↓zxb_106_1, ↓zxb_106_2, ↓zxb_110_0, ↓zxb_110_1, ↓zxb_110_2, ↓zxb_114_0, ↓zxb_114_1, ↓zxb_114_2, ↓zgb_9, ↓zsb_9, ↓zgb_16, ↓zsb_16, ↓zgb_18, ↓zsb_18, ↓zgb_21, ↓zsb_21, ↓zgb_22, ↓zsb_22, ↓zgb_23, ↓zsb_23, ↓zgb_24, ↓zsb_24, ↓zgb_25, ↓zsb_25, ↓zgb_26, ↓zsb_26, ↓zgb_27, ↓zsb_27, ↓zgb_28, ↓zsb_28, ↓zgb_29, ↓zsb_29, ↓zgb_47, ↓zsb_47, ↓zgb_49, ↓zsb_49, ↓zgb_51, ↓zsb_51, ↓zgb_53, ↓zsb_53, ↓zgb_54, ↓zsb_54, ↓zgb_55, ↓zsb_55, ↓zgb_58, ↓zsb_58, ↓zgb_76, ↓zsb_76, ↓zgb_79, ↓zsb_79, zi_0, zi_1, zi_10, zi_17, zi_19, zi_20, zi_30, zi_48, zi_50, zi_52, zi_57, zi_59, zi_80, zi_93, zi_106, zi_110, zi_114, zx_0_0, zx_0_1, zx_0_2, zx_0_3, zx_0_4, zx_0_5, zx_0_6, zx_0_7, zx_0_8, zx_0_9, zx_0_10, zx_1_0, zx_1_1, zx_2_0, zx_2_1, zx_2_2, zx_2_3, zx_2_4, zx_2_5, zx_10_0, zx_10_1, zx_11_0, zx_11_1, zx_11_2, zx_11_3, zx_17_0, zx_19_0, zx_19_1, zx_19_2, zx_20_0, zx_20_1, zx_20_3, zx_20_4, zx_20_5, zx_20_6, zx_20_7, zx_20_8, zx_20_9, zx_30_0, zx_30_1, zx_30_4, zx_30_5, zx_48_0, zx_50_0, zx_52_0, zx_52_1, zx_52_2, zx_56_0, zx_56_1, zx_56_2, zx_57_0, zx_59_0, zx_80_3, zx_80_4, zx_80_5, zx_81_0, zx_81_1, zx_81_2, zx_81_3, zx_81_4, zx_81_5, zx_88_0, zx_88_1, zx_88_2, zx_93_3, zx_93_4, zx_93_5, zx_94_0, zx_94_1, zx_94_2, zx_94_3, zx_94_4, zx_94_5, zx_101_0, zx_101_1, zx_101_2, zx_106_0, zx_106_1, zx_106_2, zx_110_0, zx_110_1, zx_110_2, zx_114_0, zx_114_1, zx_114_2, zgI_9, zsI_9, zgI_16, zsI_16, zgI_18, zsI_18, zgI_21, zsI_21, zgI_22, zsI_22, zgI_23, zsI_23, zgI_24, zsI_24, zgI_25, zsI_25, zgI_26, zsI_26, zgI_27, zsI_27, zgI_28, zsI_28, zgI_29, zsI_29, zgI_47, zsI_47, zgI_49, zsI_49, zgI_51, zsI_51, zgI_53, zsI_53, zgI_54, zsI_54, zgI_55, zsI_55, zgI_58, zsI_58, zgI_76, zsI_76, zgI_79, zsI_79, zb_147_2, x2, hg, hpi, e1, hv, not_false, hg2, hpr, s1, f59, s2]
        | succ d ih =>
          intro j hj hrj
          exact skip _ j hrj (by omega) (hbef j hrj (by omega)) (ih (j + 1) (by omega) (by omega))
      exact key (i - r) r (by omega) (Nat.le_refl _)
    · dsimp only
      by_cases z1 : j = r
      · rw [if_pos z1, z1, zR_same]
      · rw [if_neg z1, zR_ne _ _ (Or.inr z1)]
        by_cases z2 : j = i
        · rw [if_pos z2, z2, zR_same]
        · rw [if_neg z2, zR_ne _ _ (Or.inr z2)]
          exact x1.1 j hj
    · show (if j = r then ρ i else if j = i then ρ r else ρ j) < 15
      split
      · exact hqi
      · split
        · exact hqr
        · exact x1.2.1 j hj
    · have inj := x1.2.2
      show (if j = r then ρ i else if j = i then ρ r else ρ j) = (if j' = r then ρ i else if j' = i then ρ r else ρ j') → j = j'
      intro q
      by_cases z1 : j = r
      · rw [if_pos z1] at q
        by_cases z2 : j' = r
        · omega
        · rw [if_neg z2] at q
          by_cases z4 : j' = i
          · rw [if_pos z4] at q
            have := inj i r (by omega) (by omega) q
            omega
          · rw [if_neg z4] at q
            have := inj i j' (by omega) hj' q
            omega
      · rw [if_neg z1] at q
        by_cases z3 : j = i
        · rw [if_pos z3] at q
          by_cases z2 : j' = r
          · rw [if_pos z2] at q
            have := inj r i (by omega) (by omega) q
            omega
          · rw [if_neg z2] at q
            by_cases z4 : j' = i
            · omega
            · rw [if_neg z4] at q
              have := inj r j' (by omega) hj' q
              omega
        · rw [if_neg z3] at q
          by_cases z2 : j' = r
          · rw [if_pos z2] at q
            have := inj j i hj (by omega) q
            omega
          · rw [if_neg z2] at q
            by_cases z4 : j' = i
            · rw [if_pos z4] at q
              have := inj j r hj (by omega) q
              omega
            · rw [if_neg z4] at q
              exact inj j j' hj hj' q
    · show σ.1 (61 + (if j = r then ρ i else if j = i then ρ r else ρ j)) m = nI (zsw M i r j m)
      unfold zsw
      by_cases z1 : j = r
      · rw [if_pos z1, if_pos z1]
        exact x4 i m a1 hm
      · rw [if_neg z1, if_neg z1]
        by_cases z2 : j = i
        · rw [if_pos z2, if_pos z2]
          exact x4 r m hr hm
        · rw [if_neg z2, if_neg z2]
          exact x4 j m hj hm
theorem c_clearBelow (hF : zFix σ) (hh : h ≤ 15) (hw : w ≤ 15) (hp2 : 2 ≤ p) (hp8 : p < 8) {r k i : Nat} (hr : r < i) (hi : i < h) (hk : k < w) (hM : zLm p h w M) (hX : zMx σ ρ h w (zMn (zce p M r k i))) : ∃ σ', zM 148 [.ref 59, .int (nI r), .int (nI i), .int (nI k), .int (nI p)] zL σ = some (none, zL, σ') ∧ zMx σ' ρ h w (zMn (zce p M r k (i + 1))) ∧ zKeep zFx0 σ σ' := by
  obtain ⟨x1, x2, x3, x4⟩ := id hX
  have hri : r < h := by omega
  have rowr : ∀ m, m < w → σ.1 (61 + ρ r) m = nI (M r m) := fun m hm => by
    rw [x4 r m hri hm]
    show nI (zce p M r k i r m) = _
    unfold zce
    rw [if_neg (by omega)]
  have rowi : ∀ m, m < w → σ.1 (61 + ρ i) m = nI (M i m) := fun m hm => by
    rw [x4 i m hi hm]
    show nI (zce p M r k i i m) = _
    unfold zce
    rw [if_neg (by omega)]
  have hpi := x1.1 i (by omega)
  have hqi := x1.2.1 i (by omega)
  have hpr := x1.1 r (by omega)
  have hqr := x1.2.1 r (by omega)
  have hne : ρ i ≠ ρ r := fun z => by have := x1.2.2 i r (by omega) (by omega) z; omega
  have hg := zgR_60 (σ := σ) (i := i) (by omega)
  have hg2 := zgR_60 (σ := σ) (i := r) (by omega)
  have e1 := zgI_mx (σ := σ) (k := k) hqi (by omega)
  have e2 := zgI_mx (σ := σ) (k := k) hqr (by omega)
  have v1 := rowr k hk
  have v2 := rowi k hk
  refine zS_ex (zS_of ze_148 ?_)
  simp (disch := first | assumption | omega) only [zn0, zn1, Option.bind_some, zm_ai, zm_al, zm_av, zm_opt, zm_fw, zE_l, zE_r, nI_add, pk_mul, pk_sub, pk_div, pk_rem, zrem, zpm1, zB_i0, zB_i1, zB_ok, zB_T, zB_F, nI_toInt, zT_sub, zT_neg, zT_le, zT_lt, nI_eq, zne1, zne2, zne9, ite_not, or_true, true_or, if_true, if_false, if_pos, if_neg, zw_R, zw_RL, zw_I, zF_R, zw_same, zw_cell, zw_ne, zF_at, zF_ne, ↓zib_0, ↓zib_1, ↓zib_10, ↓zib_17, ↓zib_19, ↓zib_20, ↓zib_30, ↓zib_48, ↓zib_50, ↓zib_52, ↓zib_57, ↓zib_59, ↓zib_80, ↓zib_93, ↓zib_106, ↓zib_110, ↓zib_114, ↓zxb_0_0, ↓zxb_0_1, ↓zxb_0_2, ↓zxb_0_3, ↓zxb_0_4, ↓zxb_0_5, ↓zxb_0_6, ↓zxb_0_7, ↓zxb_0_8, ↓zxb_0_9, ↓zxb_0_10, ↓zxb_1_0, ↓zxb_1_1, ↓zxb_2_0, ↓zxb_2_1, ↓zxb_2_2, ↓zxb_2_3, ↓zxb_2_4, ↓zxb_2_5, ↓zxb_10_0, ↓zxb_10_1, ↓zxb_11_0, ↓zxb_11_1, ↓zxb_11_2, ↓zxb_11_3, ↓zxb_17_0, ↓zxb_19_0, ↓zxb_19_1, ↓zxb_19_2, ↓zxb_20_0, ↓zxb_20_1, ↓zxb_20_3, ↓zxb_20_4, ↓zxb_20_5, ↓zxb_20_6, ↓zxb_20_7, ↓zxb_20_8, ↓zxb_20_9, ↓zxb_30_0, ↓zxb_30_1, ↓zxb_30_4, ↓zxb_30_5, ↓zxb_48_0, ↓zxb_50_0, ↓zxb_52_0, ↓zxb_52_1, ↓zxb_52_2, ↓zxb_56_0, ↓zxb_56_1, ↓zxb_56_2, ↓zxb_57_0, ↓zxb_59_0, ↓zxb_80_3, ↓zxb_80_4, ↓zxb_80_5, ↓zxb_81_0, ↓zxb_81_1, ↓zxb_81_2, ↓zxb_81_3, ↓zxb_81_4, ↓zxb_81_5, ↓zxb_88_0, ↓zxb_88_1, ↓zxb_88_2, ↓zxb_93_3, ↓zxb_93_4, ↓zxb_93_5, ↓zxb_94_0, ↓zxb_94_1, ↓zxb_94_2, ↓zxb_94_3, ↓zxb_94_4, ↓zxb_94_5, ↓zxb_101_0, ↓zxb_101_1, ↓zxb_101_2, ↓zxb_106_0, ↓zxb_106_1, ↓zxb_106_2, ↓zxb_110_0, ↓zxb_110_1, ↓zxb_110_2, ↓zxb_114_0, ↓zxb_114_1, ↓zxb_114_2, ↓zgb_9, ↓zsb_9, ↓zgb_16, ↓zsb_16, ↓zgb_18, ↓zsb_18, ↓zgb_21, ↓zsb_21, ↓zgb_22, ↓zsb_22, ↓zgb_23, ↓zsb_23, ↓zgb_24, ↓zsb_24, ↓zgb_25, ↓zsb_25, ↓zgb_26, ↓zsb_26, ↓zgb_27, ↓zsb_27, ↓zgb_28, ↓zsb_28, ↓zgb_29, ↓zsb_29, ↓zgb_47, ↓zsb_47, ↓zgb_49, ↓zsb_49, ↓zgb_51, ↓zsb_51, ↓zgb_53, ↓zsb_53, ↓zgb_54, ↓zsb_54, ↓zgb_55, ↓zsb_55, ↓zgb_58, ↓zsb_58, ↓zgb_76, ↓zsb_76, ↓zgb_79, ↓zsb_79, zi_0, zi_1, zi_10, zi_17, zi_19, zi_20, zi_30, zi_48, zi_50, zi_52, zi_57, zi_59, zi_80, zi_93, zi_106, zi_110, zi_114, zx_0_0, zx_0_1, zx_0_2, zx_0_3, zx_0_4, zx_0_5, zx_0_6, zx_0_7, zx_0_8, zx_0_9, zx_0_10, zx_1_0, zx_1_1, zx_2_0, zx_2_1, zx_2_2, zx_2_3, zx_2_4, zx_2_5, zx_10_0, zx_10_1, zx_11_0, zx_11_1, zx_11_2, zx_11_3, zx_17_0, zx_19_0, zx_19_1, zx_19_2, zx_20_0, zx_20_1, zx_20_3, zx_20_4, zx_20_5, zx_20_6, zx_20_7, zx_20_8, zx_20_9, zx_30_0, zx_30_1, zx_30_4, zx_30_5, zx_48_0, zx_50_0, zx_52_0, zx_52_1, zx_52_2, zx_56_0, zx_56_1, zx_56_2, zx_57_0, zx_59_0, zx_80_3, zx_80_4, zx_80_5, zx_81_0, zx_81_1, zx_81_2, zx_81_3, zx_81_4, zx_81_5, zx_88_0, zx_88_1, zx_88_2, zx_93_3, zx_93_4, zx_93_5, zx_94_0, zx_94_1, zx_94_2, zx_94_3, zx_94_4, zx_94_5, zx_101_0, zx_101_1, zx_101_2, zx_106_0, zx_106_1, zx_106_2, zx_110_0, zx_110_1, zx_110_2, zx_114_0, zx_114_1, zx_114_2, zgI_9, zsI_9, zgI_16, zsI_16, zgI_18, zsI_18, zgI_21, zsI_21, zgI_22, zsI_22, zgI_23, zsI_23, zgI_24, zsI_24, zgI_25, zsI_25, zgI_26, zsI_26, zgI_27, zsI_27, zgI_28, zsI_28, zgI_29, zsI_29, zgI_47, zsI_47, zgI_49, zsI_49, zgI_51, zsI_51, zgI_53, zsI_53, zgI_54, zsI_54, zgI_55, zsI_55, zgI_58, zsI_58, zgI_76, zsI_76, zgI_79, zsI_79, zb_148_0, hg, hg2, hpi, hpr, e1, e2, v1, v2]
  refine zloop (fun m σ1 => (30, [(0, .ref 59), (1, .int (nI r)), (2, .int (nI i)), (4, .int (nI p)), (5, .int (nI (M r k))), (6, .int (nI (M i k))), (7, .int (nI m))], [], zL, σ1, 0, 0)) (fun m σ1 => (∀ m', m' < w → σ1.1 (61 + ρ i) m' = if m' < m then nI ((M i m' * M r k + (p - M i k) * M r m') % p) else nI (M i m')) ∧ zKeep (fun x k => x == 61 + ρ i) σ σ1) w (fun m σ1 hm hI ih => ?_) (fun σ1 hI => ?_) 0 σ (by omega) ⟨fun m' hm' => by rw [if_neg (by omega)]; exact rowi m' hm', zKeep.rf _ _⟩
  · obtain ⟨j1, hK⟩ := hI
    have hk0 : ∀ {x q}, x ≠ 61 + ρ i → (fun (x : Nat) (_ : Nat) => x == 61 + ρ i) x q = false := fun {x q} hx => by simp [hx]
    have hF1 : zFix σ1 := fun q hq => (hK.r (hk0 (x := q.1) (q := q.2.1) (by
      have : ∀ q ∈ zFx, ¬ (61 ≤ q.1 ∧ q.1 ≤ 75) := by decide
      have := this q hq
      omega))).trans (hF q hq)
    have y3 := (hK.i (a := 59) (k := 2) (hk0 (x := 59) (q := 2) (by omega))).trans x3
    have ypi := (hK.r (a := 60) (k := i) (hk0 (x := 60) (q := i) (by omega))).trans hpi
    have ypr := (hK.r (a := 60) (k := r) (hk0 (x := 60) (q := r) (by omega))).trans hpr
    have hg := zgR_60 (σ := σ1) (i := i) (by omega)
    have hg2 := zgR_60 (σ := σ1) (i := r) (by omega)
    have e1 := zgI_mx (σ := σ1) (k := m) hqi (by omega)
    have e2 := zgI_mx (σ := σ1) (k := m) hqr (by omega)
    have w1 := j1 m hm
    rw [if_neg (by omega)] at w1
    have w2 := (hK.i (a := 61 + ρ r) (k := m) (hk0 (x := 61 + ρ r) (q := m) (by omega))).trans (rowr m hm)
    have e3 := c_floorMod (σ := σ1) hp2 hp8 (nI (M i m) * nI (M r k) - nI (M r m) * nI (M i k))
    rw [zel_d p hp8 hp2 _ (hM i m hi hm) _ (hM r k hri hk) _ (hM r m hri hm) _ (hM i k hi hk)] at e3
    have e4 : ∀ v, zm_sI zL σ1 (61 + ρ i) (nI m) v = some (zm_wI σ1 (61 + ρ i) m v) := fun v => zsI_mx hqi (by omega)
    have f1 : (nI w ≤ nI m) = False := zd_leF hm (by omega)
    refine zW_of zg_148_30 ?_
    simp only [zb_148_30, zn1, zi_59, Option.bind_some, y3, f1, if_false, zx_59_0 hF1, zm_opt, hg, ypi, e1, w1, hg2, ypr, e2, w2, e3, zm_ai, e4, nI_add, zE_l]
    refine ih _ ⟨fun m' hm' => ?_, hK.wI (by simp)⟩
    rw [zwx]
    by_cases z : m' = m
    · rw [if_pos z, if_pos (by omega), z]
    · rw [if_neg z, j1 m' hm']
      by_cases z2 : m' < m
      · rw [if_pos z2, if_pos (by omega)]
      · rw [if_neg z2, if_neg (by omega)]
  · obtain ⟨j1, hK⟩ := hI
    have hk0 : ∀ {x q}, x ≠ 61 + ρ i → (fun (x : Nat) (_ : Nat) => x == 61 + ρ i) x q = false := fun {x q} hx => by simp [hx]
    have hK0 : zKeep zFx0 σ σ1 := hK.mo fun x q z => by
      simp only [beq_iff_eq] at z
      simp only [zFx0, Bool.or_eq_true, Bool.and_eq_true, decide_eq_true_eq, beq_iff_eq]
      omega
    have hF1 := hK0.fix hF rfl
    have y3 := (hK.i (a := 59) (k := 2) (hk0 (x := 59) (q := 2) (by omega))).trans x3
    refine zW_of zg_148_30 ?_
    simp (disch := first | assumption | omega) only [zn0, zn1, Option.bind_some, zm_ai, zm_al, zm_av, zm_opt, zm_fw, zE_l, zE_r, nI_add, pk_mul, pk_sub, pk_div, pk_rem, zrem, zpm1, zB_i0, zB_i1, zB_ok, zB_T, zB_F, nI_toInt, zT_sub, zT_neg, zT_le, zT_lt, nI_eq, zne1, zne2, zne9, ite_not, or_true, true_or, if_true, if_false, if_pos, if_neg, zw_R, zw_RL, zw_I, zF_R, zw_same, zw_cell, zw_ne, zF_at, zF_ne, ↓zib_0, ↓zib_1, ↓zib_10, ↓zib_17, ↓zib_19, ↓zib_20, ↓zib_30, ↓zib_48, ↓zib_50, ↓zib_52, ↓zib_57, ↓zib_59, ↓zib_80, ↓zib_93, ↓zib_106, ↓zib_110, ↓zib_114, ↓zxb_0_0, ↓zxb_0_1, ↓zxb_0_2, ↓zxb_0_3, ↓zxb_0_4, ↓zxb_0_5, ↓zxb_0_6, ↓zxb_0_7, ↓zxb_0_8, ↓zxb_0_9, ↓zxb_0_10, ↓zxb_1_0, ↓zxb_1_1, ↓zxb_2_0, ↓zxb_2_1, ↓zxb_2_2, ↓zxb_2_3, ↓zxb_2_4, ↓zxb_2_5, ↓zxb_10_0, ↓zxb_10_1, ↓zxb_11_0, ↓zxb_11_1, ↓zxb_11_2, ↓zxb_11_3, ↓zxb_17_0, ↓zxb_19_0, ↓zxb_19_1, ↓zxb_19_2, ↓zxb_20_0, ↓zxb_20_1, ↓zxb_20_3, ↓zxb_20_4, ↓zxb_20_5, ↓zxb_20_6, ↓zxb_20_7, ↓zxb_20_8, ↓zxb_20_9, ↓zxb_30_0, ↓zxb_30_1, ↓zxb_30_4, ↓zxb_30_5, ↓zxb_48_0, ↓zxb_50_0, ↓zxb_52_0, ↓zxb_52_1, ↓zxb_52_2, ↓zxb_56_0, ↓zxb_56_1, ↓zxb_56_2, ↓zxb_57_0, ↓zxb_59_0, ↓zxb_80_3, ↓zxb_80_4, ↓zxb_80_5, ↓zxb_81_0, ↓zxb_81_1, ↓zxb_81_2, ↓zxb_81_3, ↓zxb_81_4, ↓zxb_81_5, ↓zxb_88_0, ↓zxb_88_1, ↓zxb_88_2, ↓zxb_93_3, ↓zxb_93_4, ↓zxb_93_5, ↓zxb_94_0, ↓zxb_94_1, ↓zxb_94_2, ↓zxb_94_3, ↓zxb_94_4, ↓zxb_94_5, ↓zxb_101_0, ↓zxb_101_1, ↓zxb_101_2, ↓zxb_106_0, ↓zxb_106_1, ↓zxb_106_2, ↓zxb_110_0, ↓zxb_110_1, ↓zxb_110_2, ↓zxb_114_0, ↓zxb_114_1, ↓zxb_114_2, ↓zgb_9, ↓zsb_9, ↓zgb_16, ↓zsb_16, ↓zgb_18, ↓zsb_18, ↓zgb_21, ↓zsb_21, ↓zgb_22, ↓zsb_22, ↓zgb_23, ↓zsb_23, ↓zgb_24, ↓zsb_24, ↓zgb_25, ↓zsb_25, ↓zgb_26, ↓zsb_26, ↓zgb_27, ↓zsb_27, ↓zgb_28, ↓zsb_28, ↓zgb_29, ↓zsb_29, ↓zgb_47, ↓zsb_47, ↓zgb_49, ↓zsb_49, ↓zgb_51, ↓zsb_51, ↓zgb_53, ↓zsb_53, ↓zgb_54, ↓zsb_54, ↓zgb_55, ↓zsb_55, ↓zgb_58, ↓zsb_58, ↓zgb_76, ↓zsb_76, ↓zgb_79, ↓zsb_79, zi_0, zi_1, zi_10, zi_17, zi_19, zi_20, zi_30, zi_48, zi_50, zi_52, zi_57, zi_59, zi_80, zi_93, zi_106, zi_110, zi_114, zx_0_0, zx_0_1, zx_0_2, zx_0_3, zx_0_4, zx_0_5, zx_0_6, zx_0_7, zx_0_8, zx_0_9, zx_0_10, zx_1_0, zx_1_1, zx_2_0, zx_2_1, zx_2_2, zx_2_3, zx_2_4, zx_2_5, zx_10_0, zx_10_1, zx_11_0, zx_11_1, zx_11_2, zx_11_3, zx_17_0, zx_19_0, zx_19_1, zx_19_2, zx_20_0, zx_20_1, zx_20_3, zx_20_4, zx_20_5, zx_20_6, zx_20_7, zx_20_8, zx_20_9, zx_30_0, zx_30_1, zx_30_4, zx_30_5, zx_48_0, zx_50_0, zx_52_0, zx_52_1, zx_52_2, zx_56_0, zx_56_1, zx_56_2, zx_57_0, zx_59_0, zx_80_3, zx_80_4, zx_80_5, zx_81_0, zx_81_1, zx_81_2, zx_81_3, zx_81_4, zx_81_5, zx_88_0, zx_88_1, zx_88_2, zx_93_3, zx_93_4, zx_93_5, zx_94_0, zx_94_1, zx_94_2, zx_94_3, zx_94_4, zx_94_5, zx_101_0, zx_101_1, zx_101_2, zx_106_0, zx_106_1, zx_106_2, zx_110_0, zx_110_1, zx_110_2, zx_114_0, zx_114_1, zx_114_2, zgI_9, zsI_9, zgI_16, zsI_16, zgI_18, zsI_18, zgI_21, zsI_21, zgI_22, zsI_22, zgI_23, zsI_23, zgI_24, zsI_24, zgI_25, zsI_25, zgI_26, zsI_26, zgI_27, zsI_27, zgI_28, zsI_28, zgI_29, zsI_29, zgI_47, zsI_47, zgI_49, zsI_49, zgI_51, zsI_51, zgI_53, zsI_53, zgI_54, zsI_54, zgI_55, zsI_55, zgI_58, zsI_58, zgI_76, zsI_76, zgI_79, zsI_79, zb_148_30, y3]
    refine ⟨σ1, rfl, ⟨x1.k0 hK0, (hK.i (a := 59) (k := 1) (hk0 (x := 59) (q := 1) (by omega))).trans x2, y3, fun j m hj hm => ?_⟩, hK0⟩
    by_cases z : j = i
    · subst z
      rw [j1 m hm, if_pos hm]
      show _ = nI (zce p M r k (j + 1) j m)
      unfold zce
      rw [if_pos (by omega)]
    · rw [hK.i (a := 61 + ρ j) (k := m) (hk0 (x := 61 + ρ j) (q := m) (fun q => z (x1.2.2 j i (by omega) (by omega) (by omega)))), x4 j m hj hm]
      show nI (zce p M r k i j m) = nI (zce p M r k (i + 1) j m)
      unfold zce
      by_cases z2 : r < j ∧ j < i
      · rw [if_pos z2, if_pos (by omega)]
      · rw [if_neg z2, if_neg (by omega)]
theorem zce_0 (p : Nat) (M : Nat → Nat → Nat) (r k : Nat) : zce p M r k (r + 1) = M := by
  funext b m
  unfold zce
  rw [if_neg (by omega)]
theorem c_rankBy {V : Nat → Nat → Int32} (hF : zFix σ) (hh : h ≤ 15) (hw : w ≤ 15) (hp2 : 2 ≤ p) (hp8 : p < 8) (hX : zMx σ ρ h w V) (hV : ∀ i m, i < h → m < w → -40 ≤ (V i m).toInt ∧ (V i m).toInt ≤ 40) : ∃ σ', zM 145 [.ref 59, .int (nI p)] zL σ = some (some (.int (nI (zrk p h (fun i m => zfv p (V i m)) w).1)), zL, σ') ∧ (∃ ρ', zPm σ' ρ') ∧ zKeep zFxm σ σ' := by
  generalize hM : (fun i m => zfv p (V i m)) = M
  have hL : zLm p h w M := fun i m hi hm => by
    rw [← hM]
    exact (zfv_ok hp2 hp8 (hV i m hi hm).1 (hV i m hi hm).2).2.1
  refine zS_ex (zS_of ze_145 ?_)
  simp (disch := first | assumption | omega) only [zn0, zn1, Option.bind_some, zm_ai, zm_al, zm_av, zm_opt, zm_fw, zE_l, zE_r, nI_add, pk_mul, pk_sub, pk_div, pk_rem, zrem, zpm1, zB_i0, zB_i1, zB_ok, zB_T, zB_F, nI_toInt, zT_sub, zT_neg, zT_le, zT_lt, nI_eq, zne1, zne2, zne9, ite_not, or_true, true_or, if_true, if_false, if_pos, if_neg, zw_R, zw_RL, zw_I, zF_R, zw_same, zw_cell, zw_ne, zF_at, zF_ne, ↓zib_0, ↓zib_1, ↓zib_10, ↓zib_17, ↓zib_19, ↓zib_20, ↓zib_30, ↓zib_48, ↓zib_50, ↓zib_52, ↓zib_57, ↓zib_59, ↓zib_80, ↓zib_93, ↓zib_106, ↓zib_110, ↓zib_114, ↓zxb_0_0, ↓zxb_0_1, ↓zxb_0_2, ↓zxb_0_3, ↓zxb_0_4, ↓zxb_0_5, ↓zxb_0_6, ↓zxb_0_7, ↓zxb_0_8, ↓zxb_0_9, ↓zxb_0_10, ↓zxb_1_0, ↓zxb_1_1, ↓zxb_2_0, ↓zxb_2_1, ↓zxb_2_2, ↓zxb_2_3, ↓zxb_2_4, ↓zxb_2_5, ↓zxb_10_0, ↓zxb_10_1, ↓zxb_11_0, ↓zxb_11_1, ↓zxb_11_2, ↓zxb_11_3, ↓zxb_17_0, ↓zxb_19_0, ↓zxb_19_1, ↓zxb_19_2, ↓zxb_20_0, ↓zxb_20_1, ↓zxb_20_3, ↓zxb_20_4, ↓zxb_20_5, ↓zxb_20_6, ↓zxb_20_7, ↓zxb_20_8, ↓zxb_20_9, ↓zxb_30_0, ↓zxb_30_1, ↓zxb_30_4, ↓zxb_30_5, ↓zxb_48_0, ↓zxb_50_0, ↓zxb_52_0, ↓zxb_52_1, ↓zxb_52_2, ↓zxb_56_0, ↓zxb_56_1, ↓zxb_56_2, ↓zxb_57_0, ↓zxb_59_0, ↓zxb_80_3, ↓zxb_80_4, ↓zxb_80_5, ↓zxb_81_0, ↓zxb_81_1, ↓zxb_81_2, ↓zxb_81_3, ↓zxb_81_4, ↓zxb_81_5, ↓zxb_88_0, ↓zxb_88_1, ↓zxb_88_2, ↓zxb_93_3, ↓zxb_93_4, ↓zxb_93_5, ↓zxb_94_0, ↓zxb_94_1, ↓zxb_94_2, ↓zxb_94_3, ↓zxb_94_4, ↓zxb_94_5, ↓zxb_101_0, ↓zxb_101_1, ↓zxb_101_2, ↓zxb_106_0, ↓zxb_106_1, ↓zxb_106_2, ↓zxb_110_0, ↓zxb_110_1, ↓zxb_110_2, ↓zxb_114_0, ↓zxb_114_1, ↓zxb_114_2, ↓zgb_9, ↓zsb_9, ↓zgb_16, ↓zsb_16, ↓zgb_18, ↓zsb_18, ↓zgb_21, ↓zsb_21, ↓zgb_22, ↓zsb_22, ↓zgb_23, ↓zsb_23, ↓zgb_24, ↓zsb_24, ↓zgb_25, ↓zsb_25, ↓zgb_26, ↓zsb_26, ↓zgb_27, ↓zsb_27, ↓zgb_28, ↓zsb_28, ↓zgb_29, ↓zsb_29, ↓zgb_47, ↓zsb_47, ↓zgb_49, ↓zsb_49, ↓zgb_51, ↓zsb_51, ↓zgb_53, ↓zsb_53, ↓zgb_54, ↓zsb_54, ↓zgb_55, ↓zsb_55, ↓zgb_58, ↓zsb_58, ↓zgb_76, ↓zsb_76, ↓zgb_79, ↓zsb_79, zi_0, zi_1, zi_10, zi_17, zi_19, zi_20, zi_30, zi_48, zi_50, zi_52, zi_57, zi_59, zi_80, zi_93, zi_106, zi_110, zi_114, zx_0_0, zx_0_1, zx_0_2, zx_0_3, zx_0_4, zx_0_5, zx_0_6, zx_0_7, zx_0_8, zx_0_9, zx_0_10, zx_1_0, zx_1_1, zx_2_0, zx_2_1, zx_2_2, zx_2_3, zx_2_4, zx_2_5, zx_10_0, zx_10_1, zx_11_0, zx_11_1, zx_11_2, zx_11_3, zx_17_0, zx_19_0, zx_19_1, zx_19_2, zx_20_0, zx_20_1, zx_20_3, zx_20_4, zx_20_5, zx_20_6, zx_20_7, zx_20_8, zx_20_9, zx_30_0, zx_30_1, zx_30_4, zx_30_5, zx_48_0, zx_50_0, zx_52_0, zx_52_1, zx_52_2, zx_56_0, zx_56_1, zx_56_2, zx_57_0, zx_59_0, zx_80_3, zx_80_4, zx_80_5, zx_81_0, zx_81_1, zx_81_2, zx_81_3, zx_81_4, zx_81_5, zx_88_0, zx_88_1, zx_88_2, zx_93_3, zx_93_4, zx_93_5, zx_94_0, zx_94_1, zx_94_2, zx_94_3, zx_94_4, zx_94_5, zx_101_0, zx_101_1, zx_101_2, zx_106_0, zx_106_1, zx_106_2, zx_110_0, zx_110_1, zx_110_2, zx_114_0, zx_114_1, zx_114_2, zgI_9, zsI_9, zgI_16, zsI_16, zgI_18, zsI_18, zgI_21, zsI_21, zgI_22, zsI_22, zgI_23, zsI_23, zgI_24, zsI_24, zgI_25, zsI_25, zgI_26, zsI_26, zgI_27, zsI_27, zgI_28, zsI_28, zgI_29, zsI_29, zgI_47, zsI_47, zgI_49, zsI_49, zgI_51, zsI_51, zgI_53, zsI_53, zgI_54, zsI_54, zgI_55, zsI_55, zgI_58, zsI_58, zgI_76, zsI_76, zgI_79, zsI_79, zb_145_0]
  refine c_norm hF hh hw hp2 hp8 hX hV _ fun σ0 hX0 hK0 => ?_
  have hX0 : zMx σ0 ρ h w (zMn M) := by rw [← hM]; exact hX0
  have stop : ∀ k σ1, k ≤ w → (∃ ρ1, zMx σ1 ρ1 h w (zMn (zrk p h M k).2)) → zKeep zFxm σ σ1 → (k = w ∨ h ≤ (zrk p h M k).1) → ∃ σ', ((some (.int (nI (zrk p h M k).1)), zL, σ1) : zm_Out) = (some (.int (nI (zrk p h M w).1)), zL, σ') ∧ (∃ ρ', zPm σ' ρ') ∧ zKeep zFxm σ σ' := by
    intro k σ1 hk hx hK1 hend
    obtain ⟨ρ1, hx⟩ := hx
    have : (zrk p h M k).1 = (zrk p h M w).1 := by
      rcases hend with e | e
      · rw [e]
      · have := zrk_full e (w - k)
        rw [show k + (w - k) = w by omega] at this
        rw [this]
    rw [this]
    exact ⟨σ1, rfl, ⟨ρ1, hx.1⟩, hK1⟩
  refine zloop (fun k σ1 => (63, [(0, .ref 59), (1, .int (nI p)), (2, .int (nI (zrk p h M k).1)), (3, .int (nI k))], [], zL, σ1, 0, 0)) (fun k σ1 => (∃ ρ1, zMx σ1 ρ1 h w (zMn (zrk p h M k).2)) ∧ zKeep zFxm σ σ1) w (fun k σ1 hk hI ih => ?_) (fun σ1 hI => ?_) 0 σ0 (by omega) ⟨⟨ρ, hX0⟩, zFx0_m hK0⟩
  · obtain ⟨⟨ρ1, hx⟩, hK1⟩ := hI
    have hF1 := hK1.fix hF rfl
    obtain ⟨l1, l2, l3⟩ := zrk_ok (by omega) hL k
    have x2 := hx.2.1
    have x3 := hx.2.2.1
    by_cases hr : h ≤ (zrk p h M k).1
    · refine zW_of zg_145_63 ?_
      simp (disch := first | assumption | omega) only [zn0, zn1, Option.bind_some, zm_ai, zm_al, zm_av, zm_opt, zm_fw, zE_l, zE_r, nI_add, pk_mul, pk_sub, pk_div, pk_rem, zrem, zpm1, zB_i0, zB_i1, zB_ok, zB_T, zB_F, nI_toInt, zT_sub, zT_neg, zT_le, zT_lt, nI_eq, zne1, zne2, zne9, ite_not, or_true, true_or, if_true, if_false, if_pos, if_neg, zw_R, zw_RL, zw_I, zF_R, zw_same, zw_cell, zw_ne, zF_at, zF_ne, ↓zib_0, ↓zib_1, ↓zib_10, ↓zib_17, ↓zib_19, ↓zib_20, ↓zib_30, ↓zib_48, ↓zib_50, ↓zib_52, ↓zib_57, ↓zib_59, ↓zib_80, ↓zib_93, ↓zib_106, ↓zib_110, ↓zib_114, ↓zxb_0_0, ↓zxb_0_1, ↓zxb_0_2, ↓zxb_0_3, ↓zxb_0_4, ↓zxb_0_5, ↓zxb_0_6, ↓zxb_0_7, ↓zxb_0_8, ↓zxb_0_9, ↓zxb_0_10, ↓zxb_1_0, ↓zxb_1_1, ↓zxb_2_0, ↓zxb_2_1, ↓zxb_2_2, ↓zxb_2_3, ↓zxb_2_4, ↓zxb_2_5, ↓zxb_10_0, ↓zxb_10_1, ↓zxb_11_0, ↓zxb_11_1, ↓zxb_11_2, ↓zxb_11_3, ↓zxb_17_0, ↓zxb_19_0, ↓zxb_19_1, ↓zxb_19_2, ↓zxb_20_0, ↓zxb_20_1, ↓zxb_20_3, ↓zxb_20_4, ↓zxb_20_5, ↓zxb_20_6, ↓zxb_20_7, ↓zxb_20_8, ↓zxb_20_9, ↓zxb_30_0, ↓zxb_30_1, ↓zxb_30_4, ↓zxb_30_5, ↓zxb_48_0, ↓zxb_50_0, ↓zxb_52_0, ↓zxb_52_1, ↓zxb_52_2, ↓zxb_56_0, ↓zxb_56_1, ↓zxb_56_2, ↓zxb_57_0, ↓zxb_59_0, ↓zxb_80_3, ↓zxb_80_4, ↓zxb_80_5, ↓zxb_81_0, ↓zxb_81_1, ↓zxb_81_2, ↓zxb_81_3, ↓zxb_81_4, ↓zxb_81_5, ↓zxb_88_0, ↓zxb_88_1, ↓zxb_88_2, ↓zxb_93_3, ↓zxb_93_4, ↓zxb_93_5, ↓zxb_94_0, ↓zxb_94_1, ↓zxb_94_2, ↓zxb_94_3, ↓zxb_94_4, ↓zxb_94_5, ↓zxb_101_0, ↓zxb_101_1, ↓zxb_101_2, ↓zxb_106_0, ↓zxb_106_1, ↓zxb_106_2, ↓zxb_110_0, ↓zxb_110_1, ↓zxb_110_2, ↓zxb_114_0, ↓zxb_114_1, ↓zxb_114_2, ↓zgb_9, ↓zsb_9, ↓zgb_16, ↓zsb_16, ↓zgb_18, ↓zsb_18, ↓zgb_21, ↓zsb_21, ↓zgb_22, ↓zsb_22, ↓zgb_23, ↓zsb_23, ↓zgb_24, ↓zsb_24, ↓zgb_25, ↓zsb_25, ↓zgb_26, ↓zsb_26, ↓zgb_27, ↓zsb_27, ↓zgb_28, ↓zsb_28, ↓zgb_29, ↓zsb_29, ↓zgb_47, ↓zsb_47, ↓zgb_49, ↓zsb_49, ↓zgb_51, ↓zsb_51, ↓zgb_53, ↓zsb_53, ↓zgb_54, ↓zsb_54, ↓zgb_55, ↓zsb_55, ↓zgb_58, ↓zsb_58, ↓zgb_76, ↓zsb_76, ↓zgb_79, ↓zsb_79, zi_0, zi_1, zi_10, zi_17, zi_19, zi_20, zi_30, zi_48, zi_50, zi_52, zi_57, zi_59, zi_80, zi_93, zi_106, zi_110, zi_114, zx_0_0, zx_0_1, zx_0_2, zx_0_3, zx_0_4, zx_0_5, zx_0_6, zx_0_7, zx_0_8, zx_0_9, zx_0_10, zx_1_0, zx_1_1, zx_2_0, zx_2_1, zx_2_2, zx_2_3, zx_2_4, zx_2_5, zx_10_0, zx_10_1, zx_11_0, zx_11_1, zx_11_2, zx_11_3, zx_17_0, zx_19_0, zx_19_1, zx_19_2, zx_20_0, zx_20_1, zx_20_3, zx_20_4, zx_20_5, zx_20_6, zx_20_7, zx_20_8, zx_20_9, zx_30_0, zx_30_1, zx_30_4, zx_30_5, zx_48_0, zx_50_0, zx_52_0, zx_52_1, zx_52_2, zx_56_0, zx_56_1, zx_56_2, zx_57_0, zx_59_0, zx_80_3, zx_80_4, zx_80_5, zx_81_0, zx_81_1, zx_81_2, zx_81_3, zx_81_4, zx_81_5, zx_88_0, zx_88_1, zx_88_2, zx_93_3, zx_93_4, zx_93_5, zx_94_0, zx_94_1, zx_94_2, zx_94_3, zx_94_4, zx_94_5, zx_101_0, zx_101_1, zx_101_2, zx_106_0, zx_106_1, zx_106_2, zx_110_0, zx_110_1, zx_110_2, zx_114_0, zx_114_1, zx_114_2, zgI_9, zsI_9, zgI_16, zsI_16, zgI_18, zsI_18, zgI_21, zsI_21, zgI_22, zsI_22, zgI_23, zsI_23, zgI_24, zsI_24, zgI_25, zsI_25, zgI_26, zsI_26, zgI_27, zsI_27, zgI_28, zsI_28, zgI_29, zsI_29, zgI_47, zsI_47, zgI_49, zsI_49, zgI_51, zsI_51, zgI_53, zsI_53, zgI_54, zsI_54, zgI_55, zsI_55, zgI_58, zsI_58, zgI_76, zsI_76, zgI_79, zsI_79, zb_145_63, x2, x3]
      exact stop k σ1 (by omega) ⟨ρ1, hx⟩ hK1 (Or.inr hr)
    · have hr : (zrk p h M k).1 < h := by omega
      obtain ⟨σ2, e2, ⟨ρ2, hx2⟩, hK2⟩ := c_bringUp hF1 hh hw hp8 hx l1 hr hk
      have hss : zrk p h M (k + 1) = zcl2 p h (zrk p h M k) k (zpv (zrk p h M k).2 h k (zrk p h M k).1) := rfl
      have hF2 := (hK1.tr hK2).fix hF rfl
      refine zW_of zg_145_63 ?_
      cases e : zpv (zrk p h M k).2 h k (zrk p h M k).1 with
      | none =>
        rw [e] at e2 hx2 hss
        have ih := ih σ2
        rw [hss] at ih
        simp (disch := first | assumption | omega) only [zn0, zn1, Option.bind_some, zm_ai, zm_al, zm_av, zm_opt, zm_fw, zE_l, zE_r, nI_add, pk_mul, pk_sub, pk_div, pk_rem, zrem, zpm1, zB_i0, zB_i1, zB_ok, zB_T, zB_F, nI_toInt, zT_sub, zT_neg, zT_le, zT_lt, nI_eq, zne1, zne2, zne9, ite_not, or_true, true_or, if_true, if_false, if_pos, if_neg, zw_R, zw_RL, zw_I, zF_R, zw_same, zw_cell, zw_ne, zF_at, zF_ne, ↓zib_0, ↓zib_1, ↓zib_10, ↓zib_17, ↓zib_19, ↓zib_20, ↓zib_30, ↓zib_48, ↓zib_50, ↓zib_52, ↓zib_57, ↓zib_59, ↓zib_80, ↓zib_93, ↓zib_106, ↓zib_110, ↓zib_114, ↓zxb_0_0, ↓zxb_0_1, ↓zxb_0_2, ↓zxb_0_3, ↓zxb_0_4, ↓zxb_0_5, ↓zxb_0_6, ↓zxb_0_7, ↓zxb_0_8, ↓zxb_0_9, ↓zxb_0_10, ↓zxb_1_0, ↓zxb_1_1, ↓zxb_2_0, ↓zxb_2_1, ↓zxb_2_2, ↓zxb_2_3, ↓zxb_2_4, ↓zxb_2_5, ↓zxb_10_0, ↓zxb_10_1, ↓zxb_11_0, ↓zxb_11_1, ↓zxb_11_2, ↓zxb_11_3, ↓zxb_17_0, ↓zxb_19_0, ↓zxb_19_1, ↓zxb_19_2, ↓zxb_20_0, ↓zxb_20_1, ↓zxb_20_3, ↓zxb_20_4, ↓zxb_20_5, ↓zxb_20_6, ↓zxb_20_7, ↓zxb_20_8, ↓zxb_20_9, ↓zxb_30_0, ↓zxb_30_1, ↓zxb_30_4, ↓zxb_30_5, ↓zxb_48_0, ↓zxb_50_0, ↓zxb_52_0, ↓zxb_52_1, ↓zxb_52_2, ↓zxb_56_0, ↓zxb_56_1, ↓zxb_56_2, ↓zxb_57_0, ↓zxb_59_0, ↓zxb_80_3, ↓zxb_80_4, ↓zxb_80_5, ↓zxb_81_0, ↓zxb_81_1, ↓zxb_81_2, ↓zxb_81_3, ↓zxb_81_4, ↓zxb_81_5, ↓zxb_88_0, ↓zxb_88_1, ↓zxb_88_2, ↓zxb_93_3, ↓zxb_93_4, ↓zxb_93_5, ↓zxb_94_0, ↓zxb_94_1, ↓zxb_94_2, ↓zxb_94_3, ↓zxb_94_4, ↓zxb_94_5, ↓zxb_101_0, ↓zxb_101_1, ↓zxb_101_2, ↓zxb_106_0, ↓zxb_106_1, ↓zxb_106_2, ↓zxb_110_0, ↓zxb_110_1, ↓zxb_110_2, ↓zxb_114_0, ↓zxb_114_1, ↓zxb_114_2, ↓zgb_9, ↓zsb_9, ↓zgb_16, ↓zsb_16, ↓zgb_18, ↓zsb_18, ↓zgb_21, ↓zsb_21, ↓zgb_22, ↓zsb_22, ↓zgb_23, ↓zsb_23, ↓zgb_24, ↓zsb_24, ↓zgb_25, ↓zsb_25, ↓zgb_26, ↓zsb_26, ↓zgb_27, ↓zsb_27, ↓zgb_28, ↓zsb_28, ↓zgb_29, ↓zsb_29, ↓zgb_47, ↓zsb_47, ↓zgb_49, ↓zsb_49, ↓zgb_51, ↓zsb_51, ↓zgb_53, ↓zsb_53, ↓zgb_54, ↓zsb_54, ↓zgb_55, ↓zsb_55, ↓zgb_58, ↓zsb_58, ↓zgb_76, ↓zsb_76, ↓zgb_79, ↓zsb_79, zi_0, zi_1, zi_10, zi_17, zi_19, zi_20, zi_30, zi_48, zi_50, zi_52, zi_57, zi_59, zi_80, zi_93, zi_106, zi_110, zi_114, zx_0_0, zx_0_1, zx_0_2, zx_0_3, zx_0_4, zx_0_5, zx_0_6, zx_0_7, zx_0_8, zx_0_9, zx_0_10, zx_1_0, zx_1_1, zx_2_0, zx_2_1, zx_2_2, zx_2_3, zx_2_4, zx_2_5, zx_10_0, zx_10_1, zx_11_0, zx_11_1, zx_11_2, zx_11_3, zx_17_0, zx_19_0, zx_19_1, zx_19_2, zx_20_0, zx_20_1, zx_20_3, zx_20_4, zx_20_5, zx_20_6, zx_20_7, zx_20_8, zx_20_9, zx_30_0, zx_30_1, zx_30_4, zx_30_5, zx_48_0, zx_50_0, zx_52_0, zx_52_1, zx_52_2, zx_56_0, zx_56_1, zx_56_2, zx_57_0, zx_59_0, zx_80_3, zx_80_4, zx_80_5, zx_81_0, zx_81_1, zx_81_2, zx_81_3, zx_81_4, zx_81_5, zx_88_0, zx_88_1, zx_88_2, zx_93_3, zx_93_4, zx_93_5, zx_94_0, zx_94_1, zx_94_2, zx_94_3, zx_94_4, zx_94_5, zx_101_0, zx_101_1, zx_101_2, zx_106_0, zx_106_1, zx_106_2, zx_110_0, zx_110_1, zx_110_2, zx_114_0, zx_114_1, zx_114_2, zgI_9, zsI_9, zgI_16, zsI_16, zgI_18, zsI_18, zgI_21, zsI_21, zgI_22, zsI_22, zgI_23, zsI_23, zgI_24, zsI_24, zgI_25, zsI_25, zgI_26, zsI_26, zgI_27, zsI_27, zgI_28, zsI_28, zgI_29, zsI_29, zgI_47, zsI_47, zgI_49, zsI_49, zgI_51, zsI_51, zgI_53, zsI_53, zgI_54, zsI_54, zgI_55, zsI_55, zgI_58, zsI_58, zgI_76, zsI_76, zgI_79, zsI_79, zb_145_63, x2, x3, e2, not_true]
        exact ih ⟨⟨ρ2, hx2⟩, hK1.tr hK2⟩
      | some i =>
        obtain ⟨a1, a2, a3⟩ := zpv_sp e
        rw [e] at e2 hx2 hss
        have hx2 : zMx σ2 ρ2 h w (zMn (zsw (zrk p h M k).2 i (zrk p h M k).1)) := hx2
        have ih : ∀ σ', zMx σ' ρ2 h w (zMn (zce p (zsw (zrk p h M k).2 i (zrk p h M k).1) (zrk p h M k).1 k h)) → zKeep zFxm σ σ' → zW 145 (63, [(0, .ref 59), (1, .int (nI p)), (2, .int (nI ((zrk p h M k).1 + 1))), (3, .int (nI (k + 1)))], [], zL, σ', 0, 0) _ := fun σ' q1 q2 => by
          have := ih σ'
          rw [hss] at this
          exact this ⟨⟨ρ2, q1⟩, q2⟩
        have hLs := zsw_lm l1 a1 hr
        generalize (zrk p h M k).1 = r at *
        generalize zsw (zrk p h M k).2 i r = Ms at *
        have e2 : zM 147 [.ref 59, .int (nI r), .int (nI k)] zL σ1 = some (some (.int (nI 1)), zL, σ2) := e2
        simp (disch := first | assumption | omega) only [zn0, zn1, Option.bind_some, zm_ai, zm_al, zm_av, zm_opt, zm_fw, zE_l, zE_r, nI_add, pk_mul, pk_sub, pk_div, pk_rem, zrem, zpm1, zB_i0, zB_i1, zB_ok, zB_T, zB_F, nI_toInt, zT_sub, zT_neg, zT_le, zT_lt, nI_eq, zne1, zne2, zne9, ite_not, or_true, true_or, if_true, if_false, if_pos, if_neg, zw_R, zw_RL, zw_I, zF_R, zw_same, zw_cell, zw_ne, zF_at, zF_ne, ↓zib_0, ↓zib_1, ↓zib_10, ↓zib_17, ↓zib_19, ↓zib_20, ↓zib_30, ↓zib_48, ↓zib_50, ↓zib_52, ↓zib_57, ↓zib_59, ↓zib_80, ↓zib_93, ↓zib_106, ↓zib_110, ↓zib_114, ↓zxb_0_0, ↓zxb_0_1, ↓zxb_0_2, ↓zxb_0_3, ↓zxb_0_4, ↓zxb_0_5, ↓zxb_0_6, ↓zxb_0_7, ↓zxb_0_8, ↓zxb_0_9, ↓zxb_0_10, ↓zxb_1_0, ↓zxb_1_1, ↓zxb_2_0, ↓zxb_2_1, ↓zxb_2_2, ↓zxb_2_3, ↓zxb_2_4, ↓zxb_2_5, ↓zxb_10_0, ↓zxb_10_1, ↓zxb_11_0, ↓zxb_11_1, ↓zxb_11_2, ↓zxb_11_3, ↓zxb_17_0, ↓zxb_19_0, ↓zxb_19_1, ↓zxb_19_2, ↓zxb_20_0, ↓zxb_20_1, ↓zxb_20_3, ↓zxb_20_4, ↓zxb_20_5, ↓zxb_20_6, ↓zxb_20_7, ↓zxb_20_8, ↓zxb_20_9, ↓zxb_30_0, ↓zxb_30_1, ↓zxb_30_4, ↓zxb_30_5, ↓zxb_48_0, ↓zxb_50_0, ↓zxb_52_0, ↓zxb_52_1, ↓zxb_52_2, ↓zxb_56_0, ↓zxb_56_1, ↓zxb_56_2, ↓zxb_57_0, ↓zxb_59_0, ↓zxb_80_3, ↓zxb_80_4, ↓zxb_80_5, ↓zxb_81_0, ↓zxb_81_1, ↓zxb_81_2, ↓zxb_81_3, ↓zxb_81_4, ↓zxb_81_5, ↓zxb_88_0, ↓zxb_88_1, ↓zxb_88_2, ↓zxb_93_3, ↓zxb_93_4, ↓zxb_93_5, ↓zxb_94_0, ↓zxb_94_1, ↓zxb_94_2, ↓zxb_94_3, ↓zxb_94_4, ↓zxb_94_5, ↓zxb_101_0, ↓zxb_101_1, ↓zxb_101_2, ↓zxb_106_0, ↓zxb_106_1, ↓zxb_106_2, ↓zxb_110_0, ↓zxb_110_1, ↓zxb_110_2, ↓zxb_114_0, ↓zxb_114_1, ↓zxb_114_2, ↓zgb_9, ↓zsb_9, ↓zgb_16, ↓zsb_16, ↓zgb_18, ↓zsb_18, ↓zgb_21, ↓zsb_21, ↓zgb_22, ↓zsb_22, ↓zgb_23, ↓zsb_23, ↓zgb_24, ↓zsb_24, ↓zgb_25, ↓zsb_25, ↓zgb_26, ↓zsb_26, ↓zgb_27, ↓zsb_27, ↓zgb_28, ↓zsb_28, ↓zgb_29, ↓zsb_29, ↓zgb_47, ↓zsb_47, ↓zgb_49, ↓zsb_49, ↓zgb_51, ↓zsb_51, ↓zgb_53, ↓zsb_53, ↓zgb_54, ↓zsb_54, ↓zgb_55, ↓zsb_55, ↓zgb_58, ↓zsb_58, ↓zgb_76, ↓zsb_76, ↓zgb_79, ↓zsb_79, zi_0, zi_1, zi_10, zi_17, zi_19, zi_20, zi_30, zi_48, zi_50, zi_52, zi_57, zi_59, zi_80, zi_93, zi_106, zi_110, zi_114, zx_0_0, zx_0_1, zx_0_2, zx_0_3, zx_0_4, zx_0_5, zx_0_6, zx_0_7, zx_0_8, zx_0_9, zx_0_10, zx_1_0, zx_1_1, zx_2_0, zx_2_1, zx_2_2, zx_2_3, zx_2_4, zx_2_5, zx_10_0, zx_10_1, zx_11_0, zx_11_1, zx_11_2, zx_11_3, zx_17_0, zx_19_0, zx_19_1, zx_19_2, zx_20_0, zx_20_1, zx_20_3, zx_20_4, zx_20_5, zx_20_6, zx_20_7, zx_20_8, zx_20_9, zx_30_0, zx_30_1, zx_30_4, zx_30_5, zx_48_0, zx_50_0, zx_52_0, zx_52_1, zx_52_2, zx_56_0, zx_56_1, zx_56_2, zx_57_0, zx_59_0, zx_80_3, zx_80_4, zx_80_5, zx_81_0, zx_81_1, zx_81_2, zx_81_3, zx_81_4, zx_81_5, zx_88_0, zx_88_1, zx_88_2, zx_93_3, zx_93_4, zx_93_5, zx_94_0, zx_94_1, zx_94_2, zx_94_3, zx_94_4, zx_94_5, zx_101_0, zx_101_1, zx_101_2, zx_106_0, zx_106_1, zx_106_2, zx_110_0, zx_110_1, zx_110_2, zx_114_0, zx_114_1, zx_114_2, zgI_9, zsI_9, zgI_16, zsI_16, zgI_18, zsI_18, zgI_21, zsI_21, zgI_22, zsI_22, zgI_23, zsI_23, zgI_24, zsI_24, zgI_25, zsI_25, zgI_26, zsI_26, zgI_27, zsI_27, zgI_28, zsI_28, zgI_29, zsI_29, zgI_47, zsI_47, zgI_49, zsI_49, zgI_51, zsI_51, zgI_53, zsI_53, zgI_54, zsI_54, zgI_55, zsI_55, zgI_58, zsI_58, zgI_76, zsI_76, zgI_79, zsI_79, zb_145_63, x2, x3, e2, not_false]
        have start : zMx σ2 ρ2 h w (zMn (zce p Ms r k (r + 1))) := by rw [zce_0]; exact hx2
        have key : ∀ d b σ3, b + d = h → r < b → zMx σ3 ρ2 h w (zMn (zce p Ms r k b)) → zKeep zFxm σ σ3 → zW 145 (96, [(0, .ref 59), (1, .int (nI p)), (2, .int (nI r)), (3, .int (nI k)), (4, .int (nI b))], [], zL, σ3, 0, 0) (fun q => ∃ σ', q = (some (.int (nI (zrk p h M w).1)), zL, σ') ∧ (∃ ρ', zPm σ' ρ') ∧ zKeep zFxm σ σ') := by
          intro d
          induction d with
          | zero =>
            intro b σ3 hb hrb hx3 hK3
            have : b = h := by omega
            subst this
            have hF3 := hK3.fix hF rfl
            have y2 := hx3.2.1
            refine zW_of zg_145_96 ?_
            simp (disch := first | assumption | omega) only [zn0, zn1, Option.bind_some, zm_ai, zm_al, zm_av, zm_opt, zm_fw, zE_l, zE_r, nI_add, pk_mul, pk_sub, pk_div, pk_rem, zrem, zpm1, zB_i0, zB_i1, zB_ok, zB_T, zB_F, nI_toInt, zT_sub, zT_neg, zT_le, zT_lt, nI_eq, zne1, zne2, zne9, ite_not, or_true, true_or, if_true, if_false, if_pos, if_neg, zw_R, zw_RL, zw_I, zF_R, zw_same, zw_cell, zw_ne, zF_at, zF_ne, ↓zib_0, ↓zib_1, ↓zib_10, ↓zib_17, ↓zib_19, ↓zib_20, ↓zib_30, ↓zib_48, ↓zib_50, ↓zib_52, ↓zib_57, ↓zib_59, ↓zib_80, ↓zib_93, ↓zib_106, ↓zib_110, ↓zib_114, ↓zxb_0_0, ↓zxb_0_1, ↓zxb_0_2, ↓zxb_0_3, ↓zxb_0_4, ↓zxb_0_5, ↓zxb_0_6, ↓zxb_0_7, ↓zxb_0_8, ↓zxb_0_9, ↓zxb_0_10, ↓zxb_1_0, ↓zxb_1_1, ↓zxb_2_0, ↓zxb_2_1, ↓zxb_2_2, ↓zxb_2_3, ↓zxb_2_4, ↓zxb_2_5, ↓zxb_10_0, ↓zxb_10_1, ↓zxb_11_0, ↓zxb_11_1, ↓zxb_11_2, ↓zxb_11_3, ↓zxb_17_0, ↓zxb_19_0, ↓zxb_19_1, ↓zxb_19_2, ↓zxb_20_0, ↓zxb_20_1, ↓zxb_20_3, ↓zxb_20_4, ↓zxb_20_5, ↓zxb_20_6, ↓zxb_20_7, ↓zxb_20_8, ↓zxb_20_9, ↓zxb_30_0, ↓zxb_30_1, ↓zxb_30_4, ↓zxb_30_5, ↓zxb_48_0, ↓zxb_50_0, ↓zxb_52_0, ↓zxb_52_1, ↓zxb_52_2, ↓zxb_56_0, ↓zxb_56_1, ↓zxb_56_2, ↓zxb_57_0, ↓zxb_59_0, ↓zxb_80_3, ↓zxb_80_4, ↓zxb_80_5, ↓zxb_81_0, ↓zxb_81_1, ↓zxb_81_2, ↓zxb_81_3, ↓zxb_81_4, ↓zxb_81_5, ↓zxb_88_0, ↓zxb_88_1, ↓zxb_88_2, ↓zxb_93_3, ↓zxb_93_4, ↓zxb_93_5, ↓zxb_94_0, ↓zxb_94_1, ↓zxb_94_2, ↓zxb_94_3, ↓zxb_94_4, ↓zxb_94_5, ↓zxb_101_0, ↓zxb_101_1, ↓zxb_101_2, ↓zxb_106_0, ↓zxb_106_1, ↓zxb_106_2, ↓zxb_110_0, ↓zxb_110_1, ↓zxb_110_2, ↓zxb_114_0, ↓zxb_114_1, ↓zxb_114_2, ↓zgb_9, ↓zsb_9, ↓zgb_16, ↓zsb_16, ↓zgb_18, ↓zsb_18, ↓zgb_21, ↓zsb_21, ↓zgb_22, ↓zsb_22, ↓zgb_23, ↓zsb_23, ↓zgb_24, ↓zsb_24, ↓zgb_25, ↓zsb_25, ↓zgb_26, ↓zsb_26, ↓zgb_27, ↓zsb_27, ↓zgb_28, ↓zsb_28, ↓zgb_29, ↓zsb_29, ↓zgb_47, ↓zsb_47, ↓zgb_49, ↓zsb_49, ↓zgb_51, ↓zsb_51, ↓zgb_53, ↓zsb_53, ↓zgb_54, ↓zsb_54, ↓zgb_55, ↓zsb_55, ↓zgb_58, ↓zsb_58, ↓zgb_76, ↓zsb_76, ↓zgb_79, ↓zsb_79, zi_0, zi_1, zi_10, zi_17, zi_19, zi_20, zi_30, zi_48, zi_50, zi_52, zi_57, zi_59, zi_80, zi_93, zi_106, zi_110, zi_114, zx_0_0, zx_0_1, zx_0_2, zx_0_3, zx_0_4, zx_0_5, zx_0_6, zx_0_7, zx_0_8, zx_0_9, zx_0_10, zx_1_0, zx_1_1, zx_2_0, zx_2_1, zx_2_2, zx_2_3, zx_2_4, zx_2_5, zx_10_0, zx_10_1, zx_11_0, zx_11_1, zx_11_2, zx_11_3, zx_17_0, zx_19_0, zx_19_1, zx_19_2, zx_20_0, zx_20_1, zx_20_3, zx_20_4, zx_20_5, zx_20_6, zx_20_7, zx_20_8, zx_20_9, zx_30_0, zx_30_1, zx_30_4, zx_30_5, zx_48_0, zx_50_0, zx_52_0, zx_52_1, zx_52_2, zx_56_0, zx_56_1, zx_56_2, zx_57_0, zx_59_0, zx_80_3, zx_80_4, zx_80_5, zx_81_0, zx_81_1, zx_81_2, zx_81_3, zx_81_4, zx_81_5, zx_88_0, zx_88_1, zx_88_2, zx_93_3, zx_93_4, zx_93_5, zx_94_0, zx_94_1, zx_94_2, zx_94_3, zx_94_4, zx_94_5, zx_101_0, zx_101_1, zx_101_2, zx_106_0, zx_106_1, zx_106_2, zx_110_0, zx_110_1, zx_110_2, zx_114_0, zx_114_1, zx_114_2, zgI_9, zsI_9, zgI_16, zsI_16, zgI_18, zsI_18, zgI_21, zsI_21, zgI_22, zsI_22, zgI_23, zsI_23, zgI_24, zsI_24, zgI_25, zsI_25, zgI_26, zsI_26, zgI_27, zsI_27, zgI_28, zsI_28, zgI_29, zsI_29, zgI_47, zsI_47, zgI_49, zsI_49, zgI_51, zsI_51, zgI_53, zsI_53, zgI_54, zsI_54, zgI_55, zsI_55, zgI_58, zsI_58, zgI_76, zsI_76, zgI_79, zsI_79, zb_145_96, y2]
            exact ih σ3 hx3 hK3
          | succ d ihd =>
            intro b σ3 hb hrb hx3 hK3
            have hF3 := hK3.fix hF rfl
            have y2 := hx3.2.1
            obtain ⟨σ4, e4, hx4, hK4⟩ := c_clearBelow hF3 hh hw hp2 hp8 hrb (by omega) hk hLs hx3
            refine zW_of zg_145_96 ?_
            simp (disch := first | assumption | omega) only [zn0, zn1, Option.bind_some, zm_ai, zm_al, zm_av, zm_opt, zm_fw, zE_l, zE_r, nI_add, pk_mul, pk_sub, pk_div, pk_rem, zrem, zpm1, zB_i0, zB_i1, zB_ok, zB_T, zB_F, nI_toInt, zT_sub, zT_neg, zT_le, zT_lt, nI_eq, zne1, zne2, zne9, ite_not, or_true, true_or, if_true, if_false, if_pos, if_neg, zw_R, zw_RL, zw_I, zF_R, zw_same, zw_cell, zw_ne, zF_at, zF_ne, ↓zib_0, ↓zib_1, ↓zib_10, ↓zib_17, ↓zib_19, ↓zib_20, ↓zib_30, ↓zib_48, ↓zib_50, ↓zib_52, ↓zib_57, ↓zib_59, ↓zib_80, ↓zib_93, ↓zib_106, ↓zib_110, ↓zib_114, ↓zxb_0_0, ↓zxb_0_1, ↓zxb_0_2, ↓zxb_0_3, ↓zxb_0_4, ↓zxb_0_5, ↓zxb_0_6, ↓zxb_0_7, ↓zxb_0_8, ↓zxb_0_9, ↓zxb_0_10, ↓zxb_1_0, ↓zxb_1_1, ↓zxb_2_0, ↓zxb_2_1, ↓zxb_2_2, ↓zxb_2_3, ↓zxb_2_4, ↓zxb_2_5, ↓zxb_10_0, ↓zxb_10_1, ↓zxb_11_0, ↓zxb_11_1, ↓zxb_11_2, ↓zxb_11_3, ↓zxb_17_0, ↓zxb_19_0, ↓zxb_19_1, ↓zxb_19_2, ↓zxb_20_0, ↓zxb_20_1, ↓zxb_20_3, ↓zxb_20_4, ↓zxb_20_5, ↓zxb_20_6, ↓zxb_20_7, ↓zxb_20_8, ↓zxb_20_9, ↓zxb_30_0, ↓zxb_30_1, ↓zxb_30_4, ↓zxb_30_5, ↓zxb_48_0, ↓zxb_50_0, ↓zxb_52_0, ↓zxb_52_1, ↓zxb_52_2, ↓zxb_56_0, ↓zxb_56_1, ↓zxb_56_2, ↓zxb_57_0, ↓zxb_59_0, ↓zxb_80_3, ↓zxb_80_4, ↓zxb_80_5, ↓zxb_81_0, ↓zxb_81_1, ↓zxb_81_2, ↓zxb_81_3, ↓zxb_81_4, ↓zxb_81_5, ↓zxb_88_0, ↓zxb_88_1, ↓zxb_88_2, ↓zxb_93_3, ↓zxb_93_4, ↓zxb_93_5, ↓zxb_94_0, ↓zxb_94_1, ↓zxb_94_2, ↓zxb_94_3, ↓zxb_94_4, ↓zxb_94_5, ↓zxb_101_0, ↓zxb_101_1, ↓zxb_101_2, ↓zxb_106_0, ↓zxb_106_1, ↓zxb_106_2, ↓zxb_110_0, ↓zxb_110_1, ↓zxb_110_2, ↓zxb_114_0, ↓zxb_114_1, ↓zxb_114_2, ↓zgb_9, ↓zsb_9, ↓zgb_16, ↓zsb_16, ↓zgb_18, ↓zsb_18, ↓zgb_21, ↓zsb_21, ↓zgb_22, ↓zsb_22, ↓zgb_23, ↓zsb_23, ↓zgb_24, ↓zsb_24, ↓zgb_25, ↓zsb_25, ↓zgb_26, ↓zsb_26, ↓zgb_27, ↓zsb_27, ↓zgb_28, ↓zsb_28, ↓zgb_29, ↓zsb_29, ↓zgb_47, ↓zsb_47, ↓zgb_49, ↓zsb_49, ↓zgb_51, ↓zsb_51, ↓zgb_53, ↓zsb_53, ↓zgb_54, ↓zsb_54, ↓zgb_55, ↓zsb_55, ↓zgb_58, ↓zsb_58, ↓zgb_76, ↓zsb_76, ↓zgb_79, ↓zsb_79, zi_0, zi_1, zi_10, zi_17, zi_19, zi_20, zi_30, zi_48, zi_50, zi_52, zi_57, zi_59, zi_80, zi_93, zi_106, zi_110, zi_114, zx_0_0, zx_0_1, zx_0_2, zx_0_3, zx_0_4, zx_0_5, zx_0_6, zx_0_7, zx_0_8, zx_0_9, zx_0_10, zx_1_0, zx_1_1, zx_2_0, zx_2_1, zx_2_2, zx_2_3, zx_2_4, zx_2_5, zx_10_0, zx_10_1, zx_11_0, zx_11_1, zx_11_2, zx_11_3, zx_17_0, zx_19_0, zx_19_1, zx_19_2, zx_20_0, zx_20_1, zx_20_3, zx_20_4, zx_20_5, zx_20_6, zx_20_7, zx_20_8, zx_20_9, zx_30_0, zx_30_1, zx_30_4, zx_30_5, zx_48_0, zx_50_0, zx_52_0, zx_52_1, zx_52_2, zx_56_0, zx_56_1, zx_56_2, zx_57_0, zx_59_0, zx_80_3, zx_80_4, zx_80_5, zx_81_0, zx_81_1, zx_81_2, zx_81_3, zx_81_4, zx_81_5, zx_88_0, zx_88_1, zx_88_2, zx_93_3, zx_93_4, zx_93_5, zx_94_0, zx_94_1, zx_94_2, zx_94_3, zx_94_4, zx_94_5, zx_101_0, zx_101_1, zx_101_2, zx_106_0, zx_106_1, zx_106_2, zx_110_0, zx_110_1, zx_110_2, zx_114_0, zx_114_1, zx_114_2, zgI_9, zsI_9, zgI_16, zsI_16, zgI_18, zsI_18, zgI_21, zsI_21, zgI_22, zsI_22, zgI_23, zsI_23, zgI_24, zsI_24, zgI_25, zsI_25, zgI_26, zsI_26, zgI_27, zsI_27, zgI_28, zsI_28, zgI_29, zsI_29, zgI_47, zsI_47, zgI_49, zsI_49, zgI_51, zsI_51, zgI_53, zsI_53, zgI_54, zsI_54, zgI_55, zsI_55, zgI_58, zsI_58, zgI_76, zsI_76, zgI_79, zsI_79, zb_145_96, y2, e4]
            exact ihd (b + 1) σ4 (by omega) (by omega) hx4 (hK3.tr (zFx0_m hK4))
        exact key (h - (r + 1)) (r + 1) σ2 (by omega) (by omega) start (hK1.tr hK2)
  · obtain ⟨⟨ρ1, hx⟩, hK1⟩ := hI
    have hF1 := hK1.fix hF rfl
    have x3 := hx.2.2.1
    refine zW_of zg_145_63 ?_
    simp (disch := first | assumption | omega) only [zn0, zn1, Option.bind_some, zm_ai, zm_al, zm_av, zm_opt, zm_fw, zE_l, zE_r, nI_add, pk_mul, pk_sub, pk_div, pk_rem, zrem, zpm1, zB_i0, zB_i1, zB_ok, zB_T, zB_F, nI_toInt, zT_sub, zT_neg, zT_le, zT_lt, nI_eq, zne1, zne2, zne9, ite_not, or_true, true_or, if_true, if_false, if_pos, if_neg, zw_R, zw_RL, zw_I, zF_R, zw_same, zw_cell, zw_ne, zF_at, zF_ne, ↓zib_0, ↓zib_1, ↓zib_10, ↓zib_17, ↓zib_19, ↓zib_20, ↓zib_30, ↓zib_48, ↓zib_50, ↓zib_52, ↓zib_57, ↓zib_59, ↓zib_80, ↓zib_93, ↓zib_106, ↓zib_110, ↓zib_114, ↓zxb_0_0, ↓zxb_0_1, ↓zxb_0_2, ↓zxb_0_3, ↓zxb_0_4, ↓zxb_0_5, ↓zxb_0_6, ↓zxb_0_7, ↓zxb_0_8, ↓zxb_0_9, ↓zxb_0_10, ↓zxb_1_0, ↓zxb_1_1, ↓zxb_2_0, ↓zxb_2_1, ↓zxb_2_2, ↓zxb_2_3, ↓zxb_2_4, ↓zxb_2_5, ↓zxb_10_0, ↓zxb_10_1, ↓zxb_11_0, ↓zxb_11_1, ↓zxb_11_2, ↓zxb_11_3, ↓zxb_17_0, ↓zxb_19_0, ↓zxb_19_1, ↓zxb_19_2, ↓zxb_20_0, ↓zxb_20_1, ↓zxb_20_3, ↓zxb_20_4, ↓zxb_20_5, ↓zxb_20_6, ↓zxb_20_7, ↓zxb_20_8, ↓zxb_20_9, ↓zxb_30_0, ↓zxb_30_1, ↓zxb_30_4, ↓zxb_30_5, ↓zxb_48_0, ↓zxb_50_0, ↓zxb_52_0, ↓zxb_52_1, ↓zxb_52_2, ↓zxb_56_0, ↓zxb_56_1, ↓zxb_56_2, ↓zxb_57_0, ↓zxb_59_0, ↓zxb_80_3, ↓zxb_80_4, ↓zxb_80_5, ↓zxb_81_0, ↓zxb_81_1, ↓zxb_81_2, ↓zxb_81_3, ↓zxb_81_4, ↓zxb_81_5, ↓zxb_88_0, ↓zxb_88_1, ↓zxb_88_2, ↓zxb_93_3, ↓zxb_93_4, ↓zxb_93_5, ↓zxb_94_0, ↓zxb_94_1, ↓zxb_94_2, ↓zxb_94_3, ↓zxb_94_4, ↓zxb_94_5, ↓zxb_101_0, ↓zxb_101_1, ↓zxb_101_2, ↓zxb_106_0, ↓zxb_106_1, ↓zxb_106_2, ↓zxb_110_0, ↓zxb_110_1, ↓zxb_110_2, ↓zxb_114_0, ↓zxb_114_1, ↓zxb_114_2, ↓zgb_9, ↓zsb_9, ↓zgb_16, ↓zsb_16, ↓zgb_18, ↓zsb_18, ↓zgb_21, ↓zsb_21, ↓zgb_22, ↓zsb_22, ↓zgb_23, ↓zsb_23, ↓zgb_24, ↓zsb_24, ↓zgb_25, ↓zsb_25, ↓zgb_26, ↓zsb_26, ↓zgb_27, ↓zsb_27, ↓zgb_28, ↓zsb_28, ↓zgb_29, ↓zsb_29, ↓zgb_47, ↓zsb_47, ↓zgb_49, ↓zsb_49, ↓zgb_51, ↓zsb_51, ↓zgb_53, ↓zsb_53, ↓zgb_54, ↓zsb_54, ↓zgb_55, ↓zsb_55, ↓zgb_58, ↓zsb_58, ↓zgb_76, ↓zsb_76, ↓zgb_79, ↓zsb_79, zi_0, zi_1, zi_10, zi_17, zi_19, zi_20, zi_30, zi_48, zi_50, zi_52, zi_57, zi_59, zi_80, zi_93, zi_106, zi_110, zi_114, zx_0_0, zx_0_1, zx_0_2, zx_0_3, zx_0_4, zx_0_5, zx_0_6, zx_0_7, zx_0_8, zx_0_9, zx_0_10, zx_1_0, zx_1_1, zx_2_0, zx_2_1, zx_2_2, zx_2_3, zx_2_4, zx_2_5, zx_10_0, zx_10_1, zx_11_0, zx_11_1, zx_11_2, zx_11_3, zx_17_0, zx_19_0, zx_19_1, zx_19_2, zx_20_0, zx_20_1, zx_20_3, zx_20_4, zx_20_5, zx_20_6, zx_20_7, zx_20_8, zx_20_9, zx_30_0, zx_30_1, zx_30_4, zx_30_5, zx_48_0, zx_50_0, zx_52_0, zx_52_1, zx_52_2, zx_56_0, zx_56_1, zx_56_2, zx_57_0, zx_59_0, zx_80_3, zx_80_4, zx_80_5, zx_81_0, zx_81_1, zx_81_2, zx_81_3, zx_81_4, zx_81_5, zx_88_0, zx_88_1, zx_88_2, zx_93_3, zx_93_4, zx_93_5, zx_94_0, zx_94_1, zx_94_2, zx_94_3, zx_94_4, zx_94_5, zx_101_0, zx_101_1, zx_101_2, zx_106_0, zx_106_1, zx_106_2, zx_110_0, zx_110_1, zx_110_2, zx_114_0, zx_114_1, zx_114_2, zgI_9, zsI_9, zgI_16, zsI_16, zgI_18, zsI_18, zgI_21, zsI_21, zgI_22, zsI_22, zgI_23, zsI_23, zgI_24, zsI_24, zgI_25, zsI_25, zgI_26, zsI_26, zgI_27, zsI_27, zgI_28, zsI_28, zgI_29, zsI_29, zgI_47, zsI_47, zgI_49, zsI_49, zgI_51, zsI_51, zgI_53, zsI_53, zgI_54, zsI_54, zgI_55, zsI_55, zgI_58, zsI_58, zgI_76, zsI_76, zgI_79, zsI_79, zb_145_63, x3]
    exact stop w σ1 (by omega) ⟨ρ1, hx⟩ hK1 (Or.inl rfl)
/-- the reference -/
def zGr (σ : zm_Sig) (h w : Nat) (M : Nat → Nat → Nat) : Prop := ∀ i m, i < h → m < w → σ.1 147 (16 * i + m) = nI (M i m)
def zF147 (x k : Nat) : Bool := x == 147
theorem zF147_msc (hK : zKeep zF147 σ σ') : zKeep zMsc σ σ' := hK.mo fun x k q => by
  simp only [zF147, beq_iff_eq] at q
  simp only [zMsc, Bool.or_eq_true, Bool.and_eq_true, decide_eq_true_eq, beq_iff_eq]
  omega
theorem m_rankOf (hF : zFix σ) (hh : h ≤ 15) (hw : w ≤ 15) (hp2 : 2 ≤ p) (hp8 : p < 8) (hG : zGr σ h w M) (hL : zLm p h w M) : ∃ σ', zM 272 [.ref 118, .int (nI h), .int (nI w), .int (nI p)] zL σ = some (some (.int (nI (zrk p h M w).1)), zL, σ') ∧ zKeep zF147 σ σ' := by
  refine zS_ex (zS_of ze_272 ?_)
  simp (disch := first | assumption | omega) only [zn0, zn1, Option.bind_some, zm_ai, zm_al, zm_av, zm_opt, zm_fw, zE_l, zE_r, nI_add, pk_mul, pk_sub, pk_div, pk_rem, zrem, zpm1, zB_i0, zB_i1, zB_ok, zB_T, zB_F, nI_toInt, zT_sub, zT_neg, zT_le, zT_lt, nI_eq, zne1, zne2, zne9, ite_not, or_true, true_or, if_true, if_false, if_pos, if_neg, zw_R, zw_RL, zw_I, zF_R, zw_same, zw_cell, zw_ne, zF_at, zF_ne, ↓zib_118, ↓zxb_118_0, ↓zxb_118_1, ↓zxb_118_2, ↓zxb_118_3, ↓zxb_118_7, ↓zxb_118_8, ↓zxb_118_9, ↓zxb_118_10, ↓zxb_118_11, ↓zxb_118_12, ↓zxb_118_13, ↓zxb_118_14, ↓zxb_118_15, ↓zxb_118_17, ↓zxb_118_18, ↓zxb_118_19, ↓zxb_118_21, ↓zxb_118_22, ↓zxb_118_24, ↓zxb_118_25, ↓zxb_118_30, ↓zxb_118_35, ↓zxb_118_36, ↓zxb_118_37, ↓zxb_118_38, ↓zxb_118_39, ↓zxb_118_41, ↓zxb_118_42, ↓zxb_118_44, ↓zxb_118_45, ↓zxb_118_46, ↓zgb_119, ↓zsb_119, ↓zgb_120, ↓zsb_120, ↓zgb_121, ↓zsb_121, ↓zgb_122, ↓zsb_122, ↓zgb_123, ↓zsb_123, ↓zgb_124, ↓zsb_124, ↓zgb_125, ↓zsb_125, ↓zgb_126, ↓zsb_126, ↓zgb_127, ↓zsb_127, ↓zgb_128, ↓zsb_128, ↓zgb_129, ↓zsb_129, ↓zgb_130, ↓zsb_130, ↓zgb_131, ↓zsb_131, ↓zgb_132, ↓zsb_132, ↓zgb_133, ↓zsb_133, ↓zgb_134, ↓zsb_134, ↓zgb_135, ↓zsb_135, ↓zgb_136, ↓zsb_136, ↓zgb_137, ↓zsb_137, ↓zgb_139, ↓zsb_139, ↓zgb_140, ↓zsb_140, ↓zgb_141, ↓zsb_141, ↓zgb_142, ↓zsb_142, ↓zgb_143, ↓zsb_143, ↓zgb_144, ↓zsb_144, ↓zgb_145, ↓zsb_145, ↓zgb_146, ↓zsb_146, ↓zgb_147, ↓zsb_147, zi_118, zx_118_0, zx_118_1, zx_118_2, zx_118_3, zx_118_7, zx_118_8, zx_118_9, zx_118_10, zx_118_11, zx_118_12, zx_118_13, zx_118_14, zx_118_15, zx_118_17, zx_118_18, zx_118_19, zx_118_21, zx_118_22, zx_118_24, zx_118_25, zx_118_30, zx_118_35, zx_118_36, zx_118_37, zx_118_38, zx_118_39, zx_118_41, zx_118_42, zx_118_44, zx_118_45, zx_118_46, zgI_119, zsI_119, zgI_120, zsI_120, zgI_121, zsI_121, zgI_122, zsI_122, zgI_123, zsI_123, zgI_124, zsI_124, zgI_125, zsI_125, zgI_126, zsI_126, zgI_127, zsI_127, zgI_128, zsI_128, zgI_129, zsI_129, zgI_130, zsI_130, zgI_131, zsI_131, zgI_132, zsI_132, zgI_133, zsI_133, zgI_134, zsI_134, zgI_135, zsI_135, zgI_136, zsI_136, zgI_137, zsI_137, zgI_139, zsI_139, zgI_140, zsI_140, zgI_141, zsI_141, zgI_142, zsI_142, zgI_143, zsI_143, zgI_144, zsI_144, zgI_145, zsI_145, zgI_146, zsI_146, zgI_147, zsI_147, zb_272_0]
  refine zloop (fun c σ1 => (6, [(0, .ref 118), (1, .int (nI h)), (2, .int (nI w)), (3, .int (nI p)), (4, .int (nI (zrk p h M c).1)), (5, .int (nI c))], [], zL, σ1, 0, 0)) (fun c σ1 => zGr σ1 h w (zrk p h M c).2 ∧ zKeep zF147 σ σ1) w (fun c σ1 hc hI ih => ?_) (fun σ1 hI => ?_) 0 σ (by omega) ⟨hG, zKeep.rf _ _⟩
  · obtain ⟨hg, hK1⟩ := hI
    have hF1 := hK1.fix hF rfl
    obtain ⟨l1, l2, l3⟩ := zrk_ok (by omega) hL c
    have hss : zrk p h M (c + 1) = zcl2 p h (zrk p h M c) c (zpv (zrk p h M c).2 h c (zrk p h M c).1) := rfl
    refine zW_of zg_272_6 ?_
    simp (disch := first | assumption | omega) only [zn0, zn1, Option.bind_some, zm_ai, zm_al, zm_av, zm_opt, zm_fw, zE_l, zE_r, nI_add, pk_mul, pk_sub, pk_div, pk_rem, zrem, zpm1, zB_i0, zB_i1, zB_ok, zB_T, zB_F, nI_toInt, zT_sub, zT_neg, zT_le, zT_lt, nI_eq, zne1, zne2, zne9, ite_not, or_true, true_or, if_true, if_false, if_pos, if_neg, zw_R, zw_RL, zw_I, zF_R, zw_same, zw_cell, zw_ne, zF_at, zF_ne, ↓zib_118, ↓zxb_118_0, ↓zxb_118_1, ↓zxb_118_2, ↓zxb_118_3, ↓zxb_118_7, ↓zxb_118_8, ↓zxb_118_9, ↓zxb_118_10, ↓zxb_118_11, ↓zxb_118_12, ↓zxb_118_13, ↓zxb_118_14, ↓zxb_118_15, ↓zxb_118_17, ↓zxb_118_18, ↓zxb_118_19, ↓zxb_118_21, ↓zxb_118_22, ↓zxb_118_24, ↓zxb_118_25, ↓zxb_118_30, ↓zxb_118_35, ↓zxb_118_36, ↓zxb_118_37, ↓zxb_118_38, ↓zxb_118_39, ↓zxb_118_41, ↓zxb_118_42, ↓zxb_118_44, ↓zxb_118_45, ↓zxb_118_46, ↓zgb_119, ↓zsb_119, ↓zgb_120, ↓zsb_120, ↓zgb_121, ↓zsb_121, ↓zgb_122, ↓zsb_122, ↓zgb_123, ↓zsb_123, ↓zgb_124, ↓zsb_124, ↓zgb_125, ↓zsb_125, ↓zgb_126, ↓zsb_126, ↓zgb_127, ↓zsb_127, ↓zgb_128, ↓zsb_128, ↓zgb_129, ↓zsb_129, ↓zgb_130, ↓zsb_130, ↓zgb_131, ↓zsb_131, ↓zgb_132, ↓zsb_132, ↓zgb_133, ↓zsb_133, ↓zgb_134, ↓zsb_134, ↓zgb_135, ↓zsb_135, ↓zgb_136, ↓zsb_136, ↓zgb_137, ↓zsb_137, ↓zgb_139, ↓zsb_139, ↓zgb_140, ↓zsb_140, ↓zgb_141, ↓zsb_141, ↓zgb_142, ↓zsb_142, ↓zgb_143, ↓zsb_143, ↓zgb_144, ↓zsb_144, ↓zgb_145, ↓zsb_145, ↓zgb_146, ↓zsb_146, ↓zgb_147, ↓zsb_147, zi_118, zx_118_0, zx_118_1, zx_118_2, zx_118_3, zx_118_7, zx_118_8, zx_118_9, zx_118_10, zx_118_11, zx_118_12, zx_118_13, zx_118_14, zx_118_15, zx_118_17, zx_118_18, zx_118_19, zx_118_21, zx_118_22, zx_118_24, zx_118_25, zx_118_30, zx_118_35, zx_118_36, zx_118_37, zx_118_38, zx_118_39, zx_118_41, zx_118_42, zx_118_44, zx_118_45, zx_118_46, zgI_119, zsI_119, zgI_120, zsI_120, zgI_121, zsI_121, zgI_122, zsI_122, zgI_123, zsI_123, zgI_124, zsI_124, zgI_125, zsI_125, zgI_126, zsI_126, zgI_127, zsI_127, zgI_128, zsI_128, zgI_129, zsI_129, zgI_130, zsI_130, zgI_131, zsI_131, zgI_132, zsI_132, zgI_133, zsI_133, zgI_134, zsI_134, zgI_135, zsI_135, zgI_136, zsI_136, zgI_137, zsI_137, zgI_139, zsI_139, zgI_140, zsI_140, zgI_141, zsI_141, zgI_142, zsI_142, zgI_143, zsI_143, zgI_144, zsI_144, zgI_145, zsI_145, zgI_146, zsI_146, zgI_147, zsI_147, zb_272_6]
    generalize hr : (zrk p h M c).1 = r at *
    generalize hMc : (zrk p h M c).2 = Mc at *
    have hpair : zrk p h M c = (r, Mc) := by rw [← hr, ← hMc]
    rw [hpair] at hss
    have skip : ∀ (Q : zm_Out → Prop) (i : Nat), r ≤ i → i < h → Mc i c = 0 → zW 272 (16, [(0, .ref 118), (1, .int (nI h)), (2, .int (nI w)), (3, .int (nI p)), (4, .int (nI r)), (5, .int (nI c)), (6, .int (nI (i + 1)))], [], zL, σ1, 0, 0) Q → zW 272 (16, [(0, .ref 118), (1, .int (nI h)), (2, .int (nI w)), (3, .int (nI p)), (4, .int (nI r)), (5, .int (nI c)), (6, .int (nI i))], [], zL, σ1, 0, 0) Q := by
      intro Q i hri hi h0 ihq
      have hv := hg i c hi hc
      rw [h0] at hv
      refine zW_of zg_272_16 ?_
      simp (disch := first | assumption | omega) only [zn0, zn1, Option.bind_some, zm_ai, zm_al, zm_av, zm_opt, zm_fw, zE_l, zE_r, nI_add, pk_mul, pk_sub, pk_div, pk_rem, zrem, zpm1, zB_i0, zB_i1, zB_ok, zB_T, zB_F, nI_toInt, zT_sub, zT_neg, zT_le, zT_lt, nI_eq, zne1, zne2, zne9, ite_not, or_true, true_or, if_true, if_false, if_pos, if_neg, zw_R, zw_RL, zw_I, zF_R, zw_same, zw_cell, zw_ne, zF_at, zF_ne, ↓zib_118, ↓zxb_118_0, ↓zxb_118_1, ↓zxb_118_2, ↓zxb_118_3, ↓zxb_118_7, ↓zxb_118_8, ↓zxb_118_9, ↓zxb_118_10, ↓zxb_118_11, ↓zxb_118_12, ↓zxb_118_13, ↓zxb_118_14, ↓zxb_118_15, ↓zxb_118_17, ↓zxb_118_18, ↓zxb_118_19, ↓zxb_118_21, ↓zxb_118_22, ↓zxb_118_24, ↓zxb_118_25, ↓zxb_118_30, ↓zxb_118_35, ↓zxb_118_36, ↓zxb_118_37, ↓zxb_118_38, ↓zxb_118_39, ↓zxb_118_41, ↓zxb_118_42, ↓zxb_118_44, ↓zxb_118_45, ↓zxb_118_46, ↓zgb_119, ↓zsb_119, ↓zgb_120, ↓zsb_120, ↓zgb_121, ↓zsb_121, ↓zgb_122, ↓zsb_122, ↓zgb_123, ↓zsb_123, ↓zgb_124, ↓zsb_124, ↓zgb_125, ↓zsb_125, ↓zgb_126, ↓zsb_126, ↓zgb_127, ↓zsb_127, ↓zgb_128, ↓zsb_128, ↓zgb_129, ↓zsb_129, ↓zgb_130, ↓zsb_130, ↓zgb_131, ↓zsb_131, ↓zgb_132, ↓zsb_132, ↓zgb_133, ↓zsb_133, ↓zgb_134, ↓zsb_134, ↓zgb_135, ↓zsb_135, ↓zgb_136, ↓zsb_136, ↓zgb_137, ↓zsb_137, ↓zgb_139, ↓zsb_139, ↓zgb_140, ↓zsb_140, ↓zgb_141, ↓zsb_141, ↓zgb_142, ↓zsb_142, ↓zgb_143, ↓zsb_143, ↓zgb_144, ↓zsb_144, ↓zgb_145, ↓zsb_145, ↓zgb_146, ↓zsb_146, ↓zgb_147, ↓zsb_147, zi_118, zx_118_0, zx_118_1, zx_118_2, zx_118_3, zx_118_7, zx_118_8, zx_118_9, zx_118_10, zx_118_11, zx_118_12, zx_118_13, zx_118_14, zx_118_15, zx_118_17, zx_118_18, zx_118_19, zx_118_21, zx_118_22, zx_118_24, zx_118_25, zx_118_30, zx_118_35, zx_118_36, zx_118_37, zx_118_38, zx_118_39, zx_118_41, zx_118_42, zx_118_44, zx_118_45, zx_118_46, zgI_119, zsI_119, zgI_120, zsI_120, zgI_121, zsI_121, zgI_122, zsI_122, zgI_123, zsI_123, zgI_124, zsI_124, zgI_125, zsI_125, zgI_126, zsI_126, zgI_127, zsI_127, zgI_128, zsI_128, zgI_129, zsI_129, zgI_130, zsI_130, zgI_131, zsI_131, zgI_132, zsI_132, zgI_133, zsI_133, zgI_134, zsI_134, zgI_135, zsI_135, zgI_136, zsI_136, zgI_137, zsI_137, zgI_139, zsI_139, zgI_140, zsI_140, zgI_141, zsI_141, zgI_142, zsI_142, zgI_143, zsI_143, zgI_144, zsI_144, zgI_145, zsI_145, zgI_146, zsI_146, zgI_147, zsI_147, zb_272_16, hv, not_true]
      exact ihq
    cases e : zpv Mc h c r with
    | none =>
      have hall : ∀ i, r ≤ i → i < h → Mc i c = 0 := fun i h1 h2 => Classical.byContradiction fun q => by
        obtain ⟨j, j1, j2, j3⟩ := zleast (P := fun i => r ≤ i ∧ Mc i c ≠ 0) (n := h) ⟨i, h2, h1, q⟩
        have : zpv Mc h c r = some j := zfirst_yes j2 j3 j1
        rw [e] at this
        cases this
      rw [e] at hss
      have hss : zrk p h M (c + 1) = (r, Mc) := hss
      have ih := ih σ1
      rw [hss] at ih
      have ih := ih ⟨hg, hK1⟩
      have key : ∀ d i, i + d = h → r ≤ i → zW 272 (16, [(0, .ref 118), (1, .int (nI h)), (2, .int (nI w)), (3, .int (nI p)), (4, .int (nI r)), (5, .int (nI c)), (6, .int (nI i))], [], zL, σ1, 0, 0) (fun q => ∃ σ', q = (some (.int (nI (zrk p h M w).1)), zL, σ') ∧ zKeep zF147 σ σ') := by
        intro d
        induction d with
        | zero =>
          intro i hi hri
          have : i = h := by omega
          subst this
          refine zW_of zg_272_16 ?_
          simp (disch := first | assumption | omega) only [zn0, zn1, Option.bind_some, zm_ai, zm_al, zm_av, zm_opt, zm_fw, zE_l, zE_r, nI_add, pk_mul, pk_sub, pk_div, pk_rem, zrem, zpm1, zB_i0, zB_i1, zB_ok, zB_T, zB_F, nI_toInt, zT_sub, zT_neg, zT_le, zT_lt, nI_eq, zne1, zne2, zne9, ite_not, or_true, true_or, if_true, if_false, if_pos, if_neg, zw_R, zw_RL, zw_I, zF_R, zw_same, zw_cell, zw_ne, zF_at, zF_ne, ↓zib_118, ↓zxb_118_0, ↓zxb_118_1, ↓zxb_118_2, ↓zxb_118_3, ↓zxb_118_7, ↓zxb_118_8, ↓zxb_118_9, ↓zxb_118_10, ↓zxb_118_11, ↓zxb_118_12, ↓zxb_118_13, ↓zxb_118_14, ↓zxb_118_15, ↓zxb_118_17, ↓zxb_118_18, ↓zxb_118_19, ↓zxb_118_21, ↓zxb_118_22, ↓zxb_118_24, ↓zxb_118_25, ↓zxb_118_30, ↓zxb_118_35, ↓zxb_118_36, ↓zxb_118_37, ↓zxb_118_38, ↓zxb_118_39, ↓zxb_118_41, ↓zxb_118_42, ↓zxb_118_44, ↓zxb_118_45, ↓zxb_118_46, ↓zgb_119, ↓zsb_119, ↓zgb_120, ↓zsb_120, ↓zgb_121, ↓zsb_121, ↓zgb_122, ↓zsb_122, ↓zgb_123, ↓zsb_123, ↓zgb_124, ↓zsb_124, ↓zgb_125, ↓zsb_125, ↓zgb_126, ↓zsb_126, ↓zgb_127, ↓zsb_127, ↓zgb_128, ↓zsb_128, ↓zgb_129, ↓zsb_129, ↓zgb_130, ↓zsb_130, ↓zgb_131, ↓zsb_131, ↓zgb_132, ↓zsb_132, ↓zgb_133, ↓zsb_133, ↓zgb_134, ↓zsb_134, ↓zgb_135, ↓zsb_135, ↓zgb_136, ↓zsb_136, ↓zgb_137, ↓zsb_137, ↓zgb_139, ↓zsb_139, ↓zgb_140, ↓zsb_140, ↓zgb_141, ↓zsb_141, ↓zgb_142, ↓zsb_142, ↓zgb_143, ↓zsb_143, ↓zgb_144, ↓zsb_144, ↓zgb_145, ↓zsb_145, ↓zgb_146, ↓zsb_146, ↓zgb_147, ↓zsb_147, zi_118, zx_118_0, zx_118_1, zx_118_2, zx_118_3, zx_118_7, zx_118_8, zx_118_9, zx_118_10, zx_118_11, zx_118_12, zx_118_13, zx_118_14, zx_118_15, zx_118_17, zx_118_18, zx_118_19, zx_118_21, zx_118_22, zx_118_24, zx_118_25, zx_118_30, zx_118_35, zx_118_36, zx_118_37, zx_118_38, zx_118_39, zx_118_41, zx_118_42, zx_118_44, zx_118_45, zx_118_46, zgI_119, zsI_119, zgI_120, zsI_120, zgI_121, zsI_121, zgI_122, zsI_122, zgI_123, zsI_123, zgI_124, zsI_124, zgI_125, zsI_125, zgI_126, zsI_126, zgI_127, zsI_127, zgI_128, zsI_128, zgI_129, zsI_129, zgI_130, zsI_130, zgI_131, zsI_131, zgI_132, zsI_132, zgI_133, zsI_133, zgI_134, zsI_134, zgI_135, zsI_135, zgI_136, zsI_136, zgI_137, zsI_137, zgI_139, zsI_139, zgI_140, zsI_140, zgI_141, zsI_141, zgI_142, zsI_142, zgI_143, zsI_143, zgI_144, zsI_144, zgI_145, zsI_145, zgI_146, zsI_146, zgI_147, zsI_147, zb_272_16]
          exact ih
        | succ d ihd =>
          intro i hi hri
          exact skip _ i hri (by omega) (hall i hri (by omega)) (ihd (i + 1) (by omega) (by omega))
      exact key (h - r) r (by omega) (Nat.le_refl _)
    | some i =>
      obtain ⟨a1, a2, a3⟩ := zpv_sp e
      have hbef : ∀ j, r ≤ j → j < i → Mc j c = 0 := fun j h1 h2 => Classical.byContradiction fun q => by
        obtain ⟨j', j1, j2, j3⟩ := zleast (P := fun i => r ≤ i ∧ Mc i c ≠ 0) (n := h) ⟨j, by omega, h1, q⟩
        have : zpv Mc h c r = some j' := zfirst_yes j2 j3 j1
        rw [e] at this
        cases this
        exact j3 j (by omega) ⟨h1, q⟩
      rw [e] at hss
      have hss : zrk p h M (c + 1) = (r + 1, zce p (zsw Mc i r) r c h) := hss
      have ih : ∀ σ', zGr σ' h w (zce p (zsw Mc i r) r c h) → zKeep zF147 σ σ' → zW 272 (6, [(0, .ref 118), (1, .int (nI h)), (2, .int (nI w)), (3, .int (nI p)), (4, .int (nI (r + 1))), (5, .int (nI (c + 1)))], [], zL, σ', 0, 0) _ := fun σ' q1 q2 => by
        have := ih σ'
        rw [hss] at this
        exact this ⟨q1, q2⟩
      have hr : r < h := by omega
      have hLs := zsw_lm l1 a1 hr
      have hml := l1 i c a1 hc
      -- the rows below
      have below : ∀ σ2, zGr σ2 h w (zsw Mc i r) → zKeep zF147 σ σ2 → zW 272 (127, [(0, .ref 118), (1, .int (nI h)), (2, .int (nI w)), (3, .int (nI p)), (4, .int (nI r)), (5, .int (nI c)), (7, .int (nI (r + 1)))], [], zL, σ2, 0, 0) (fun q => ∃ σ', q = (some (.int (nI (zrk p h M w).1)), zL, σ') ∧ zKeep zF147 σ σ') := by
        intro σ2 hg2 hK2
        generalize zsw Mc i r = Ms at *
        have start : zGr σ2 h w (zce p Ms r c (r + 1)) := by rw [zce_0]; exact hg2
        have key : ∀ d b σ3, b + d = h → r < b → zGr σ3 h w (zce p Ms r c b) → zKeep zF147 σ σ3 → zW 272 (127, [(0, .ref 118), (1, .int (nI h)), (2, .int (nI w)), (3, .int (nI p)), (4, .int (nI r)), (5, .int (nI c)), (7, .int (nI b))], [], zL, σ3, 0, 0) (fun q => ∃ σ', q = (some (.int (nI (zrk p h M w).1)), zL, σ') ∧ zKeep zF147 σ σ') := by
          intro d
          induction d with
          | zero =>
            intro b σ3 hb hrb hg3 hK3
            have : b = h := by omega
            subst this
            refine zW_of zg_272_127 ?_
            simp (disch := first | assumption | omega) only [zn0, zn1, Option.bind_some, zm_ai, zm_al, zm_av, zm_opt, zm_fw, zE_l, zE_r, nI_add, pk_mul, pk_sub, pk_div, pk_rem, zrem, zpm1, zB_i0, zB_i1, zB_ok, zB_T, zB_F, nI_toInt, zT_sub, zT_neg, zT_le, zT_lt, nI_eq, zne1, zne2, zne9, ite_not, or_true, true_or, if_true, if_false, if_pos, if_neg, zw_R, zw_RL, zw_I, zF_R, zw_same, zw_cell, zw_ne, zF_at, zF_ne, ↓zib_118, ↓zxb_118_0, ↓zxb_118_1, ↓zxb_118_2, ↓zxb_118_3, ↓zxb_118_7, ↓zxb_118_8, ↓zxb_118_9, ↓zxb_118_10, ↓zxb_118_11, ↓zxb_118_12, ↓zxb_118_13, ↓zxb_118_14, ↓zxb_118_15, ↓zxb_118_17, ↓zxb_118_18, ↓zxb_118_19, ↓zxb_118_21, ↓zxb_118_22, ↓zxb_118_24, ↓zxb_118_25, ↓zxb_118_30, ↓zxb_118_35, ↓zxb_118_36, ↓zxb_118_37, ↓zxb_118_38, ↓zxb_118_39, ↓zxb_118_41, ↓zxb_118_42, ↓zxb_118_44, ↓zxb_118_45, ↓zxb_118_46, ↓zgb_119, ↓zsb_119, ↓zgb_120, ↓zsb_120, ↓zgb_121, ↓zsb_121, ↓zgb_122, ↓zsb_122, ↓zgb_123, ↓zsb_123, ↓zgb_124, ↓zsb_124, ↓zgb_125, ↓zsb_125, ↓zgb_126, ↓zsb_126, ↓zgb_127, ↓zsb_127, ↓zgb_128, ↓zsb_128, ↓zgb_129, ↓zsb_129, ↓zgb_130, ↓zsb_130, ↓zgb_131, ↓zsb_131, ↓zgb_132, ↓zsb_132, ↓zgb_133, ↓zsb_133, ↓zgb_134, ↓zsb_134, ↓zgb_135, ↓zsb_135, ↓zgb_136, ↓zsb_136, ↓zgb_137, ↓zsb_137, ↓zgb_139, ↓zsb_139, ↓zgb_140, ↓zsb_140, ↓zgb_141, ↓zsb_141, ↓zgb_142, ↓zsb_142, ↓zgb_143, ↓zsb_143, ↓zgb_144, ↓zsb_144, ↓zgb_145, ↓zsb_145, ↓zgb_146, ↓zsb_146, ↓zgb_147, ↓zsb_147, zi_118, zx_118_0, zx_118_1, zx_118_2, zx_118_3, zx_118_7, zx_118_8, zx_118_9, zx_118_10, zx_118_11, zx_118_12, zx_118_13, zx_118_14, zx_118_15, zx_118_17, zx_118_18, zx_118_19, zx_118_21, zx_118_22, zx_118_24, zx_118_25, zx_118_30, zx_118_35, zx_118_36, zx_118_37, zx_118_38, zx_118_39, zx_118_41, zx_118_42, zx_118_44, zx_118_45, zx_118_46, zgI_119, zsI_119, zgI_120, zsI_120, zgI_121, zsI_121, zgI_122, zsI_122, zgI_123, zsI_123, zgI_124, zsI_124, zgI_125, zsI_125, zgI_126, zsI_126, zgI_127, zsI_127, zgI_128, zsI_128, zgI_129, zsI_129, zgI_130, zsI_130, zgI_131, zsI_131, zgI_132, zsI_132, zgI_133, zsI_133, zgI_134, zsI_134, zgI_135, zsI_135, zgI_136, zsI_136, zgI_137, zsI_137, zgI_139, zsI_139, zgI_140, zsI_140, zgI_141, zsI_141, zgI_142, zsI_142, zgI_143, zsI_143, zgI_144, zsI_144, zgI_145, zsI_145, zgI_146, zsI_146, zgI_147, zsI_147, zb_272_127]
            exact ih σ3 hg3 hK3
          | succ d ihd =>
            intro b σ3 hb hrb hg3 hK3
            have hF3 := hK3.fix hF rfl
            have rowr : ∀ m, m < w → σ3.1 147 (16 * r + m) = nI (Ms r m) := fun m hm => by
              rw [hg3 r m hr hm]
              unfold zce
              rw [if_neg (by omega)]
            have rowb : ∀ m, m < w → σ3.1 147 (16 * b + m) = nI (Ms b m) := fun m hm => by
              rw [hg3 b m (by omega) hm]
              unfold zce
              rw [if_neg (by omega)]
            have v1 := rowr c hc
            have v2 := rowb c hc
            refine zW_of zg_272_127 ?_
            simp (disch := first | assumption | omega) only [zn0, zn1, Option.bind_some, zm_ai, zm_al, zm_av, zm_opt, zm_fw, zE_l, zE_r, nI_add, pk_mul, pk_sub, pk_div, pk_rem, zrem, zpm1, zB_i0, zB_i1, zB_ok, zB_T, zB_F, nI_toInt, zT_sub, zT_neg, zT_le, zT_lt, nI_eq, zne1, zne2, zne9, ite_not, or_true, true_or, if_true, if_false, if_pos, if_neg, zw_R, zw_RL, zw_I, zF_R, zw_same, zw_cell, zw_ne, zF_at, zF_ne, ↓zib_118, ↓zxb_118_0, ↓zxb_118_1, ↓zxb_118_2, ↓zxb_118_3, ↓zxb_118_7, ↓zxb_118_8, ↓zxb_118_9, ↓zxb_118_10, ↓zxb_118_11, ↓zxb_118_12, ↓zxb_118_13, ↓zxb_118_14, ↓zxb_118_15, ↓zxb_118_17, ↓zxb_118_18, ↓zxb_118_19, ↓zxb_118_21, ↓zxb_118_22, ↓zxb_118_24, ↓zxb_118_25, ↓zxb_118_30, ↓zxb_118_35, ↓zxb_118_36, ↓zxb_118_37, ↓zxb_118_38, ↓zxb_118_39, ↓zxb_118_41, ↓zxb_118_42, ↓zxb_118_44, ↓zxb_118_45, ↓zxb_118_46, ↓zgb_119, ↓zsb_119, ↓zgb_120, ↓zsb_120, ↓zgb_121, ↓zsb_121, ↓zgb_122, ↓zsb_122, ↓zgb_123, ↓zsb_123, ↓zgb_124, ↓zsb_124, ↓zgb_125, ↓zsb_125, ↓zgb_126, ↓zsb_126, ↓zgb_127, ↓zsb_127, ↓zgb_128, ↓zsb_128, ↓zgb_129, ↓zsb_129, ↓zgb_130, ↓zsb_130, ↓zgb_131, ↓zsb_131, ↓zgb_132, ↓zsb_132, ↓zgb_133, ↓zsb_133, ↓zgb_134, ↓zsb_134, ↓zgb_135, ↓zsb_135, ↓zgb_136, ↓zsb_136, ↓zgb_137, ↓zsb_137, ↓zgb_139, ↓zsb_139, ↓zgb_140, ↓zsb_140, ↓zgb_141, ↓zsb_141, ↓zgb_142, ↓zsb_142, ↓zgb_143, ↓zsb_143, ↓zgb_144, ↓zsb_144, ↓zgb_145, ↓zsb_145, ↓zgb_146, ↓zsb_146, ↓zgb_147, ↓zsb_147, zi_118, zx_118_0, zx_118_1, zx_118_2, zx_118_3, zx_118_7, zx_118_8, zx_118_9, zx_118_10, zx_118_11, zx_118_12, zx_118_13, zx_118_14, zx_118_15, zx_118_17, zx_118_18, zx_118_19, zx_118_21, zx_118_22, zx_118_24, zx_118_25, zx_118_30, zx_118_35, zx_118_36, zx_118_37, zx_118_38, zx_118_39, zx_118_41, zx_118_42, zx_118_44, zx_118_45, zx_118_46, zgI_119, zsI_119, zgI_120, zsI_120, zgI_121, zsI_121, zgI_122, zsI_122, zgI_123, zsI_123, zgI_124, zsI_124, zgI_125, zsI_125, zgI_126, zsI_126, zgI_127, zsI_127, zgI_128, zsI_128, zgI_129, zsI_129, zgI_130, zsI_130, zgI_131, zsI_131, zgI_132, zsI_132, zgI_133, zsI_133, zgI_134, zsI_134, zgI_135, zsI_135, zgI_136, zsI_136, zgI_137, zsI_137, zgI_139, zsI_139, zgI_140, zsI_140, zgI_141, zsI_141, zgI_142, zsI_142, zgI_143, zsI_143, zgI_144, zsI_144, zgI_145, zsI_145, zgI_146, zsI_146, zgI_147, zsI_147, zb_272_127, v1, v2]
            refine zloop (fun m σ4 => (166, [(0, .ref 118), (1, .int (nI h)), (2, .int (nI w)), (3, .int (nI p)), (4, .int (nI r)), (5, .int (nI c)), (7, .int (nI b)), (8, .int (nI (Ms b c))), (9, .int (nI (Ms r c))), (10, .int (nI m))], [], zL, σ4, 0, 0)) (fun m σ4 => (∀ i' m', i' < h → m' < w → σ4.1 147 (16 * i' + m') = if i' = b ∧ m' < m then nI ((Ms b m' * Ms r c + (p - Ms b c) * Ms r m') % p) else nI (zce p Ms r c b i' m')) ∧ zKeep zF147 σ σ4) w (fun m σ4 hm hI4 ih4 => ?_) (fun σ4 hI4 => ?_) 0 σ3 (by omega) ⟨fun i' m' hi' hm' => by rw [if_neg (by omega)]; exact hg3 i' m' hi' hm', hK3⟩
            · obtain ⟨j1, hK4⟩ := hI4
              have hF4 := hK4.fix hF rfl
              have w1 := j1 b m (by omega) hm
              rw [if_neg (by omega)] at w1
              have w1 : σ4.1 147 (16 * b + m) = nI (Ms b m) := by
                rw [w1]
                unfold zce
                rw [if_neg (by omega)]
              have w2 := j1 r m hr hm
              rw [if_neg (by omega)] at w2
              have w2 : σ4.1 147 (16 * r + m) = nI (Ms r m) := by
                rw [w2]
                unfold zce
                rw [if_neg (by omega)]
              have b1 := hLs b m (by omega) hm
              have b2 := hLs r c hr hc
              have b3 := hLs b c (by omega) hc
              have b4 := hLs r m hr hm
              have hle : Ms b m * Ms r c + (p - Ms b c) * Ms r m < 1000 := by
                have h1 : Ms b m * Ms r c ≤ 7 * 7 := Nat.mul_le_mul (by omega) (by omega)
                have h2 : (p - Ms b c) * Ms r m ≤ 8 * 7 := Nat.mul_le_mul (by omega) (by omega)
                omega
              have hsub : nI p - nI (Ms b c) = nI (p - Ms b c) := pk_sub (by omega)
              have hex : nI (Ms b m) * nI (Ms r c) + (nI p - nI (Ms b c)) * nI (Ms r m) = nI (Ms b m * Ms r c + (p - Ms b c) * Ms r m) := by rw [hsub, pk_mul, pk_mul, nI_add]
              have hrm : nI (Ms b m * Ms r c + (p - Ms b c) * Ms r m) - nI (Ms b m * Ms r c + (p - Ms b c) * Ms r m) / nI p * nI p = nI ((Ms b m * Ms r c + (p - Ms b c) * Ms r m) % p) := pk_rem (by omega) (by omega) (by omega)
              have hp0 : (nI p = nI 0) = False := zd_eqF (by omega) (by omega) (by omega)
              have f1 : (nI w ≤ nI m) = False := zd_leF hm (by omega)
              have i1 : nI 16 * nI b + nI m = nI (16 * b + m) := by rw [pk_mul, nI_add]
              have i2 : nI 16 * nI r + nI m = nI (16 * r + m) := by rw [pk_mul, nI_add]
              refine zW_of zg_272_166 ?_
              simp only [zb_272_166, zn0, zn1, f1, if_false, zi_118, Option.bind_some, zx_118_44 hF4, zm_opt, i1, i2, zgI_147 (show 16 * b + m < 240 by omega), zgI_147 (show 16 * r + m < 240 by omega), w1, w2, hp0, hex, hrm, zsI_147 (show 16 * b + m < 240 by omega), nI_add, zE_l]
              refine ih4 _ ⟨fun i' m' hi' hm' => ?_, hK4.wI rfl⟩
              rw [zwx]
              by_cases z : i' = b ∧ m' = m
              · rw [if_pos (by omega), if_pos (by omega), z.2]
              · rw [if_neg (by omega), j1 i' m' hi' hm']
                by_cases z2 : i' = b ∧ m' < m
                · rw [if_pos z2, if_pos (by omega)]
                · rw [if_neg z2, if_neg (by omega)]
            · obtain ⟨j1, hK4⟩ := hI4
              refine zW_of zg_272_166 ?_
              simp (disch := first | assumption | omega) only [zn0, zn1, Option.bind_some, zm_ai, zm_al, zm_av, zm_opt, zm_fw, zE_l, zE_r, nI_add, pk_mul, pk_sub, pk_div, pk_rem, zrem, zpm1, zB_i0, zB_i1, zB_ok, zB_T, zB_F, nI_toInt, zT_sub, zT_neg, zT_le, zT_lt, nI_eq, zne1, zne2, zne9, ite_not, or_true, true_or, if_true, if_false, if_pos, if_neg, zw_R, zw_RL, zw_I, zF_R, zw_same, zw_cell, zw_ne, zF_at, zF_ne, ↓zib_118, ↓zxb_118_0, ↓zxb_118_1, ↓zxb_118_2, ↓zxb_118_3, ↓zxb_118_7, ↓zxb_118_8, ↓zxb_118_9, ↓zxb_118_10, ↓zxb_118_11, ↓zxb_118_12, ↓zxb_118_13, ↓zxb_118_14, ↓zxb_118_15, ↓zxb_118_17, ↓zxb_118_18, ↓zxb_118_19, ↓zxb_118_21, ↓zxb_118_22, ↓zxb_118_24, ↓zxb_118_25, ↓zxb_118_30, ↓zxb_118_35, ↓zxb_118_36, ↓zxb_118_37, ↓zxb_118_38, ↓zxb_118_39, ↓zxb_118_41, ↓zxb_118_42, ↓zxb_118_44, ↓zxb_118_45, ↓zxb_118_46, ↓zgb_119, ↓zsb_119, ↓zgb_120, ↓zsb_120, ↓zgb_121, ↓zsb_121, ↓zgb_122, ↓zsb_122, ↓zgb_123, ↓zsb_123, ↓zgb_124, ↓zsb_124, ↓zgb_125, ↓zsb_125, ↓zgb_126, ↓zsb_126, ↓zgb_127, ↓zsb_127, ↓zgb_128, ↓zsb_128, ↓zgb_129, ↓zsb_129, ↓zgb_130, ↓zsb_130, ↓zgb_131, ↓zsb_131, ↓zgb_132, ↓zsb_132, ↓zgb_133, ↓zsb_133, ↓zgb_134, ↓zsb_134, ↓zgb_135, ↓zsb_135, ↓zgb_136, ↓zsb_136, ↓zgb_137, ↓zsb_137, ↓zgb_139, ↓zsb_139, ↓zgb_140, ↓zsb_140, ↓zgb_141, ↓zsb_141, ↓zgb_142, ↓zsb_142, ↓zgb_143, ↓zsb_143, ↓zgb_144, ↓zsb_144, ↓zgb_145, ↓zsb_145, ↓zgb_146, ↓zsb_146, ↓zgb_147, ↓zsb_147, zi_118, zx_118_0, zx_118_1, zx_118_2, zx_118_3, zx_118_7, zx_118_8, zx_118_9, zx_118_10, zx_118_11, zx_118_12, zx_118_13, zx_118_14, zx_118_15, zx_118_17, zx_118_18, zx_118_19, zx_118_21, zx_118_22, zx_118_24, zx_118_25, zx_118_30, zx_118_35, zx_118_36, zx_118_37, zx_118_38, zx_118_39, zx_118_41, zx_118_42, zx_118_44, zx_118_45, zx_118_46, zgI_119, zsI_119, zgI_120, zsI_120, zgI_121, zsI_121, zgI_122, zsI_122, zgI_123, zsI_123, zgI_124, zsI_124, zgI_125, zsI_125, zgI_126, zsI_126, zgI_127, zsI_127, zgI_128, zsI_128, zgI_129, zsI_129, zgI_130, zsI_130, zgI_131, zsI_131, zgI_132, zsI_132, zgI_133, zsI_133, zgI_134, zsI_134, zgI_135, zsI_135, zgI_136, zsI_136, zgI_137, zsI_137, zgI_139, zsI_139, zgI_140, zsI_140, zgI_141, zsI_141, zgI_142, zsI_142, zgI_143, zsI_143, zgI_144, zsI_144, zgI_145, zsI_145, zgI_146, zsI_146, zgI_147, zsI_147, zb_272_166]
              refine ihd (b + 1) σ4 (by omega) (by omega) (fun i' m' hi' hm' => ?_) hK4
              rw [j1 i' m' hi' hm']
              unfold zce
              by_cases z : i' = b
              · subst z
                rw [if_pos ⟨rfl, hm'⟩, if_pos (by omega)]
              · rw [if_neg (fun q => z q.1)]
                by_cases z2 : r < i' ∧ i' < b
                · rw [if_pos z2, if_pos (by omega)]
                · rw [if_neg z2, if_neg (by omega)]
        exact key (h - (r + 1)) (r + 1) σ2 (by omega) (by omega) start hK2
      -- the rows change places
      have swap : zW 272 (53, [(0, .ref 118), (1, .int (nI h)), (2, .int (nI w)), (3, .int (nI p)), (4, .int (nI r)), (5, .int (nI c)), (6, .int (nI i)), (7, .int (nI 0))], [], zL, σ1, 0, 0) (fun q => ∃ σ', q = (some (.int (nI (zrk p h M w).1)), zL, σ') ∧ zKeep zF147 σ σ') := by
        refine zloop (fun m σ2 => (53, [(0, .ref 118), (1, .int (nI h)), (2, .int (nI w)), (3, .int (nI p)), (4, .int (nI r)), (5, .int (nI c)), (6, .int (nI i)), (7, .int (nI m))], [], zL, σ2, 0, 0)) (fun m σ2 => (∀ i' m', i' < h → m' < w → σ2.1 147 (16 * i' + m') = if m' < m then nI (zsw Mc i r i' m') else nI (Mc i' m')) ∧ zKeep zF147 σ σ2) w (fun m σ2 hm hI2 ih2 => ?_) (fun σ2 hI2 => ?_) 0 σ1 (by omega) ⟨fun i' m' hi' hm' => by rw [if_neg (by omega)]; exact hg i' m' hi' hm', hK1⟩
        · obtain ⟨j1, hK2⟩ := hI2
          have hF2 := hK2.fix hF rfl
          have w1 := j1 i m a1 hm
          have w2 := j1 r m hr hm
          rw [if_neg (by omega)] at w1 w2
          have f1 : (nI w ≤ nI m) = False := zd_leF hm (by omega)
          have i1 : nI 16 * nI i + nI m = nI (16 * i + m) := by rw [pk_mul, nI_add]
          have i2 : nI 16 * nI r + nI m = nI (16 * r + m) := by rw [pk_mul, nI_add]
          have hF3 : zFix (zm_wI σ2 147 (16 * i + m) (nI (Mc r m))) := hF2
          refine zW_of zg_272_53 ?_
          simp only [zb_272_53, zn1, f1, if_false, zi_118, Option.bind_some, zx_118_44 hF2, zx_118_44 hF3, zm_opt, i1, i2, zgI_147 (show 16 * i + m < 240 by omega), zgI_147 (show 16 * r + m < 240 by omega), w1, w2, zsI_147 (show 16 * i + m < 240 by omega), zsI_147 (show 16 * r + m < 240 by omega), nI_add, zE_l]
          refine ih2 _ ⟨fun i' m' hi' hm' => ?_, (hK2.wI rfl).wI rfl⟩
          rw [zwx, zwx]
          unfold zsw
          by_cases z1 : i' = r
          · subst z1
            by_cases zm : m' = m
            · subst zm
              rw [if_pos rfl, if_pos (by omega), if_pos rfl]
            · rw [if_neg (by omega), if_neg (by omega), j1 i' m' hi' hm']
              unfold zsw
              by_cases z3 : m' < m
              · rw [if_pos z3, if_pos (show m' < m + 1 by omega)]
              · rw [if_neg z3, if_neg (by omega)]
          · by_cases z2 : i' = i
            · subst z2
              by_cases zm : m' = m
              · subst zm
                rw [if_neg (by omega), if_pos rfl, if_pos (by omega), if_neg z1, if_pos rfl]
              · rw [if_neg (by omega), if_neg (by omega), j1 i' m' hi' hm']
                unfold zsw
                by_cases z3 : m' < m
                · rw [if_pos z3, if_pos (show m' < m + 1 by omega)]
                · rw [if_neg z3, if_neg (by omega)]
            · rw [if_neg (by omega), if_neg (by omega), j1 i' m' hi' hm']
              unfold zsw
              rw [if_neg z1, if_neg z2]
              by_cases z3 : m' < m
              · rw [if_pos z3, if_pos (by omega)]
              · by_cases z4 : m' < m + 1
                · rw [if_neg z3, if_pos z4]
                · rw [if_neg z3, if_neg z4]
        · obtain ⟨j1, hK2⟩ := hI2
          refine zW_of zg_272_53 ?_
          simp (disch := first | assumption | omega) only [zn0, zn1, Option.bind_some, zm_ai, zm_al, zm_av, zm_opt, zm_fw, zE_l, zE_r, nI_add, pk_mul, pk_sub, pk_div, pk_rem, zrem, zpm1, zB_i0, zB_i1, zB_ok, zB_T, zB_F, nI_toInt, zT_sub, zT_neg, zT_le, zT_lt, nI_eq, zne1, zne2, zne9, ite_not, or_true, true_or, if_true, if_false, if_pos, if_neg, zw_R, zw_RL, zw_I, zF_R, zw_same, zw_cell, zw_ne, zF_at, zF_ne, ↓zib_118, ↓zxb_118_0, ↓zxb_118_1, ↓zxb_118_2, ↓zxb_118_3, ↓zxb_118_7, ↓zxb_118_8, ↓zxb_118_9, ↓zxb_118_10, ↓zxb_118_11, ↓zxb_118_12, ↓zxb_118_13, ↓zxb_118_14, ↓zxb_118_15, ↓zxb_118_17, ↓zxb_118_18, ↓zxb_118_19, ↓zxb_118_21, ↓zxb_118_22, ↓zxb_118_24, ↓zxb_118_25, ↓zxb_118_30, ↓zxb_118_35, ↓zxb_118_36, ↓zxb_118_37, ↓zxb_118_38, ↓zxb_118_39, ↓zxb_118_41, ↓zxb_118_42, ↓zxb_118_44, ↓zxb_118_45, ↓zxb_118_46, ↓zgb_119, ↓zsb_119, ↓zgb_120, ↓zsb_120, ↓zgb_121, ↓zsb_121, ↓zgb_122, ↓zsb_122, ↓zgb_123, ↓zsb_123, ↓zgb_124, ↓zsb_124, ↓zgb_125, ↓zsb_125, ↓zgb_126, ↓zsb_126, ↓zgb_127, ↓zsb_127, ↓zgb_128, ↓zsb_128, ↓zgb_129, ↓zsb_129, ↓zgb_130, ↓zsb_130, ↓zgb_131, ↓zsb_131, ↓zgb_132, ↓zsb_132, ↓zgb_133, ↓zsb_133, ↓zgb_134, ↓zsb_134, ↓zgb_135, ↓zsb_135, ↓zgb_136, ↓zsb_136, ↓zgb_137, ↓zsb_137, ↓zgb_139, ↓zsb_139, ↓zgb_140, ↓zsb_140, ↓zgb_141, ↓zsb_141, ↓zgb_142, ↓zsb_142, ↓zgb_143, ↓zsb_143, ↓zgb_144, ↓zsb_144, ↓zgb_145, ↓zsb_145, ↓zgb_146, ↓zsb_146, ↓zgb_147, ↓zsb_147, zi_118, zx_118_0, zx_118_1, zx_118_2, zx_118_3, zx_118_7, zx_118_8, zx_118_9, zx_118_10, zx_118_11, zx_118_12, zx_118_13, zx_118_14, zx_118_15, zx_118_17, zx_118_18, zx_118_19, zx_118_21, zx_118_22, zx_118_24, zx_118_25, zx_118_30, zx_118_35, zx_118_36, zx_118_37, zx_118_38, zx_118_39, zx_118_41, zx_118_42, zx_118_44, zx_118_45, zx_118_46, zgI_119, zsI_119, zgI_120, zsI_120, zgI_121, zsI_121, zgI_122, zsI_122, zgI_123, zsI_123, zgI_124, zsI_124, zgI_125, zsI_125, zgI_126, zsI_126, zgI_127, zsI_127, zgI_128, zsI_128, zgI_129, zsI_129, zgI_130, zsI_130, zgI_131, zsI_131, zgI_132, zsI_132, zgI_133, zsI_133, zgI_134, zsI_134, zgI_135, zsI_135, zgI_136, zsI_136, zgI_137, zsI_137, zgI_139, zsI_139, zgI_140, zsI_140, zgI_141, zsI_141, zgI_142, zsI_142, zgI_143, zsI_143, zgI_144, zsI_144, zgI_145, zsI_145, zgI_146, zsI_146, zgI_147, zsI_147, zb_272_53]
          refine below σ2 (fun i' m' hi' hm' => ?_) hK2
          rw [j1 i' m' hi' hm', if_pos hm']
      have key : ∀ d j, j + d = i → r ≤ j → zW 272 (16, [(0, .ref 118), (1, .int (nI h)), (2, .int (nI w)), (3, .int (nI p)), (4, .int (nI r)), (5, .int (nI c)), (6, .int (nI j))], [], zL, σ1, 0, 0) (fun q => ∃ σ', q = (some (.int (nI (zrk p h M w).1)), zL, σ') ∧ zKeep zF147 σ σ') := by
        intro d
        induction d with
        | zero =>
          intro j hj hrj
          have : j = i := by omega
          subst this
          have hv := hg j c a1 hc
          have f1 : (nI h ≤ nI j) = False := zd_leF a1 (by omega)
          have f2 : (nI (Mc j c) = nI 0) = False := zd_eqF a3 (by omega) (by omega)
          have i1 : nI 16 * nI j + nI c = nI (16 * j + c) := by rw [pk_mul, nI_add]
          refine zW_of zg_272_16 ?_
          simp only [zb_272_16, zn0, f1, if_false, zi_118, Option.bind_some, zx_118_44 hF1, zm_opt, i1, zgI_147 (show 16 * j + c < 240 by omega), hv, f2, not_false_eq_true, if_true, zE_l]
          exact swap
        | succ d ihd =>
          intro j hj hrj
          exact skip _ j hrj (by omega) (hbef j hrj (by omega)) (ihd (j + 1) (by omega) (by omega))
      exact key (i - r) r (by omega) (Nat.le_refl _)
  · obtain ⟨hg, hK1⟩ := hI
    refine zW_of zg_272_6 ?_
    simp (disch := first | assumption | omega) only [zn0, zn1, Option.bind_some, zm_ai, zm_al, zm_av, zm_opt, zm_fw, zE_l, zE_r, nI_add, pk_mul, pk_sub, pk_div, pk_rem, zrem, zpm1, zB_i0, zB_i1, zB_ok, zB_T, zB_F, nI_toInt, zT_sub, zT_neg, zT_le, zT_lt, nI_eq, zne1, zne2, zne9, ite_not, or_true, true_or, if_true, if_false, if_pos, if_neg, zw_R, zw_RL, zw_I, zF_R, zw_same, zw_cell, zw_ne, zF_at, zF_ne, ↓zib_118, ↓zxb_118_0, ↓zxb_118_1, ↓zxb_118_2, ↓zxb_118_3, ↓zxb_118_7, ↓zxb_118_8, ↓zxb_118_9, ↓zxb_118_10, ↓zxb_118_11, ↓zxb_118_12, ↓zxb_118_13, ↓zxb_118_14, ↓zxb_118_15, ↓zxb_118_17, ↓zxb_118_18, ↓zxb_118_19, ↓zxb_118_21, ↓zxb_118_22, ↓zxb_118_24, ↓zxb_118_25, ↓zxb_118_30, ↓zxb_118_35, ↓zxb_118_36, ↓zxb_118_37, ↓zxb_118_38, ↓zxb_118_39, ↓zxb_118_41, ↓zxb_118_42, ↓zxb_118_44, ↓zxb_118_45, ↓zxb_118_46, ↓zgb_119, ↓zsb_119, ↓zgb_120, ↓zsb_120, ↓zgb_121, ↓zsb_121, ↓zgb_122, ↓zsb_122, ↓zgb_123, ↓zsb_123, ↓zgb_124, ↓zsb_124, ↓zgb_125, ↓zsb_125, ↓zgb_126, ↓zsb_126, ↓zgb_127, ↓zsb_127, ↓zgb_128, ↓zsb_128, ↓zgb_129, ↓zsb_129, ↓zgb_130, ↓zsb_130, ↓zgb_131, ↓zsb_131, ↓zgb_132, ↓zsb_132, ↓zgb_133, ↓zsb_133, ↓zgb_134, ↓zsb_134, ↓zgb_135, ↓zsb_135, ↓zgb_136, ↓zsb_136, ↓zgb_137, ↓zsb_137, ↓zgb_139, ↓zsb_139, ↓zgb_140, ↓zsb_140, ↓zgb_141, ↓zsb_141, ↓zgb_142, ↓zsb_142, ↓zgb_143, ↓zsb_143, ↓zgb_144, ↓zsb_144, ↓zgb_145, ↓zsb_145, ↓zgb_146, ↓zsb_146, ↓zgb_147, ↓zsb_147, zi_118, zx_118_0, zx_118_1, zx_118_2, zx_118_3, zx_118_7, zx_118_8, zx_118_9, zx_118_10, zx_118_11, zx_118_12, zx_118_13, zx_118_14, zx_118_15, zx_118_17, zx_118_18, zx_118_19, zx_118_21, zx_118_22, zx_118_24, zx_118_25, zx_118_30, zx_118_35, zx_118_36, zx_118_37, zx_118_38, zx_118_39, zx_118_41, zx_118_42, zx_118_44, zx_118_45, zx_118_46, zgI_119, zsI_119, zgI_120, zsI_120, zgI_121, zsI_121, zgI_122, zsI_122, zgI_123, zsI_123, zgI_124, zsI_124, zgI_125, zsI_125, zgI_126, zsI_126, zgI_127, zsI_127, zgI_128, zsI_128, zgI_129, zsI_129, zgI_130, zsI_130, zgI_131, zsI_131, zgI_132, zsI_132, zgI_133, zsI_133, zgI_134, zsI_134, zgI_135, zsI_135, zgI_136, zsI_136, zgI_137, zsI_137, zgI_139, zsI_139, zgI_140, zsI_140, zgI_141, zsI_141, zgI_142, zsI_142, zgI_143, zsI_143, zgI_144, zsI_144, zgI_145, zsI_145, zgI_146, zsI_146, zgI_147, zsI_147, zb_272_6]
    exact ⟨σ1, rfl, hK1⟩
end ZMA
