/-! calls: odds, mid -/
def zs (f : Nat → Nat) : Nat → Nat
  | 0 => 0
  | n + 1 => zs f n + f n
theorem zs_add (f g : Nat → Nat) : ∀ n, zs (fun i => f i + g i) n = zs f n + zs g n
  | 0 => rfl
  | n + 1 => by
    show zs (fun i => f i + g i) n + (f n + g n) = (zs f n + f n) + (zs g n + g n)
    rw [zs_add f g n]
    omega
theorem zs_ext {f g : Nat → Nat} : ∀ {n : Nat}, (∀ i, i < n → f i = g i) → zs f n = zs g n
  | 0, _ => rfl
  | n + 1, h => by
    show zs f n + f n = zs g n + g n
    rw [zs_ext (n := n) fun i hi => h i (by omega), h n (by omega)]
theorem zs_zero : ∀ n, zs (fun _ => 0) n = 0
  | 0 => rfl
  | n + 1 => zs_zero n
theorem zs_swap (c : Nat → Nat → Nat) (L : Nat) : ∀ P, zs (fun p => zs (fun l => c p l) L) P = zs (fun l => zs (fun p => c p l) P) L
  | 0 => (zs_zero L).symm
  | P + 1 => by
    show zs (fun p => zs (fun l => c p l) L) P + zs (fun l => c P l) L = zs (fun l => zs (fun p => c p l) P + c P l) L
    rw [zs_add, zs_swap c L P]
theorem zs_none (f : Nat → Nat) (p0 : Nat) : ∀ {P : Nat}, P ≤ p0 → zs (fun p => if p = p0 then f p else 0) P = 0
  | 0, _ => rfl
  | P + 1, h => by
    show zs (fun p => if p = p0 then f p else 0) P + (if P = p0 then f P else 0) = 0
    rw [zs_none f p0 (P := P) (by omega), if_neg (by omega)]
theorem zs_one (f : Nat → Nat) (p0 : Nat) : ∀ {P : Nat}, p0 < P → zs (fun p => if p = p0 then f p else 0) P = f p0
  | P + 1, h => by
    show zs (fun p => if p = p0 then f p else 0) P + (if P = p0 then f P else 0) = f p0
    by_cases e : P = p0
    · rw [zs_none f p0 (P := P) (by omega), if_pos e, e, Nat.zero_add]
    · rw [zs_one f p0 (P := P) (by omega), if_neg e]
      rfl
theorem zs_two (f : Nat → Nat) : ∀ g, zs f (2 * g) = zs (fun x => f (2 * x) + f (2 * x + 1)) g
  | 0 => rfl
  | g + 1 => by
    show zs f (2 * g) + f (2 * g) + f (2 * g + 1) = zs (fun x => f (2 * x) + f (2 * x + 1)) g + (f (2 * g) + f (2 * g + 1))
    rw [zs_two f g]
    omega
theorem zs_le {f : Nat → Nat} {b : Nat} : ∀ {n : Nat}, (∀ i, i < n → f i ≤ b) → zs f n ≤ n * b
  | 0, _ => by show 0 ≤ _; omega
  | n + 1, h => by
    have h1 := zs_le (n := n) fun i hi => h i (by omega)
    have h2 := h n (by omega)
    show zs f n + f n ≤ (n + 1) * b
    rw [Nat.succ_mul]
    omega
/-- how many words come to a point -/
def zst (G : zG) (ch : Nat → Nat) (q : Nat) : Nat := zs (fun x => ch (G.2.2.1 x q) + ch (G.2.2.2.1 x q)) G.2.1
def zch (G : zG) (k : Nat) : Nat → Nat → Nat
  | 0 => fun p => if p = k then 1 else 0
  | a + 1 => zst G (zch G k a)
def zpc (G : zG) (ch : Nat → Nat) (q p l : Nat) : Nat := if zmv G p (zlt l) = q then ch p else 0
section ZOD
variable {σ σ' : zm_Sig} {a : Nat} {G : zG} {ds : List zDd} {ks : zKs} {R T : zRo} {K : zK} {t : zT}
theorem zlt_e (x : Nat) : zlt (2 * x) = nI (x + 1) := by
  unfold zlt
  rw [if_pos (by omega), show 2 * x / 2 = x by omega]
theorem zlt_o (x : Nat) : zlt (2 * x + 1) = -nI (x + 1) := by
  unfold zlt
  rw [if_neg (by omega), show (2 * x + 1) / 2 = x by omega]
theorem zpush_pull (hv : zGv G) (ch : Nat → Nat) {q : Nat} (hq : q < G.1) : zs (fun p => zs (fun l => zpc G ch q p l) (2 * G.2.1)) G.1 = zst G ch q := by
  rw [zs_swap, zs_two]
  unfold zst
  refine zs_ext fun x hx => ?_
  have v2 := hv.2.1
  obtain ⟨b1, b2, b3, b4⟩ := hv.2.2.2.1 x q hx hq
  have e1 : zs (fun p => zpc G ch q p (2 * x)) G.1 = ch (G.2.2.2.1 x q) := by
    rw [← zs_one ch (G.2.2.2.1 x q) b2]
    refine zs_ext fun p hp => ?_
    unfold zpc
    rw [zlt_e, zmv_p G p (by omega)]
    obtain ⟨c1, c2, c3, c4⟩ := hv.2.2.2.1 x p hx hp
    by_cases e : p = G.2.2.2.1 x q
    · rw [if_pos e, if_pos (by rw [e]; exact b4)]
    · rw [if_neg e, if_neg (fun z => e (by rw [← z]; exact c3.symm))]
  have e2 : zs (fun p => zpc G ch q p (2 * x + 1)) G.1 = ch (G.2.2.1 x q) := by
    rw [← zs_one ch (G.2.2.1 x q) b1]
    refine zs_ext fun p hp => ?_
    unfold zpc
    rw [zlt_o, zmv_n G p (by omega)]
    obtain ⟨c1, c2, c3, c4⟩ := hv.2.2.2.1 x p hx hp
    by_cases e : p = G.2.2.1 x q
    · rw [if_pos e, if_pos (by rw [e]; exact b3)]
    · rw [if_neg e, if_neg (fun z => e (by rw [← z]; exact c4.symm))]
  show zs (fun p => zpc G ch q p (2 * x)) G.1 + zs (fun p => zpc G ch q p (2 * x + 1)) G.1 = _
  rw [e1, e2, Nat.add_comm]
theorem zch_le (hv : zGv G) (k : Nat) : ∀ a p, zch G k a p ≤ (2 * G.2.1) ^ a
  | 0, p => by
    show (if p = k then 1 else 0) ≤ 1
    split <;> omega
  | a + 1, p => by
    have h := zs_le (f := fun x => zch G k a (G.2.2.1 x p) + zch G k a (G.2.2.2.1 x p)) (b := 2 * (2 * G.2.1) ^ a) (n := G.2.1) fun x _ => by
      have h1 := zch_le hv k a (G.2.2.1 x p)
      have h2 := zch_le hv k a (G.2.2.2.1 x p)
      show zch G k a (G.2.2.1 x p) + zch G k a (G.2.2.2.1 x p) ≤ _
      omega
    show zst G (zch G k a) p ≤ _
    unfold zst
    refine Nat.le_trans h ?_
    rw [Nat.pow_succ, ← Nat.mul_assoc, Nat.mul_comm G.2.1 2, Nat.mul_comm]
    exact Nat.le_refl _
theorem zpw (hv : zGv G) {n : Nat} (hn : n ≤ 8) : (2 * G.2.1) ^ n < 2 ^ 30 := by
  have h1 : 2 * G.2.1 ≤ 6 := by have := hv.2.1; omega
  have h2 : (2 * G.2.1) ^ n ≤ 6 ^ n := Nat.pow_le_pow_left h1 n
  have h3 : 6 ^ n ≤ 6 ^ 8 := Nat.pow_le_pow_right (by decide) hn
  have h4 : (6 : Nat) ^ 8 < 2 ^ 30 := by decide
  omega
/-- rows of longs -/
theorem zgL {lay : zm_Lay} {x n j : Nat} (h : lay[x]? = some (2, n)) (hj : j < n) (hn : n < 2147483648) : zm_gL lay σ x (nI j) = some (σ.2.1 x j) := by
  have ni : ¬ nI j < 0 := nI_pos (by omega)
  have ci : (nI j).toNatClampNeg = j := nI_clamp (by omega)
  unfold zm_gL
  rw [h]
  simp only [ci]
  rw [if_neg (by rintro (q | q); exact ni q; omega)]
theorem zsL {lay : zm_Lay} {x n j : Nat} {v : Int64} (h : lay[x]? = some (2, n)) (hj : j < n) (hn : n < 2147483648) : zm_sL lay σ x (nI j) v = some (zm_wL σ x j v) := by
  have ni : ¬ nI j < 0 := nI_pos (by omega)
  have ci : (nI j).toNatClampNeg = j := nI_clamp (by omega)
  unfold zm_sL
  rw [h]
  simp only [ci]
  rw [if_neg (by rintro (q | q); exact ni q; omega)]
theorem c_fillL {x n : Nat} (hx : zL[x]? = some (2, n)) (hn : n < 1000) (v : Int64) : ∃ σ', zM 156 [.ref x, .long v] zL σ = some (none, zL, σ') ∧ (∀ j, j < n → σ'.2.1 x j = v) ∧ zKeep (fun y _ => y == x) σ σ' := by
  have hln : zm_len zL x = some (nI n) := zlen (k := 1) hx
  refine zS_ex (zS_of ze_156 ?_)
  simp (disch := first | assumption | omega) only [zn0, zn1, Option.bind_some, zm_ai, zm_al, zm_av, zm_opt, zm_fw, zE_l, zE_r, nI_add, pk_mul, pk_sub, pk_div, pk_rem, zrem, zpm1, zB_i0, zB_i1, zB_ok, zB_T, zB_F, nI_toInt, zT_sub, zT_neg, zT_le, zT_lt, nI_eq, zne1, zne2, zne9, ite_not, or_true, true_or, if_true, if_false, if_pos, if_neg, zw_R, zw_RL, zw_I, zF_R, zw_same, zw_cell, zw_ne, zF_at, zF_ne, zb_156_0, hln]
  refine zloop (fun k σ1 => (6, [(0, .ref x), (1, .long v), (3, .int (nI k)), (4, .int (nI n))], [], zL, σ1, 0, 0)) (fun k σ1 => (∀ j, j < k → σ1.2.1 x j = v) ∧ zKeep (fun y _ => y == x) σ σ1) n (fun k σ1 hk hI ih => ?_) (fun σ1 hI => ?_) 0 σ (by omega) ⟨fun j hj => by omega, zKeep.rf _ _⟩
  · have e1 := zsL (σ := σ1) (v := v) hx hk (by omega)
    refine zW_of zg_156_6 ?_
    simp (disch := first | assumption | omega) only [zn0, zn1, Option.bind_some, zm_ai, zm_al, zm_av, zm_opt, zm_fw, zE_l, zE_r, nI_add, pk_mul, pk_sub, pk_div, pk_rem, zrem, zpm1, zB_i0, zB_i1, zB_ok, zB_T, zB_F, nI_toInt, zT_sub, zT_neg, zT_le, zT_lt, nI_eq, zne1, zne2, zne9, ite_not, or_true, true_or, if_true, if_false, if_pos, if_neg, zw_R, zw_RL, zw_I, zF_R, zw_same, zw_cell, zw_ne, zF_at, zF_ne, zb_156_6, e1]
    refine ih _ ⟨fun j hj => ?_, hI.2.wL (by simp)⟩
    rw [zL_at]
    split
    · rfl
    · exact hI.1 j (by omega)
  · refine zW_of zg_156_6 ?_
    simp (disch := first | assumption | omega) only [zn0, zn1, Option.bind_some, zm_ai, zm_al, zm_av, zm_opt, zm_fw, zE_l, zE_r, nI_add, pk_mul, pk_sub, pk_div, pk_rem, zrem, zpm1, zB_i0, zB_i1, zB_ok, zB_T, zB_F, nI_toInt, zT_sub, zT_neg, zT_le, zT_lt, nI_eq, zne1, zne2, zne9, ite_not, or_true, true_or, if_true, if_false, if_pos, if_neg, zw_R, zw_RL, zw_I, zF_R, zw_same, zw_cell, zw_ne, zF_at, zF_ne, zb_156_6]
    exact ⟨σ1, rfl, hI⟩
def zF77 (x k : Nat) : Bool := x == 77 || x == 78
theorem zF77_scr (hK : zKeep zF77 σ σ') : zKeep zScr σ σ' := hK.mo fun x k q => by
  simp only [zF77, Bool.or_eq_true, beq_iff_eq] at q
  simp only [zScr, Bool.or_eq_true, Bool.and_eq_true, decide_eq_true_eq, beq_iff_eq]
  omega
theorem zcpyL : ∃ σ', zm_cpy zL σ 78 (nI 0) 77 (nI 0) (nI 5) = some σ' ∧ (∀ q, q < 5 → σ'.2.1 77 q = σ.2.1 78 q) ∧ zKeep zF77 σ σ' := by
  refine ⟨(σ.1, va_up σ.2.1 77 (va_cpy (σ.2.1 78) (σ.2.1 77) 0 0 5), σ.2.2), ?_, fun q hq => ?_, fun x k h => ⟨rfl, ?_, rfl⟩⟩
  · rfl
  · show va_up σ.2.1 77 (va_cpy (σ.2.1 78) (σ.2.1 77) 0 0 5) 77 q = _
    simp only [va_up, if_true]
    rw [pk_cpy_in (by omega) (by omega)]
    congr 1
    omega
  · have : x ≠ 77 := fun e => by rw [e] at h; cases h
    show va_up σ.2.1 77 (va_cpy (σ.2.1 78) (σ.2.1 77) 0 0 5) x k = _
    simp only [va_up, if_neg this]
theorem c_spread {ch : Nat → Nat} (hC : zC σ a R T K G ds ks) (hV : zVk G ds ks) (h : ∀ p, p < G.1 → σ.2.1 77 p = lN (ch p)) : ∃ σ', zM 157 [.ref 0] zL σ = some (none, zL, σ') ∧ (∀ q, q < G.1 → σ'.2.1 77 q = lN (zst G ch q)) ∧ zKeep zF77 σ σ' := by
  have hv := hV.1
  have v1 := hv.1
  have v2 := hv.2.1
  have hF := hC.1
  obtain ⟨σ0, e0, f0, hK0⟩ := c_fillL (σ := σ) (x := 78) (n := 5) rfl (by decide) (Int64.ofNat 0)
  have hK0' : zKeep zF77 σ σ0 := hK0.mo fun x k q => by simp only [beq_iff_eq] at q; simp [zF77, q]
  refine zS_ex (zS_of ze_157 ?_)
  simp (disch := first | assumption | omega) only [zn0, zn1, Option.bind_some, zm_ai, zm_al, zm_av, zm_opt, zm_fw, zE_l, zE_r, nI_add, pk_mul, pk_sub, pk_div, pk_rem, zrem, zpm1, zB_i0, zB_i1, zB_ok, zB_T, zB_F, nI_toInt, zT_sub, zT_neg, zT_le, zT_lt, nI_eq, zne1, zne2, zne9, ite_not, or_true, true_or, if_true, if_false, if_pos, if_neg, zw_R, zw_RL, zw_I, zF_R, zw_same, zw_cell, zw_ne, zF_at, zF_ne, zi_0, zi_1, zi_10, zi_17, zi_19, zi_20, zi_30, zi_48, zi_50, zi_52, zi_57, zi_59, zi_80, zi_93, zi_106, zi_110, zi_114, zx_0_0, zx_0_1, zx_0_2, zx_0_3, zx_0_4, zx_0_5, zx_0_6, zx_0_7, zx_0_8, zx_0_9, zx_0_10, zx_1_0, zx_1_1, zx_2_0, zx_2_1, zx_2_2, zx_2_3, zx_2_4, zx_2_5, zx_10_0, zx_10_1, zx_11_0, zx_11_1, zx_11_2, zx_11_3, zx_17_0, zx_19_0, zx_19_1, zx_19_2, zx_20_0, zx_20_1, zx_20_3, zx_20_4, zx_20_5, zx_20_6, zx_20_7, zx_20_8, zx_20_9, zx_30_0, zx_30_1, zx_30_4, zx_30_5, zx_48_0, zx_50_0, zx_52_0, zx_52_1, zx_52_2, zx_56_0, zx_56_1, zx_56_2, zx_57_0, zx_59_0, zx_80_3, zx_80_4, zx_80_5, zx_81_0, zx_81_1, zx_81_2, zx_81_3, zx_81_4, zx_81_5, zx_88_0, zx_88_1, zx_88_2, zx_93_3, zx_93_4, zx_93_5, zx_94_0, zx_94_1, zx_94_2, zx_94_3, zx_94_4, zx_94_5, zx_101_0, zx_101_1, zx_101_2, zx_106_0, zx_106_1, zx_106_2, zx_110_0, zx_110_1, zx_110_2, zx_114_0, zx_114_1, zx_114_2, zgI_9, zsI_9, zgI_16, zsI_16, zgI_18, zsI_18, zgI_21, zsI_21, zgI_22, zsI_22, zgI_23, zsI_23, zgI_24, zsI_24, zgI_25, zsI_25, zgI_26, zsI_26, zgI_27, zsI_27, zgI_28, zsI_28, zgI_29, zsI_29, zgI_47, zsI_47, zgI_49, zsI_49, zgI_51, zsI_51, zgI_53, zsI_53, zgI_54, zsI_54, zgI_55, zsI_55, zgI_58, zsI_58, zgI_76, zsI_76, zgI_79, zsI_79, zb_157_0, e0]
  refine zloop (fun p σ1 => (10, [(0, .ref 0), (1, .int (nI p))], [], zL, σ1, 0, 0)) (fun p σ1 => (∀ q, q < 5 → σ1.2.1 78 q = lN (zs (fun p => zs (fun l => zpc G ch q p l) (2 * G.2.1)) p)) ∧ (∀ q, q < G.1 → σ1.2.1 77 q = lN (ch q)) ∧ zKeep zF77 σ σ1) G.1 (fun p σ1 hp hI ih => ?_) (fun σ1 hI => ?_) 0 σ0 (by omega) ⟨fun q hq => f0 q hq, fun q hq => by rw [hK0.l rfl]; exact h q hq, hK0'⟩
  · obtain ⟨i1, i2, hK1⟩ := hI
    have hC1 := hC.scr hV (zF77_scr hK1)
    obtain ⟨hF1, -, -, -, ha, hcu, -, hG, -⟩ := id hC1
    have hai := zGo_i ha
    have g1 := hG.1
    refine zW_of zg_157_10 ?_
    simp (disch := first | assumption | omega) only [zn0, zn1, Option.bind_some, zm_ai, zm_al, zm_av, zm_opt, zm_fw, zE_l, zE_r, nI_add, pk_mul, pk_sub, pk_div, pk_rem, zrem, zpm1, zB_i0, zB_i1, zB_ok, zB_T, zB_F, nI_toInt, zT_sub, zT_neg, zT_le, zT_lt, nI_eq, zne1, zne2, zne9, ite_not, or_true, true_or, if_true, if_false, if_pos, if_neg, zw_R, zw_RL, zw_I, zF_R, zw_same, zw_cell, zw_ne, zF_at, zF_ne, zi_0, zi_1, zi_10, zi_17, zi_19, zi_20, zi_30, zi_48, zi_50, zi_52, zi_57, zi_59, zi_80, zi_93, zi_106, zi_110, zi_114, zx_0_0, zx_0_1, zx_0_2, zx_0_3, zx_0_4, zx_0_5, zx_0_6, zx_0_7, zx_0_8, zx_0_9, zx_0_10, zx_1_0, zx_1_1, zx_2_0, zx_2_1, zx_2_2, zx_2_3, zx_2_4, zx_2_5, zx_10_0, zx_10_1, zx_11_0, zx_11_1, zx_11_2, zx_11_3, zx_17_0, zx_19_0, zx_19_1, zx_19_2, zx_20_0, zx_20_1, zx_20_3, zx_20_4, zx_20_5, zx_20_6, zx_20_7, zx_20_8, zx_20_9, zx_30_0, zx_30_1, zx_30_4, zx_30_5, zx_48_0, zx_50_0, zx_52_0, zx_52_1, zx_52_2, zx_56_0, zx_56_1, zx_56_2, zx_57_0, zx_59_0, zx_80_3, zx_80_4, zx_80_5, zx_81_0, zx_81_1, zx_81_2, zx_81_3, zx_81_4, zx_81_5, zx_88_0, zx_88_1, zx_88_2, zx_93_3, zx_93_4, zx_93_5, zx_94_0, zx_94_1, zx_94_2, zx_94_3, zx_94_4, zx_94_5, zx_101_0, zx_101_1, zx_101_2, zx_106_0, zx_106_1, zx_106_2, zx_110_0, zx_110_1, zx_110_2, zx_114_0, zx_114_1, zx_114_2, zgI_9, zsI_9, zgI_16, zsI_16, zgI_18, zsI_18, zgI_21, zsI_21, zgI_22, zsI_22, zgI_23, zsI_23, zgI_24, zsI_24, zgI_25, zsI_25, zgI_26, zsI_26, zgI_27, zsI_27, zgI_28, zsI_28, zgI_29, zsI_29, zgI_47, zsI_47, zgI_49, zsI_49, zgI_51, zsI_51, zgI_53, zsI_53, zgI_54, zsI_54, zgI_55, zsI_55, zgI_58, zsI_58, zgI_76, zsI_76, zgI_79, zsI_79, zb_157_10, hcu, hai, g1]
    refine zloop (fun l σ2 => (23, [(0, .ref 0), (1, .int (nI p)), (2, .int (nI l))], [], zL, σ2, 0, 0)) (fun l σ2 => (∀ q, q < 5 → σ2.2.1 78 q = lN (zs (fun p => zs (fun l => zpc G ch q p l) (2 * G.2.1)) p + zs (fun l => zpc G ch q p l) l)) ∧ (∀ q, q < G.1 → σ2.2.1 77 q = lN (ch q)) ∧ zKeep zF77 σ σ2) (2 * G.2.1) (fun l σ2 hl hI2 ih2 => ?_) (fun σ2 hI2 => ?_) 0 σ1 (by omega) ⟨i1, i2, hK1⟩
    · obtain ⟨j1, j2, hK2⟩ := hI2
      have hC2 := hC.scr hV (zF77_scr hK2)
      obtain ⟨hF2, -, -, -, ha2, hcu2, -, hG2, -⟩ := id hC2
      have hai2 := zGo_i ha2
      have g2 := hG2.2.1
      have hlt := zlt_ok hl
      have hm := zmv_lt hv hp hlt
      have e1 := c_letterOf (σ := σ2) (l := l) (by omega)
      have e2 := c_moved hF2 ha2 hG2 hv hp hlt
      have e3 := zgL (σ := σ2) (x := 78) (n := 5) rfl (show zmv G p (zlt l) < 5 by omega) (by decide)
      have e4 := zgL (σ := σ2) (x := 77) (n := 5) rfl (show p < 5 by omega) (by decide)
      have e5 : ∀ v, zm_sL zL σ2 78 (nI (zmv G p (zlt l))) v = some (zm_wL σ2 78 (zmv G p (zlt l)) v) := fun v => zsL rfl (by omega) (by decide)
      refine zW_of zg_157_23 ?_
      simp (disch := first | assumption | omega) only [zn0, zn1, Option.bind_some, zm_ai, zm_al, zm_av, zm_opt, zm_fw, zE_l, zE_r, nI_add, pk_mul, pk_sub, pk_div, pk_rem, zrem, zpm1, zB_i0, zB_i1, zB_ok, zB_T, zB_F, nI_toInt, zT_sub, zT_neg, zT_le, zT_lt, nI_eq, zne1, zne2, zne9, ite_not, or_true, true_or, if_true, if_false, if_pos, if_neg, zw_R, zw_RL, zw_I, zF_R, zw_same, zw_cell, zw_ne, zF_at, zF_ne, zi_0, zi_1, zi_10, zi_17, zi_19, zi_20, zi_30, zi_48, zi_50, zi_52, zi_57, zi_59, zi_80, zi_93, zi_106, zi_110, zi_114, zx_0_0, zx_0_1, zx_0_2, zx_0_3, zx_0_4, zx_0_5, zx_0_6, zx_0_7, zx_0_8, zx_0_9, zx_0_10, zx_1_0, zx_1_1, zx_2_0, zx_2_1, zx_2_2, zx_2_3, zx_2_4, zx_2_5, zx_10_0, zx_10_1, zx_11_0, zx_11_1, zx_11_2, zx_11_3, zx_17_0, zx_19_0, zx_19_1, zx_19_2, zx_20_0, zx_20_1, zx_20_3, zx_20_4, zx_20_5, zx_20_6, zx_20_7, zx_20_8, zx_20_9, zx_30_0, zx_30_1, zx_30_4, zx_30_5, zx_48_0, zx_50_0, zx_52_0, zx_52_1, zx_52_2, zx_56_0, zx_56_1, zx_56_2, zx_57_0, zx_59_0, zx_80_3, zx_80_4, zx_80_5, zx_81_0, zx_81_1, zx_81_2, zx_81_3, zx_81_4, zx_81_5, zx_88_0, zx_88_1, zx_88_2, zx_93_3, zx_93_4, zx_93_5, zx_94_0, zx_94_1, zx_94_2, zx_94_3, zx_94_4, zx_94_5, zx_101_0, zx_101_1, zx_101_2, zx_106_0, zx_106_1, zx_106_2, zx_110_0, zx_110_1, zx_110_2, zx_114_0, zx_114_1, zx_114_2, zgI_9, zsI_9, zgI_16, zsI_16, zgI_18, zsI_18, zgI_21, zsI_21, zgI_22, zsI_22, zgI_23, zsI_23, zgI_24, zsI_24, zgI_25, zsI_25, zgI_26, zsI_26, zgI_27, zsI_27, zgI_28, zsI_28, zgI_29, zsI_29, zgI_47, zsI_47, zgI_49, zsI_49, zgI_51, zsI_51, zgI_53, zsI_53, zgI_54, zsI_54, zgI_55, zsI_55, zgI_58, zsI_58, zgI_76, zsI_76, zgI_79, zsI_79, zb_157_23, hcu2, hai2, g2, e1, e2, e3, e4, e5]
      refine ih2 _ ⟨fun q hq => ?_, fun q hq => ?_, hK2.wL rfl⟩
      · rw [zL_at]
        have hss : zs (fun l => zpc G ch q p l) (l + 1) = zs (fun l => zpc G ch q p l) l + zpc G ch q p l := rfl
        rw [hss]
        by_cases e : q = zmv G p (zlt l)
        · rw [if_pos e, ← e, j1 q hq, j2 p hp, lN_add]
          unfold zpc
          rw [if_pos e.symm]
          congr 1
          omega
        · rw [if_neg e, j1 q hq]
          have : zpc G ch q p l = 0 := if_neg fun z => e z.symm
          rw [this, Nat.add_zero]
      · rw [zL_ne _ _ (by decide)]
        exact j2 q hq
    · obtain ⟨j1, j2, hK2⟩ := hI2
      have hC2 := hC.scr hV (zF77_scr hK2)
      obtain ⟨hF2, -, -, -, ha2, hcu2, -, hG2, -⟩ := id hC2
      have hai2 := zGo_i ha2
      have g2 := hG2.2.1
      refine zW_of zg_157_23 ?_
      simp (disch := first | assumption | omega) only [zn0, zn1, Option.bind_some, zm_ai, zm_al, zm_av, zm_opt, zm_fw, zE_l, zE_r, nI_add, pk_mul, pk_sub, pk_div, pk_rem, zrem, zpm1, zB_i0, zB_i1, zB_ok, zB_T, zB_F, nI_toInt, zT_sub, zT_neg, zT_le, zT_lt, nI_eq, zne1, zne2, zne9, ite_not, or_true, true_or, if_true, if_false, if_pos, if_neg, zw_R, zw_RL, zw_I, zF_R, zw_same, zw_cell, zw_ne, zF_at, zF_ne, zi_0, zi_1, zi_10, zi_17, zi_19, zi_20, zi_30, zi_48, zi_50, zi_52, zi_57, zi_59, zi_80, zi_93, zi_106, zi_110, zi_114, zx_0_0, zx_0_1, zx_0_2, zx_0_3, zx_0_4, zx_0_5, zx_0_6, zx_0_7, zx_0_8, zx_0_9, zx_0_10, zx_1_0, zx_1_1, zx_2_0, zx_2_1, zx_2_2, zx_2_3, zx_2_4, zx_2_5, zx_10_0, zx_10_1, zx_11_0, zx_11_1, zx_11_2, zx_11_3, zx_17_0, zx_19_0, zx_19_1, zx_19_2, zx_20_0, zx_20_1, zx_20_3, zx_20_4, zx_20_5, zx_20_6, zx_20_7, zx_20_8, zx_20_9, zx_30_0, zx_30_1, zx_30_4, zx_30_5, zx_48_0, zx_50_0, zx_52_0, zx_52_1, zx_52_2, zx_56_0, zx_56_1, zx_56_2, zx_57_0, zx_59_0, zx_80_3, zx_80_4, zx_80_5, zx_81_0, zx_81_1, zx_81_2, zx_81_3, zx_81_4, zx_81_5, zx_88_0, zx_88_1, zx_88_2, zx_93_3, zx_93_4, zx_93_5, zx_94_0, zx_94_1, zx_94_2, zx_94_3, zx_94_4, zx_94_5, zx_101_0, zx_101_1, zx_101_2, zx_106_0, zx_106_1, zx_106_2, zx_110_0, zx_110_1, zx_110_2, zx_114_0, zx_114_1, zx_114_2, zgI_9, zsI_9, zgI_16, zsI_16, zgI_18, zsI_18, zgI_21, zsI_21, zgI_22, zsI_22, zgI_23, zsI_23, zgI_24, zsI_24, zgI_25, zsI_25, zgI_26, zsI_26, zgI_27, zsI_27, zgI_28, zsI_28, zgI_29, zsI_29, zgI_47, zsI_47, zgI_49, zsI_49, zgI_51, zsI_51, zgI_53, zsI_53, zgI_54, zsI_54, zgI_55, zsI_55, zgI_58, zsI_58, zgI_76, zsI_76, zgI_79, zsI_79, zb_157_23, hcu2, hai2, g2]
      exact ih σ2 ⟨j1, j2, hK2⟩
  · obtain ⟨i1, i2, hK1⟩ := hI
    have hC1 := hC.scr hV (zF77_scr hK1)
    obtain ⟨hF1, -, -, -, ha, hcu, -, hG, -⟩ := id hC1
    have hai := zGo_i ha
    have g1 := hG.1
    obtain ⟨σ2, e2, c2, hK2⟩ := zcpyL (σ := σ1)
    refine zW_of zg_157_10 ?_
    simp (disch := first | assumption | omega) only [zn0, zn1, Option.bind_some, zm_ai, zm_al, zm_av, zm_opt, zm_fw, zE_l, zE_r, nI_add, pk_mul, pk_sub, pk_div, pk_rem, zrem, zpm1, zB_i0, zB_i1, zB_ok, zB_T, zB_F, nI_toInt, zT_sub, zT_neg, zT_le, zT_lt, nI_eq, zne1, zne2, zne9, ite_not, or_true, true_or, if_true, if_false, if_pos, if_neg, zw_R, zw_RL, zw_I, zF_R, zw_same, zw_cell, zw_ne, zF_at, zF_ne, zi_0, zi_1, zi_10, zi_17, zi_19, zi_20, zi_30, zi_48, zi_50, zi_52, zi_57, zi_59, zi_80, zi_93, zi_106, zi_110, zi_114, zx_0_0, zx_0_1, zx_0_2, zx_0_3, zx_0_4, zx_0_5, zx_0_6, zx_0_7, zx_0_8, zx_0_9, zx_0_10, zx_1_0, zx_1_1, zx_2_0, zx_2_1, zx_2_2, zx_2_3, zx_2_4, zx_2_5, zx_10_0, zx_10_1, zx_11_0, zx_11_1, zx_11_2, zx_11_3, zx_17_0, zx_19_0, zx_19_1, zx_19_2, zx_20_0, zx_20_1, zx_20_3, zx_20_4, zx_20_5, zx_20_6, zx_20_7, zx_20_8, zx_20_9, zx_30_0, zx_30_1, zx_30_4, zx_30_5, zx_48_0, zx_50_0, zx_52_0, zx_52_1, zx_52_2, zx_56_0, zx_56_1, zx_56_2, zx_57_0, zx_59_0, zx_80_3, zx_80_4, zx_80_5, zx_81_0, zx_81_1, zx_81_2, zx_81_3, zx_81_4, zx_81_5, zx_88_0, zx_88_1, zx_88_2, zx_93_3, zx_93_4, zx_93_5, zx_94_0, zx_94_1, zx_94_2, zx_94_3, zx_94_4, zx_94_5, zx_101_0, zx_101_1, zx_101_2, zx_106_0, zx_106_1, zx_106_2, zx_110_0, zx_110_1, zx_110_2, zx_114_0, zx_114_1, zx_114_2, zgI_9, zsI_9, zgI_16, zsI_16, zgI_18, zsI_18, zgI_21, zsI_21, zgI_22, zsI_22, zgI_23, zsI_23, zgI_24, zsI_24, zgI_25, zsI_25, zgI_26, zsI_26, zgI_27, zsI_27, zgI_28, zsI_28, zgI_29, zsI_29, zgI_47, zsI_47, zgI_49, zsI_49, zgI_51, zsI_51, zgI_53, zsI_53, zgI_54, zsI_54, zgI_55, zsI_55, zgI_58, zsI_58, zgI_76, zsI_76, zgI_79, zsI_79, zb_157_10, hcu, hai, g1, e2]
    refine ⟨σ2, rfl, fun q hq => ?_, hK1.tr hK2⟩
    rw [c2 q (by omega), i1 q (by omega), zpush_pull hv ch hq]
theorem zMsc_l (hK : zKeep (fun x _ => x == 148 || x == 149) σ σ') : zKeep zMsc σ σ' := hK.mo fun x k q => by
  simp only [Bool.or_eq_true, beq_iff_eq] at q
  simp only [zMsc, Bool.or_eq_true, Bool.and_eq_true, decide_eq_true_eq, beq_iff_eq]
  omega
theorem m_oddsLoop (hM : zMm σ R T K G ds ks) (hV : zVk G ds ks) {k m n : Nat} (hk : k < G.1) (hm : m < G.1) (hn : n ≤ 8) (hg0 : 0 < G.2.1) (Q : zm_Out → Prop)
    (hQ : ∀ σ', zMm σ' R T (zKu K (lN (zch G k n m / Nat.gcd (zch G k n m) ((2 * G.2.1) ^ n))) (lN ((2 * G.2.1) ^ n / Nat.gcd (zch G k n m) ((2 * G.2.1) ^ n)))) G ds ks → zKeep zRfs σ σ' → Q (some (.int (nI 1)), zL, σ')) :
    zW 276 (34, [(0, .ref 118), (1, .int (nI k)), (2, .int (nI m)), (3, .int (nI n)), (4, .long (Int64.ofNat 1)), (6, .int (nI 0))], [], zL, σ, 0, 0) Q := by
  have hv := hV.1
  have v1 := hv.1
  have v2 := hv.2.1
  have hF := hM.1
  refine zloop (fun i σ1 => (34, [(0, .ref 118), (1, .int (nI k)), (2, .int (nI m)), (3, .int (nI n)), (4, .long (Int64.ofNat 1)), (6, .int (nI i))], [], zL, σ1, 0, 0)) (fun i σ1 => (∀ q, q < i → σ1.2.1 148 q = lN (zch G k 0 q)) ∧ zKeep (fun x _ => x == 148 || x == 149) σ σ1) 5 (fun i σ1 hi hI ih => ?_) (fun σ1 hI => ?_) 0 σ (by omega) ⟨fun q hq => by omega, zKeep.rf _ _⟩
  · obtain ⟨i1, hK1⟩ := hI
    have hF1 := hK1.fix hF rfl
    have e1 : ∀ v, zm_sL zL σ1 148 (nI i) v = some (zm_wL σ1 148 i v) := fun v => zsL rfl hi (by decide)
    have fin : ∀ v, v = lN (zch G k 0 i) → zW 276 (34, [(0, .ref 118), (1, .int (nI k)), (2, .int (nI m)), (3, .int (nI n)), (4, .long (Int64.ofNat 1)), (6, .int (nI (i + 1)))], [], zL, zm_wL σ1 148 i v, 0, 0) Q := fun v hv => ih _ ⟨fun q hq => by
      rw [zL_at]
      split
      · next e => rw [e]; exact hv
      · exact i1 q (by omega), hK1.wL rfl⟩
    refine zW_of zg_276_34 ?_
    by_cases e : i = k
    · subst e
      simp (disch := first | assumption | omega) only [zn0, zn1, Option.bind_some, zm_ai, zm_al, zm_av, zm_opt, zm_fw, zE_l, zE_r, nI_add, pk_mul, pk_sub, pk_div, pk_rem, zrem, zpm1, zB_i0, zB_i1, zB_ok, zB_T, zB_F, nI_toInt, zT_sub, zT_neg, zT_le, zT_lt, nI_eq, zne1, zne2, zne9, ite_not, or_true, true_or, if_true, if_false, if_pos, if_neg, zw_R, zw_RL, zw_I, zF_R, zw_same, zw_cell, zw_ne, zF_at, zF_ne, zi_118, zx_118_0, zx_118_1, zx_118_2, zx_118_3, zx_118_7, zx_118_8, zx_118_9, zx_118_10, zx_118_11, zx_118_12, zx_118_13, zx_118_14, zx_118_15, zx_118_17, zx_118_18, zx_118_19, zx_118_21, zx_118_22, zx_118_24, zx_118_25, zx_118_30, zx_118_35, zx_118_36, zx_118_37, zx_118_38, zx_118_39, zx_118_41, zx_118_42, zx_118_44, zx_118_45, zx_118_46, zgI_119, zsI_119, zgI_120, zsI_120, zgI_121, zsI_121, zgI_122, zsI_122, zgI_123, zsI_123, zgI_124, zsI_124, zgI_125, zsI_125, zgI_126, zsI_126, zgI_127, zsI_127, zgI_128, zsI_128, zgI_129, zsI_129, zgI_130, zsI_130, zgI_131, zsI_131, zgI_132, zsI_132, zgI_133, zsI_133, zgI_134, zsI_134, zgI_135, zsI_135, zgI_136, zsI_136, zgI_137, zsI_137, zgI_139, zsI_139, zgI_140, zsI_140, zgI_141, zsI_141, zgI_142, zsI_142, zgI_143, zsI_143, zgI_144, zsI_144, zgI_145, zsI_145, zgI_146, zsI_146, zgI_147, zsI_147, zb_276_34, not_true, e1]
      exact fin _ (by show _ = lN (if i = i then 1 else 0); rw [if_pos rfl]; rfl)
    · simp (disch := first | assumption | omega) only [zn0, zn1, Option.bind_some, zm_ai, zm_al, zm_av, zm_opt, zm_fw, zE_l, zE_r, nI_add, pk_mul, pk_sub, pk_div, pk_rem, zrem, zpm1, zB_i0, zB_i1, zB_ok, zB_T, zB_F, nI_toInt, zT_sub, zT_neg, zT_le, zT_lt, nI_eq, zne1, zne2, zne9, ite_not, or_true, true_or, if_true, if_false, if_pos, if_neg, zw_R, zw_RL, zw_I, zF_R, zw_same, zw_cell, zw_ne, zF_at, zF_ne, zi_118, zx_118_0, zx_118_1, zx_118_2, zx_118_3, zx_118_7, zx_118_8, zx_118_9, zx_118_10, zx_118_11, zx_118_12, zx_118_13, zx_118_14, zx_118_15, zx_118_17, zx_118_18, zx_118_19, zx_118_21, zx_118_22, zx_118_24, zx_118_25, zx_118_30, zx_118_35, zx_118_36, zx_118_37, zx_118_38, zx_118_39, zx_118_41, zx_118_42, zx_118_44, zx_118_45, zx_118_46, zgI_119, zsI_119, zgI_120, zsI_120, zgI_121, zsI_121, zgI_122, zsI_122, zgI_123, zsI_123, zgI_124, zsI_124, zgI_125, zsI_125, zgI_126, zsI_126, zgI_127, zsI_127, zgI_128, zsI_128, zgI_129, zsI_129, zgI_130, zsI_130, zgI_131, zsI_131, zgI_132, zsI_132, zgI_133, zsI_133, zgI_134, zsI_134, zgI_135, zsI_135, zgI_136, zsI_136, zgI_137, zsI_137, zgI_139, zsI_139, zgI_140, zsI_140, zgI_141, zsI_141, zgI_142, zsI_142, zgI_143, zsI_143, zgI_144, zsI_144, zgI_145, zsI_145, zgI_146, zsI_146, zgI_147, zsI_147, zb_276_34, not_false, e1]
      exact fin _ (by show _ = lN (if i = k then 1 else 0); rw [if_neg e]; rfl)
  · obtain ⟨i1, hK1⟩ := hI
    have hF1 := hK1.fix hF rfl
    refine zW_of zg_276_34 ?_
    simp (disch := first | assumption | omega) only [zn0, zn1, Option.bind_some, zm_ai, zm_al, zm_av, zm_opt, zm_fw, zE_l, zE_r, nI_add, pk_mul, pk_sub, pk_div, pk_rem, zrem, zpm1, zB_i0, zB_i1, zB_ok, zB_T, zB_F, nI_toInt, zT_sub, zT_neg, zT_le, zT_lt, nI_eq, zne1, zne2, zne9, ite_not, or_true, true_or, if_true, if_false, if_pos, if_neg, zw_R, zw_RL, zw_I, zF_R, zw_same, zw_cell, zw_ne, zF_at, zF_ne, zi_118, zx_118_0, zx_118_1, zx_118_2, zx_118_3, zx_118_7, zx_118_8, zx_118_9, zx_118_10, zx_118_11, zx_118_12, zx_118_13, zx_118_14, zx_118_15, zx_118_17, zx_118_18, zx_118_19, zx_118_21, zx_118_22, zx_118_24, zx_118_25, zx_118_30, zx_118_35, zx_118_36, zx_118_37, zx_118_38, zx_118_39, zx_118_41, zx_118_42, zx_118_44, zx_118_45, zx_118_46, zgI_119, zsI_119, zgI_120, zsI_120, zgI_121, zsI_121, zgI_122, zsI_122, zgI_123, zsI_123, zgI_124, zsI_124, zgI_125, zsI_125, zgI_126, zsI_126, zgI_127, zsI_127, zgI_128, zsI_128, zgI_129, zsI_129, zgI_130, zsI_130, zgI_131, zsI_131, zgI_132, zsI_132, zgI_133, zsI_133, zgI_134, zsI_134, zgI_135, zsI_135, zgI_136, zsI_136, zgI_137, zsI_137, zgI_139, zsI_139, zgI_140, zsI_140, zgI_141, zsI_141, zgI_142, zsI_142, zgI_143, zsI_143, zgI_144, zsI_144, zgI_145, zsI_145, zgI_146, zsI_146, zgI_147, zsI_147, zb_276_34]
    refine zloop (fun b σ2 => (67, [(0, .ref 118), (2, .int (nI m)), (3, .int (nI n)), (4, .long (lN ((2 * G.2.1) ^ b))), (6, .int (nI b))], [], zL, σ2, 0, 0)) (fun b σ2 => (∀ q, q < G.1 → σ2.2.1 148 q = lN (zch G k b q)) ∧ zKeep (fun x _ => x == 148 || x == 149) σ σ2) n (fun b σ2 hb hI ih => ?_) (fun σ2 hI => ?_) 0 σ1 (by omega) ⟨fun q hq => i1 q (by omega), hK1⟩
    · obtain ⟨j1, hK2⟩ := hI
      have hM2 := hM.scr hV (zMsc_l hK2)
      have g2 := hM2.2.2.2.2.1.2.1
      have hF2 := hM2.1
      have hmul : lN ((2 * G.2.1) ^ b) * (Int64.ofNat 2 * (nI G.2.1).toInt64) = lN ((2 * G.2.1) ^ (b + 1)) := by
        rw [nI_l (by omega), Nat.pow_succ, ← lN_mul, ← lN_mul]
        rfl
      refine zW_of zg_276_67 ?_
      simp (disch := first | assumption | omega) only [zn0, zn1, Option.bind_some, zm_ai, zm_al, zm_av, zm_opt, zm_fw, zE_l, zE_r, nI_add, pk_mul, pk_sub, pk_div, pk_rem, zrem, zpm1, zB_i0, zB_i1, zB_ok, zB_T, zB_F, nI_toInt, zT_sub, zT_neg, zT_le, zT_lt, nI_eq, zne1, zne2, zne9, ite_not, or_true, true_or, if_true, if_false, if_pos, if_neg, zw_R, zw_RL, zw_I, zF_R, zw_same, zw_cell, zw_ne, zF_at, zF_ne, zi_118, zx_118_0, zx_118_1, zx_118_2, zx_118_3, zx_118_7, zx_118_8, zx_118_9, zx_118_10, zx_118_11, zx_118_12, zx_118_13, zx_118_14, zx_118_15, zx_118_17, zx_118_18, zx_118_19, zx_118_21, zx_118_22, zx_118_24, zx_118_25, zx_118_30, zx_118_35, zx_118_36, zx_118_37, zx_118_38, zx_118_39, zx_118_41, zx_118_42, zx_118_44, zx_118_45, zx_118_46, zgI_119, zsI_119, zgI_120, zsI_120, zgI_121, zsI_121, zgI_122, zsI_122, zgI_123, zsI_123, zgI_124, zsI_124, zgI_125, zsI_125, zgI_126, zsI_126, zgI_127, zsI_127, zgI_128, zsI_128, zgI_129, zsI_129, zgI_130, zsI_130, zgI_131, zsI_131, zgI_132, zsI_132, zgI_133, zsI_133, zgI_134, zsI_134, zgI_135, zsI_135, zgI_136, zsI_136, zgI_137, zsI_137, zgI_139, zsI_139, zgI_140, zsI_140, zgI_141, zsI_141, zgI_142, zsI_142, zgI_143, zsI_143, zgI_144, zsI_144, zgI_145, zsI_145, zgI_146, zsI_146, zgI_147, zsI_147, zb_276_67, g2, hmul]
      refine zloop (fun i σ3 => (90, [(0, .ref 118), (2, .int (nI m)), (3, .int (nI n)), (4, .long (lN ((2 * G.2.1) ^ (b + 1)))), (6, .int (nI b)), (7, .int (nI i))], [], zL, σ3, 0, 0)) (fun i σ3 => (∀ q, q < G.1 → σ3.2.1 148 q = lN (zch G k b q)) ∧ (∀ q, q < i → σ3.2.1 149 q = lN (zch G k (b + 1) q)) ∧ zKeep (fun x _ => x == 148 || x == 149) σ σ3) G.1 (fun i σ3 hi hI3 ih3 => ?_) (fun σ3 hI3 => ?_) 0 σ2 (by omega) ⟨j1, fun q hq => by omega, hK2⟩
      · obtain ⟨t1, t2, hK3⟩ := hI3
        have hM3 := hM.scr hV (zMsc_l hK3)
        have g13 := hM3.2.2.2.2.1.1
        have hF3 := hM3.1
        have e1 := zsL (σ := σ3) (x := 149) (n := 5) (v := Int64.ofNat 0) rfl (show i < 5 by omega) (by decide)
        refine zW_of zg_276_90 ?_
        simp (disch := first | assumption | omega) only [zn0, zn1, Option.bind_some, zm_ai, zm_al, zm_av, zm_opt, zm_fw, zE_l, zE_r, nI_add, pk_mul, pk_sub, pk_div, pk_rem, zrem, zpm1, zB_i0, zB_i1, zB_ok, zB_T, zB_F, nI_toInt, zT_sub, zT_neg, zT_le, zT_lt, nI_eq, zne1, zne2, zne9, ite_not, or_true, true_or, if_true, if_false, if_pos, if_neg, zw_R, zw_RL, zw_I, zF_R, zw_same, zw_cell, zw_ne, zF_at, zF_ne, zi_118, zx_118_0, zx_118_1, zx_118_2, zx_118_3, zx_118_7, zx_118_8, zx_118_9, zx_118_10, zx_118_11, zx_118_12, zx_118_13, zx_118_14, zx_118_15, zx_118_17, zx_118_18, zx_118_19, zx_118_21, zx_118_22, zx_118_24, zx_118_25, zx_118_30, zx_118_35, zx_118_36, zx_118_37, zx_118_38, zx_118_39, zx_118_41, zx_118_42, zx_118_44, zx_118_45, zx_118_46, zgI_119, zsI_119, zgI_120, zsI_120, zgI_121, zsI_121, zgI_122, zsI_122, zgI_123, zsI_123, zgI_124, zsI_124, zgI_125, zsI_125, zgI_126, zsI_126, zgI_127, zsI_127, zgI_128, zsI_128, zgI_129, zsI_129, zgI_130, zsI_130, zgI_131, zsI_131, zgI_132, zsI_132, zgI_133, zsI_133, zgI_134, zsI_134, zgI_135, zsI_135, zgI_136, zsI_136, zgI_137, zsI_137, zgI_139, zsI_139, zgI_140, zsI_140, zgI_141, zsI_141, zgI_142, zsI_142, zgI_143, zsI_143, zgI_144, zsI_144, zgI_145, zsI_145, zgI_146, zsI_146, zgI_147, zsI_147, zb_276_90, g13, e1]
        refine zloop (fun x σ4 => (110, [(0, .ref 118), (2, .int (nI m)), (3, .int (nI n)), (4, .long (lN ((2 * G.2.1) ^ (b + 1)))), (6, .int (nI b)), (7, .int (nI i)), (8, .int (nI x))], [], zL, σ4, 0, 0)) (fun x σ4 => (∀ q, q < G.1 → σ4.2.1 148 q = lN (zch G k b q)) ∧ (∀ q, q < i → σ4.2.1 149 q = lN (zch G k (b + 1) q)) ∧ σ4.2.1 149 i = lN (zs (fun x => zch G k b (G.2.2.1 x i) + zch G k b (G.2.2.2.1 x i)) x) ∧ zKeep (fun x _ => x == 148 || x == 149) σ σ4) G.2.1 (fun x σ4 hx hI4 ih4 => ?_) (fun σ4 hI4 => ?_) 0 _ (by omega) ⟨fun q hq => by rw [zL_ne _ _ (by decide)]; exact t1 q hq, fun q hq => by rw [zL_at, if_neg (by omega)]; exact t2 q hq, by rw [zL_at, if_pos rfl]; rfl, hK3.wL rfl⟩
        · obtain ⟨u1, u2, u3, hK4⟩ := hI4
          have hM4 := hM.scr hV (zMsc_l hK4)
          obtain ⟨hF4, -, -, -, gG4, -⟩ := id hM4
          have g24 := gG4.2.1
          obtain ⟨w1, w2⟩ := gG4.2.2.2.1 x i hx hi
          obtain ⟨c1, c2, -, -⟩ := hv.2.2.2.1 x i hx hi
          have e2 := zgL (σ := σ4) (x := 149) (n := 5) rfl (show i < 5 by omega) (by decide)
          have e3 := zgL (σ := σ4) (x := 148) (n := 5) rfl (show G.2.2.1 x i < 5 by omega) (by decide)
          have e4 := zgL (σ := σ4) (x := 148) (n := 5) rfl (show G.2.2.2.1 x i < 5 by omega) (by decide)
          have e5 : ∀ v, zm_sL zL σ4 149 (nI i) v = some (zm_wL σ4 149 i v) := fun v => zsL rfl (by omega) (by decide)
          refine zW_of zg_276_110 ?_
          simp (disch := first | assumption | omega) only [zn0, zn1, Option.bind_some, zm_ai, zm_al, zm_av, zm_opt, zm_fw, zE_l, zE_r, nI_add, pk_mul, pk_sub, pk_div, pk_rem, zrem, zpm1, zB_i0, zB_i1, zB_ok, zB_T, zB_F, nI_toInt, zT_sub, zT_neg, zT_le, zT_lt, nI_eq, zne1, zne2, zne9, ite_not, or_true, true_or, if_true, if_false, if_pos, if_neg, zw_R, zw_RL, zw_I, zF_R, zw_same, zw_cell, zw_ne, zF_at, zF_ne, zi_118, zx_118_0, zx_118_1, zx_118_2, zx_118_3, zx_118_7, zx_118_8, zx_118_9, zx_118_10, zx_118_11, zx_118_12, zx_118_13, zx_118_14, zx_118_15, zx_118_17, zx_118_18, zx_118_19, zx_118_21, zx_118_22, zx_118_24, zx_118_25, zx_118_30, zx_118_35, zx_118_36, zx_118_37, zx_118_38, zx_118_39, zx_118_41, zx_118_42, zx_118_44, zx_118_45, zx_118_46, zgI_119, zsI_119, zgI_120, zsI_120, zgI_121, zsI_121, zgI_122, zsI_122, zgI_123, zsI_123, zgI_124, zsI_124, zgI_125, zsI_125, zgI_126, zsI_126, zgI_127, zsI_127, zgI_128, zsI_128, zgI_129, zsI_129, zgI_130, zsI_130, zgI_131, zsI_131, zgI_132, zsI_132, zgI_133, zsI_133, zgI_134, zsI_134, zgI_135, zsI_135, zgI_136, zsI_136, zgI_137, zsI_137, zgI_139, zsI_139, zgI_140, zsI_140, zgI_141, zsI_141, zgI_142, zsI_142, zgI_143, zsI_143, zgI_144, zsI_144, zgI_145, zsI_145, zgI_146, zsI_146, zgI_147, zsI_147, zb_276_110, g24, w1, w2, e2, e3, e4, e5]
          refine ih4 _ ⟨fun q hq => by rw [zL_ne _ _ (by decide)]; exact u1 q hq, fun q hq => by rw [zL_at, if_neg (by omega)]; exact u2 q hq, ?_, hK4.wL rfl⟩
          rw [zL_at, if_pos rfl, u3, u1 _ c1, u1 _ c2, lN_add, lN_add]
          rfl
        · obtain ⟨u1, u2, u3, hK4⟩ := hI4
          have hM4 := hM.scr hV (zMsc_l hK4)
          have g24 := hM4.2.2.2.2.1.2.1
          refine zW_of zg_276_110 ?_
          simp (disch := first | assumption | omega) only [zn0, zn1, Option.bind_some, zm_ai, zm_al, zm_av, zm_opt, zm_fw, zE_l, zE_r, nI_add, pk_mul, pk_sub, pk_div, pk_rem, zrem, zpm1, zB_i0, zB_i1, zB_ok, zB_T, zB_F, nI_toInt, zT_sub, zT_neg, zT_le, zT_lt, nI_eq, zne1, zne2, zne9, ite_not, or_true, true_or, if_true, if_false, if_pos, if_neg, zw_R, zw_RL, zw_I, zF_R, zw_same, zw_cell, zw_ne, zF_at, zF_ne, zi_118, zx_118_0, zx_118_1, zx_118_2, zx_118_3, zx_118_7, zx_118_8, zx_118_9, zx_118_10, zx_118_11, zx_118_12, zx_118_13, zx_118_14, zx_118_15, zx_118_17, zx_118_18, zx_118_19, zx_118_21, zx_118_22, zx_118_24, zx_118_25, zx_118_30, zx_118_35, zx_118_36, zx_118_37, zx_118_38, zx_118_39, zx_118_41, zx_118_42, zx_118_44, zx_118_45, zx_118_46, zgI_119, zsI_119, zgI_120, zsI_120, zgI_121, zsI_121, zgI_122, zsI_122, zgI_123, zsI_123, zgI_124, zsI_124, zgI_125, zsI_125, zgI_126, zsI_126, zgI_127, zsI_127, zgI_128, zsI_128, zgI_129, zsI_129, zgI_130, zsI_130, zgI_131, zsI_131, zgI_132, zsI_132, zgI_133, zsI_133, zgI_134, zsI_134, zgI_135, zsI_135, zgI_136, zsI_136, zgI_137, zsI_137, zgI_139, zsI_139, zgI_140, zsI_140, zgI_141, zsI_141, zgI_142, zsI_142, zgI_143, zsI_143, zgI_144, zsI_144, zgI_145, zsI_145, zgI_146, zsI_146, zgI_147, zsI_147, zb_276_110, g24]
          refine ih3 σ4 ⟨u1, fun q hq => ?_, hK4⟩
          by_cases e : q = i
          · rw [e]
            exact u3
          · exact u2 q (by omega)
      · obtain ⟨t1, t2, hK3⟩ := hI3
        have hM3 := hM.scr hV (zMsc_l hK3)
        have g13 := hM3.2.2.2.2.1.1
        refine zW_of zg_276_90 ?_
        simp (disch := first | assumption | omega) only [zn0, zn1, Option.bind_some, zm_ai, zm_al, zm_av, zm_opt, zm_fw, zE_l, zE_r, nI_add, pk_mul, pk_sub, pk_div, pk_rem, zrem, zpm1, zB_i0, zB_i1, zB_ok, zB_T, zB_F, nI_toInt, zT_sub, zT_neg, zT_le, zT_lt, nI_eq, zne1, zne2, zne9, ite_not, or_true, true_or, if_true, if_false, if_pos, if_neg, zw_R, zw_RL, zw_I, zF_R, zw_same, zw_cell, zw_ne, zF_at, zF_ne, zi_118, zx_118_0, zx_118_1, zx_118_2, zx_118_3, zx_118_7, zx_118_8, zx_118_9, zx_118_10, zx_118_11, zx_118_12, zx_118_13, zx_118_14, zx_118_15, zx_118_17, zx_118_18, zx_118_19, zx_118_21, zx_118_22, zx_118_24, zx_118_25, zx_118_30, zx_118_35, zx_118_36, zx_118_37, zx_118_38, zx_118_39, zx_118_41, zx_118_42, zx_118_44, zx_118_45, zx_118_46, zgI_119, zsI_119, zgI_120, zsI_120, zgI_121, zsI_121, zgI_122, zsI_122, zgI_123, zsI_123, zgI_124, zsI_124, zgI_125, zsI_125, zgI_126, zsI_126, zgI_127, zsI_127, zgI_128, zsI_128, zgI_129, zsI_129, zgI_130, zsI_130, zgI_131, zsI_131, zgI_132, zsI_132, zgI_133, zsI_133, zgI_134, zsI_134, zgI_135, zsI_135, zgI_136, zsI_136, zgI_137, zsI_137, zgI_139, zsI_139, zgI_140, zsI_140, zgI_141, zsI_141, zgI_142, zsI_142, zgI_143, zsI_143, zgI_144, zsI_144, zgI_145, zsI_145, zgI_146, zsI_146, zgI_147, zsI_147, zb_276_90, g13]
        refine zloop (fun i σ4 => (179, [(0, .ref 118), (2, .int (nI m)), (3, .int (nI n)), (4, .long (lN ((2 * G.2.1) ^ (b + 1)))), (6, .int (nI b)), (7, .int (nI i))], [], zL, σ4, 0, 0)) (fun i σ4 => (∀ q, q < G.1 → σ4.2.1 149 q = lN (zch G k (b + 1) q)) ∧ (∀ q, q < i → σ4.2.1 148 q = lN (zch G k (b + 1) q)) ∧ zKeep (fun x _ => x == 148 || x == 149) σ σ4) G.1 (fun i σ4 hi hI4 ih4 => ?_) (fun σ4 hI4 => ?_) 0 σ3 (by omega) ⟨t2, fun q hq => by omega, hK3⟩
        · obtain ⟨u1, u2, hK4⟩ := hI4
          have hM4 := hM.scr hV (zMsc_l hK4)
          have g14 := hM4.2.2.2.2.1.1
          have hF4 := hM4.1
          have e2 := zgL (σ := σ4) (x := 149) (n := 5) rfl (show i < 5 by omega) (by decide)
          have e5 : ∀ v, zm_sL zL σ4 148 (nI i) v = some (zm_wL σ4 148 i v) := fun v => zsL rfl (by omega) (by decide)
          have u1i := u1 i hi
          refine zW_of zg_276_179 ?_
          simp (disch := first | assumption | omega) only [zn0, zn1, Option.bind_some, zm_ai, zm_al, zm_av, zm_opt, zm_fw, zE_l, zE_r, nI_add, pk_mul, pk_sub, pk_div, pk_rem, zrem, zpm1, zB_i0, zB_i1, zB_ok, zB_T, zB_F, nI_toInt, zT_sub, zT_neg, zT_le, zT_lt, nI_eq, zne1, zne2, zne9, ite_not, or_true, true_or, if_true, if_false, if_pos, if_neg, zw_R, zw_RL, zw_I, zF_R, zw_same, zw_cell, zw_ne, zF_at, zF_ne, zi_118, zx_118_0, zx_118_1, zx_118_2, zx_118_3, zx_118_7, zx_118_8, zx_118_9, zx_118_10, zx_118_11, zx_118_12, zx_118_13, zx_118_14, zx_118_15, zx_118_17, zx_118_18, zx_118_19, zx_118_21, zx_118_22, zx_118_24, zx_118_25, zx_118_30, zx_118_35, zx_118_36, zx_118_37, zx_118_38, zx_118_39, zx_118_41, zx_118_42, zx_118_44, zx_118_45, zx_118_46, zgI_119, zsI_119, zgI_120, zsI_120, zgI_121, zsI_121, zgI_122, zsI_122, zgI_123, zsI_123, zgI_124, zsI_124, zgI_125, zsI_125, zgI_126, zsI_126, zgI_127, zsI_127, zgI_128, zsI_128, zgI_129, zsI_129, zgI_130, zsI_130, zgI_131, zsI_131, zgI_132, zsI_132, zgI_133, zsI_133, zgI_134, zsI_134, zgI_135, zsI_135, zgI_136, zsI_136, zgI_137, zsI_137, zgI_139, zsI_139, zgI_140, zsI_140, zgI_141, zsI_141, zgI_142, zsI_142, zgI_143, zsI_143, zgI_144, zsI_144, zgI_145, zsI_145, zgI_146, zsI_146, zgI_147, zsI_147, zb_276_179, g14, e2, u1i, e5]
          refine ih4 _ ⟨fun q hq => by rw [zL_ne _ _ (by decide)]; exact u1 q hq, fun q hq => ?_, hK4.wL rfl⟩
          rw [zL_at]
          split
          · next e => rw [e]
          · exact u2 q (by omega)
        · obtain ⟨u1, u2, hK4⟩ := hI4
          have hM4 := hM.scr hV (zMsc_l hK4)
          have g14 := hM4.2.2.2.2.1.1
          refine zW_of zg_276_179 ?_
          simp (disch := first | assumption | omega) only [zn0, zn1, Option.bind_some, zm_ai, zm_al, zm_av, zm_opt, zm_fw, zE_l, zE_r, nI_add, pk_mul, pk_sub, pk_div, pk_rem, zrem, zpm1, zB_i0, zB_i1, zB_ok, zB_T, zB_F, nI_toInt, zT_sub, zT_neg, zT_le, zT_lt, nI_eq, zne1, zne2, zne9, ite_not, or_true, true_or, if_true, if_false, if_pos, if_neg, zw_R, zw_RL, zw_I, zF_R, zw_same, zw_cell, zw_ne, zF_at, zF_ne, zi_118, zx_118_0, zx_118_1, zx_118_2, zx_118_3, zx_118_7, zx_118_8, zx_118_9, zx_118_10, zx_118_11, zx_118_12, zx_118_13, zx_118_14, zx_118_15, zx_118_17, zx_118_18, zx_118_19, zx_118_21, zx_118_22, zx_118_24, zx_118_25, zx_118_30, zx_118_35, zx_118_36, zx_118_37, zx_118_38, zx_118_39, zx_118_41, zx_118_42, zx_118_44, zx_118_45, zx_118_46, zgI_119, zsI_119, zgI_120, zsI_120, zgI_121, zsI_121, zgI_122, zsI_122, zgI_123, zsI_123, zgI_124, zsI_124, zgI_125, zsI_125, zgI_126, zsI_126, zgI_127, zsI_127, zgI_128, zsI_128, zgI_129, zsI_129, zgI_130, zsI_130, zgI_131, zsI_131, zgI_132, zsI_132, zgI_133, zsI_133, zgI_134, zsI_134, zgI_135, zsI_135, zgI_136, zsI_136, zgI_137, zsI_137, zgI_139, zsI_139, zgI_140, zsI_140, zgI_141, zsI_141, zgI_142, zsI_142, zgI_143, zsI_143, zgI_144, zsI_144, zgI_145, zsI_145, zgI_146, zsI_146, zgI_147, zsI_147, zb_276_179, g14]
          exact ih σ4 ⟨u2, hK4⟩
    · obtain ⟨j1, hK2⟩ := hI
      have hM2 := hM.scr hV (zMsc_l hK2)
      have hF2 := hM2.1
      have e1 := zgL (σ := σ2) (x := 148) (n := 5) rfl (show m < 5 by omega) (by decide)
      have j1m := j1 m hm
      have hb := zch_le hv k n m
      have hp := zpw hv hn
      have hpos : 0 < (2 * G.2.1) ^ n := Nat.pow_pos (by omega)
      have e2 := m_tellsPart (σ := σ2) (A := zch G k n m) (D := (2 * G.2.1) ^ n) (by omega) (by omega) hpos
      refine zW_of zg_276_67 ?_
      simp (disch := first | assumption | omega) only [zn0, zn1, Option.bind_some, zm_ai, zm_al, zm_av, zm_opt, zm_fw, zE_l, zE_r, nI_add, pk_mul, pk_sub, pk_div, pk_rem, zrem, zpm1, zB_i0, zB_i1, zB_ok, zB_T, zB_F, nI_toInt, zT_sub, zT_neg, zT_le, zT_lt, nI_eq, zne1, zne2, zne9, ite_not, or_true, true_or, if_true, if_false, if_pos, if_neg, zw_R, zw_RL, zw_I, zF_R, zw_same, zw_cell, zw_ne, zF_at, zF_ne, zi_118, zx_118_0, zx_118_1, zx_118_2, zx_118_3, zx_118_7, zx_118_8, zx_118_9, zx_118_10, zx_118_11, zx_118_12, zx_118_13, zx_118_14, zx_118_15, zx_118_17, zx_118_18, zx_118_19, zx_118_21, zx_118_22, zx_118_24, zx_118_25, zx_118_30, zx_118_35, zx_118_36, zx_118_37, zx_118_38, zx_118_39, zx_118_41, zx_118_42, zx_118_44, zx_118_45, zx_118_46, zgI_119, zsI_119, zgI_120, zsI_120, zgI_121, zsI_121, zgI_122, zsI_122, zgI_123, zsI_123, zgI_124, zsI_124, zgI_125, zsI_125, zgI_126, zsI_126, zgI_127, zsI_127, zgI_128, zsI_128, zgI_129, zsI_129, zgI_130, zsI_130, zgI_131, zsI_131, zgI_132, zsI_132, zgI_133, zsI_133, zgI_134, zsI_134, zgI_135, zsI_135, zgI_136, zsI_136, zgI_137, zsI_137, zgI_139, zsI_139, zgI_140, zsI_140, zgI_141, zsI_141, zgI_142, zsI_142, zgI_143, zsI_143, zgI_144, zsI_144, zgI_145, zsI_145, zgI_146, zsI_146, zgI_147, zsI_147, zb_276_67, e1, j1m, e2]
      exact hQ _ (hM2.share hV _ _) ((zMsc_rfs (zMsc_l hK2)).tr (zSh2_m _ _ _))
theorem k_odds (k m n : Int32) (h : zInv σ) : zCallV 155 276 [.int k, .int m, .int n] σ := by
  obtain ⟨a, R, T, K, G, ds, ks, hC, hM, hV⟩ := h
  obtain ⟨hF, hR, hTx, hKc, ha, hcu, hsp, hG, hN, ⟨π, hCR⟩, hL, hO, hTl, hks, hpos, hzero⟩ := id hC
  have hv := hV.1
  have h5 := hv.1
  have h3 := hv.2.1
  have hai := zGo_i ha
  have bad : ∀ k m n : Int32, (¬ (0 ≤ k.toInt ∧ k.toInt < G.1) ∨ ¬ (0 ≤ m.toInt ∧ m.toInt < G.1) ∨ n.toInt < 0 ∨ 8 < n.toInt) → zCallV 155 276 [.int k, .int m, .int n] σ := by
    intro k m n hb
    refine zCallV.of hV hV hM (v := .int (-nI 1)) (zCo.same hC (zS_eq (zS_of ze_155 ?_))) fun σ1 hM1 => zMo.same hM1 (zS_eq (zS_of ze_276 ?_))
    · by_cases q1 : 0 ≤ k.toInt ∧ k.toInt < G.1
      · by_cases q2 : 0 ≤ m.toInt ∧ m.toInt < G.1
        · by_cases q3 : n.toInt < 0
          · simp (disch := first | assumption | omega) only [zn0, zn1, Option.bind_some, zm_ai, zm_al, zm_av, zm_opt, zm_fw, zE_l, zE_r, nI_add, pk_mul, pk_sub, pk_div, pk_rem, zrem, zpm1, zB_i0, zB_i1, zB_ok, zB_T, zB_F, nI_toInt, zT_sub, zT_neg, zT_le, zT_lt, nI_eq, zne1, zne2, zne9, ite_not, or_true, true_or, if_true, if_false, if_pos, if_neg, zw_R, zw_RL, zw_I, zF_R, zw_same, zw_cell, zw_ne, zF_at, zF_ne, zi_0, zi_1, zi_10, zi_17, zi_19, zi_20, zi_30, zi_48, zi_50, zi_52, zi_57, zi_59, zi_80, zi_93, zi_106, zi_110, zi_114, zx_0_0, zx_0_1, zx_0_2, zx_0_3, zx_0_4, zx_0_5, zx_0_6, zx_0_7, zx_0_8, zx_0_9, zx_0_10, zx_1_0, zx_1_1, zx_2_0, zx_2_1, zx_2_2, zx_2_3, zx_2_4, zx_2_5, zx_10_0, zx_10_1, zx_11_0, zx_11_1, zx_11_2, zx_11_3, zx_17_0, zx_19_0, zx_19_1, zx_19_2, zx_20_0, zx_20_1, zx_20_3, zx_20_4, zx_20_5, zx_20_6, zx_20_7, zx_20_8, zx_20_9, zx_30_0, zx_30_1, zx_30_4, zx_30_5, zx_48_0, zx_50_0, zx_52_0, zx_52_1, zx_52_2, zx_56_0, zx_56_1, zx_56_2, zx_57_0, zx_59_0, zx_80_3, zx_80_4, zx_80_5, zx_81_0, zx_81_1, zx_81_2, zx_81_3, zx_81_4, zx_81_5, zx_88_0, zx_88_1, zx_88_2, zx_93_3, zx_93_4, zx_93_5, zx_94_0, zx_94_1, zx_94_2, zx_94_3, zx_94_4, zx_94_5, zx_101_0, zx_101_1, zx_101_2, zx_106_0, zx_106_1, zx_106_2, zx_110_0, zx_110_1, zx_110_2, zx_114_0, zx_114_1, zx_114_2, zgI_9, zsI_9, zgI_16, zsI_16, zgI_18, zsI_18, zgI_21, zsI_21, zgI_22, zsI_22, zgI_23, zsI_23, zgI_24, zsI_24, zgI_25, zsI_25, zgI_26, zsI_26, zgI_27, zsI_27, zgI_28, zsI_28, zgI_29, zsI_29, zgI_47, zsI_47, zgI_49, zsI_49, zgI_51, zsI_51, zgI_53, zsI_53, zgI_54, zsI_54, zgI_55, zsI_55, zgI_58, zsI_58, zgI_76, zsI_76, zgI_79, zsI_79, zb_155_0, hcu, hai, c_isPoint ha hG hv]
          · have q4 : 8 < n.toInt := by omega
            simp (disch := first | assumption | omega) only [zn0, zn1, Option.bind_some, zm_ai, zm_al, zm_av, zm_opt, zm_fw, zE_l, zE_r, nI_add, pk_mul, pk_sub, pk_div, pk_rem, zrem, zpm1, zB_i0, zB_i1, zB_ok, zB_T, zB_F, nI_toInt, zT_sub, zT_neg, zT_le, zT_lt, nI_eq, zne1, zne2, zne9, ite_not, or_true, true_or, if_true, if_false, if_pos, if_neg, zw_R, zw_RL, zw_I, zF_R, zw_same, zw_cell, zw_ne, zF_at, zF_ne, zi_0, zi_1, zi_10, zi_17, zi_19, zi_20, zi_30, zi_48, zi_50, zi_52, zi_57, zi_59, zi_80, zi_93, zi_106, zi_110, zi_114, zx_0_0, zx_0_1, zx_0_2, zx_0_3, zx_0_4, zx_0_5, zx_0_6, zx_0_7, zx_0_8, zx_0_9, zx_0_10, zx_1_0, zx_1_1, zx_2_0, zx_2_1, zx_2_2, zx_2_3, zx_2_4, zx_2_5, zx_10_0, zx_10_1, zx_11_0, zx_11_1, zx_11_2, zx_11_3, zx_17_0, zx_19_0, zx_19_1, zx_19_2, zx_20_0, zx_20_1, zx_20_3, zx_20_4, zx_20_5, zx_20_6, zx_20_7, zx_20_8, zx_20_9, zx_30_0, zx_30_1, zx_30_4, zx_30_5, zx_48_0, zx_50_0, zx_52_0, zx_52_1, zx_52_2, zx_56_0, zx_56_1, zx_56_2, zx_57_0, zx_59_0, zx_80_3, zx_80_4, zx_80_5, zx_81_0, zx_81_1, zx_81_2, zx_81_3, zx_81_4, zx_81_5, zx_88_0, zx_88_1, zx_88_2, zx_93_3, zx_93_4, zx_93_5, zx_94_0, zx_94_1, zx_94_2, zx_94_3, zx_94_4, zx_94_5, zx_101_0, zx_101_1, zx_101_2, zx_106_0, zx_106_1, zx_106_2, zx_110_0, zx_110_1, zx_110_2, zx_114_0, zx_114_1, zx_114_2, zgI_9, zsI_9, zgI_16, zsI_16, zgI_18, zsI_18, zgI_21, zsI_21, zgI_22, zsI_22, zgI_23, zsI_23, zgI_24, zsI_24, zgI_25, zsI_25, zgI_26, zsI_26, zgI_27, zsI_27, zgI_28, zsI_28, zgI_29, zsI_29, zgI_47, zsI_47, zgI_49, zsI_49, zgI_51, zsI_51, zgI_53, zsI_53, zgI_54, zsI_54, zgI_55, zsI_55, zgI_58, zsI_58, zgI_76, zsI_76, zgI_79, zsI_79, zb_155_0, hcu, hai, c_isPoint ha hG hv]
        · simp (disch := first | assumption | omega) only [zn0, zn1, Option.bind_some, zm_ai, zm_al, zm_av, zm_opt, zm_fw, zE_l, zE_r, nI_add, pk_mul, pk_sub, pk_div, pk_rem, zrem, zpm1, zB_i0, zB_i1, zB_ok, zB_T, zB_F, nI_toInt, zT_sub, zT_neg, zT_le, zT_lt, nI_eq, zne1, zne2, zne9, ite_not, or_true, true_or, if_true, if_false, if_pos, if_neg, zw_R, zw_RL, zw_I, zF_R, zw_same, zw_cell, zw_ne, zF_at, zF_ne, zi_0, zi_1, zi_10, zi_17, zi_19, zi_20, zi_30, zi_48, zi_50, zi_52, zi_57, zi_59, zi_80, zi_93, zi_106, zi_110, zi_114, zx_0_0, zx_0_1, zx_0_2, zx_0_3, zx_0_4, zx_0_5, zx_0_6, zx_0_7, zx_0_8, zx_0_9, zx_0_10, zx_1_0, zx_1_1, zx_2_0, zx_2_1, zx_2_2, zx_2_3, zx_2_4, zx_2_5, zx_10_0, zx_10_1, zx_11_0, zx_11_1, zx_11_2, zx_11_3, zx_17_0, zx_19_0, zx_19_1, zx_19_2, zx_20_0, zx_20_1, zx_20_3, zx_20_4, zx_20_5, zx_20_6, zx_20_7, zx_20_8, zx_20_9, zx_30_0, zx_30_1, zx_30_4, zx_30_5, zx_48_0, zx_50_0, zx_52_0, zx_52_1, zx_52_2, zx_56_0, zx_56_1, zx_56_2, zx_57_0, zx_59_0, zx_80_3, zx_80_4, zx_80_5, zx_81_0, zx_81_1, zx_81_2, zx_81_3, zx_81_4, zx_81_5, zx_88_0, zx_88_1, zx_88_2, zx_93_3, zx_93_4, zx_93_5, zx_94_0, zx_94_1, zx_94_2, zx_94_3, zx_94_4, zx_94_5, zx_101_0, zx_101_1, zx_101_2, zx_106_0, zx_106_1, zx_106_2, zx_110_0, zx_110_1, zx_110_2, zx_114_0, zx_114_1, zx_114_2, zgI_9, zsI_9, zgI_16, zsI_16, zgI_18, zsI_18, zgI_21, zsI_21, zgI_22, zsI_22, zgI_23, zsI_23, zgI_24, zsI_24, zgI_25, zsI_25, zgI_26, zsI_26, zgI_27, zsI_27, zgI_28, zsI_28, zgI_29, zsI_29, zgI_47, zsI_47, zgI_49, zsI_49, zgI_51, zsI_51, zgI_53, zsI_53, zgI_54, zsI_54, zgI_55, zsI_55, zgI_58, zsI_58, zgI_76, zsI_76, zgI_79, zsI_79, zb_155_0, hcu, hai, c_isPoint ha hG hv]
      · simp (disch := first | assumption | omega) only [zn0, zn1, Option.bind_some, zm_ai, zm_al, zm_av, zm_opt, zm_fw, zE_l, zE_r, nI_add, pk_mul, pk_sub, pk_div, pk_rem, zrem, zpm1, zB_i0, zB_i1, zB_ok, zB_T, zB_F, nI_toInt, zT_sub, zT_neg, zT_le, zT_lt, nI_eq, zne1, zne2, zne9, ite_not, or_true, true_or, if_true, if_false, if_pos, if_neg, zw_R, zw_RL, zw_I, zF_R, zw_same, zw_cell, zw_ne, zF_at, zF_ne, zi_0, zi_1, zi_10, zi_17, zi_19, zi_20, zi_30, zi_48, zi_50, zi_52, zi_57, zi_59, zi_80, zi_93, zi_106, zi_110, zi_114, zx_0_0, zx_0_1, zx_0_2, zx_0_3, zx_0_4, zx_0_5, zx_0_6, zx_0_7, zx_0_8, zx_0_9, zx_0_10, zx_1_0, zx_1_1, zx_2_0, zx_2_1, zx_2_2, zx_2_3, zx_2_4, zx_2_5, zx_10_0, zx_10_1, zx_11_0, zx_11_1, zx_11_2, zx_11_3, zx_17_0, zx_19_0, zx_19_1, zx_19_2, zx_20_0, zx_20_1, zx_20_3, zx_20_4, zx_20_5, zx_20_6, zx_20_7, zx_20_8, zx_20_9, zx_30_0, zx_30_1, zx_30_4, zx_30_5, zx_48_0, zx_50_0, zx_52_0, zx_52_1, zx_52_2, zx_56_0, zx_56_1, zx_56_2, zx_57_0, zx_59_0, zx_80_3, zx_80_4, zx_80_5, zx_81_0, zx_81_1, zx_81_2, zx_81_3, zx_81_4, zx_81_5, zx_88_0, zx_88_1, zx_88_2, zx_93_3, zx_93_4, zx_93_5, zx_94_0, zx_94_1, zx_94_2, zx_94_3, zx_94_4, zx_94_5, zx_101_0, zx_101_1, zx_101_2, zx_106_0, zx_106_1, zx_106_2, zx_110_0, zx_110_1, zx_110_2, zx_114_0, zx_114_1, zx_114_2, zgI_9, zsI_9, zgI_16, zsI_16, zgI_18, zsI_18, zgI_21, zsI_21, zgI_22, zsI_22, zgI_23, zsI_23, zgI_24, zsI_24, zgI_25, zsI_25, zgI_26, zsI_26, zgI_27, zsI_27, zgI_28, zsI_28, zgI_29, zsI_29, zgI_47, zsI_47, zgI_49, zsI_49, zgI_51, zsI_51, zgI_53, zsI_53, zgI_54, zsI_54, zgI_55, zsI_55, zgI_58, zsI_58, zgI_76, zsI_76, zgI_79, zsI_79, zb_155_0, hcu, hai, c_isPoint ha hG hv]
    · have gG := hM1.2.2.2.2.1
      by_cases q1 : 0 ≤ k.toInt ∧ k.toInt < G.1
      · by_cases q2 : 0 ≤ m.toInt ∧ m.toInt < G.1
        · have e1 := m_inI σ1 n (nI 0) (nI 8)
          rw [zB_f (by rw [nI_toInt (by omega), nI_toInt (by omega)]; omega)] at e1
          simp (disch := first | assumption | omega) only [zn0, zn1, Option.bind_some, zm_ai, zm_al, zm_av, zm_opt, zm_fw, zE_l, zE_r, nI_add, pk_mul, pk_sub, pk_div, pk_rem, zrem, zpm1, zB_i0, zB_i1, zB_ok, zB_T, zB_F, nI_toInt, zT_sub, zT_neg, zT_le, zT_lt, nI_eq, zne1, zne2, zne9, ite_not, or_true, true_or, if_true, if_false, if_pos, if_neg, zw_R, zw_RL, zw_I, zF_R, zw_same, zw_cell, zw_ne, zF_at, zF_ne, zi_118, zx_118_0, zx_118_1, zx_118_2, zx_118_3, zx_118_7, zx_118_8, zx_118_9, zx_118_10, zx_118_11, zx_118_12, zx_118_13, zx_118_14, zx_118_15, zx_118_17, zx_118_18, zx_118_19, zx_118_21, zx_118_22, zx_118_24, zx_118_25, zx_118_30, zx_118_35, zx_118_36, zx_118_37, zx_118_38, zx_118_39, zx_118_41, zx_118_42, zx_118_44, zx_118_45, zx_118_46, zgI_119, zsI_119, zgI_120, zsI_120, zgI_121, zsI_121, zgI_122, zsI_122, zgI_123, zsI_123, zgI_124, zsI_124, zgI_125, zsI_125, zgI_126, zsI_126, zgI_127, zsI_127, zgI_128, zsI_128, zgI_129, zsI_129, zgI_130, zsI_130, zgI_131, zsI_131, zgI_132, zsI_132, zgI_133, zsI_133, zgI_134, zsI_134, zgI_135, zsI_135, zgI_136, zsI_136, zgI_137, zsI_137, zgI_139, zsI_139, zgI_140, zsI_140, zgI_141, zsI_141, zgI_142, zsI_142, zgI_143, zsI_143, zgI_144, zsI_144, zgI_145, zsI_145, zgI_146, zsI_146, zgI_147, zsI_147, zb_276_0, m_isPoint gG hv, e1, not_true]
        · simp (disch := first | assumption | omega) only [zn0, zn1, Option.bind_some, zm_ai, zm_al, zm_av, zm_opt, zm_fw, zE_l, zE_r, nI_add, pk_mul, pk_sub, pk_div, pk_rem, zrem, zpm1, zB_i0, zB_i1, zB_ok, zB_T, zB_F, nI_toInt, zT_sub, zT_neg, zT_le, zT_lt, nI_eq, zne1, zne2, zne9, ite_not, or_true, true_or, if_true, if_false, if_pos, if_neg, zw_R, zw_RL, zw_I, zF_R, zw_same, zw_cell, zw_ne, zF_at, zF_ne, zi_118, zx_118_0, zx_118_1, zx_118_2, zx_118_3, zx_118_7, zx_118_8, zx_118_9, zx_118_10, zx_118_11, zx_118_12, zx_118_13, zx_118_14, zx_118_15, zx_118_17, zx_118_18, zx_118_19, zx_118_21, zx_118_22, zx_118_24, zx_118_25, zx_118_30, zx_118_35, zx_118_36, zx_118_37, zx_118_38, zx_118_39, zx_118_41, zx_118_42, zx_118_44, zx_118_45, zx_118_46, zgI_119, zsI_119, zgI_120, zsI_120, zgI_121, zsI_121, zgI_122, zsI_122, zgI_123, zsI_123, zgI_124, zsI_124, zgI_125, zsI_125, zgI_126, zsI_126, zgI_127, zsI_127, zgI_128, zsI_128, zgI_129, zsI_129, zgI_130, zsI_130, zgI_131, zsI_131, zgI_132, zsI_132, zgI_133, zsI_133, zgI_134, zsI_134, zgI_135, zsI_135, zgI_136, zsI_136, zgI_137, zsI_137, zgI_139, zsI_139, zgI_140, zsI_140, zgI_141, zsI_141, zgI_142, zsI_142, zgI_143, zsI_143, zgI_144, zsI_144, zgI_145, zsI_145, zgI_146, zsI_146, zgI_147, zsI_147, zb_276_0, m_isPoint gG hv]
      · simp (disch := first | assumption | omega) only [zn0, zn1, Option.bind_some, zm_ai, zm_al, zm_av, zm_opt, zm_fw, zE_l, zE_r, nI_add, pk_mul, pk_sub, pk_div, pk_rem, zrem, zpm1, zB_i0, zB_i1, zB_ok, zB_T, zB_F, nI_toInt, zT_sub, zT_neg, zT_le, zT_lt, nI_eq, zne1, zne2, zne9, ite_not, or_true, true_or, if_true, if_false, if_pos, if_neg, zw_R, zw_RL, zw_I, zF_R, zw_same, zw_cell, zw_ne, zF_at, zF_ne, zi_118, zx_118_0, zx_118_1, zx_118_2, zx_118_3, zx_118_7, zx_118_8, zx_118_9, zx_118_10, zx_118_11, zx_118_12, zx_118_13, zx_118_14, zx_118_15, zx_118_17, zx_118_18, zx_118_19, zx_118_21, zx_118_22, zx_118_24, zx_118_25, zx_118_30, zx_118_35, zx_118_36, zx_118_37, zx_118_38, zx_118_39, zx_118_41, zx_118_42, zx_118_44, zx_118_45, zx_118_46, zgI_119, zsI_119, zgI_120, zsI_120, zgI_121, zsI_121, zgI_122, zsI_122, zgI_123, zsI_123, zgI_124, zsI_124, zgI_125, zsI_125, zgI_126, zsI_126, zgI_127, zsI_127, zgI_128, zsI_128, zgI_129, zsI_129, zgI_130, zsI_130, zgI_131, zsI_131, zgI_132, zsI_132, zgI_133, zsI_133, zgI_134, zsI_134, zgI_135, zsI_135, zgI_136, zsI_136, zgI_137, zsI_137, zgI_139, zsI_139, zgI_140, zsI_140, zgI_141, zsI_141, zgI_142, zsI_142, zgI_143, zsI_143, zgI_144, zsI_144, zgI_145, zsI_145, zgI_146, zsI_146, zgI_147, zsI_147, zb_276_0, m_isPoint gG hv]
  rcases z_cN k G.1 (by omega) with hb | ⟨k, hk, rfl⟩
  · exact bad _ _ _ (by omega)
  · rcases z_cN m G.1 (by omega) with hb | ⟨m, hm, rfl⟩
    · exact bad _ _ _ (by omega)
    · rcases z_cN n 9 (by omega) with hb | ⟨n, hn, rfl⟩
      · exact bad _ _ _ (by omega)
      · have h0 : 0 < G.1 := by omega
        have hg0 : 0 < G.2.1 := (hV.pos h0).1.2.2.2
        have hb := zch_le hv k n m
        have hp := zpw hv (show n ≤ 8 by omega)
        have hpp : 0 < (2 * G.2.1) ^ n := Nat.pow_pos (by omega)
        refine zCallV.of hV hV hM (v := .int (nI 1)) (a' := a) (R' := R) (T' := T) (K' := zKu K (lN (zch G k n m / Nat.gcd (zch G k n m) ((2 * G.2.1) ^ n))) (lN ((2 * G.2.1) ^ n / Nat.gcd (zch G k n m) ((2 * G.2.1) ^ n)))) ?_ fun σ1 hM1 => ?_
        · obtain ⟨σ1, e1, f1, hK1⟩ := c_fillL (σ := σ) (x := 77) (n := 5) rfl (by decide) (Int64.ofNat 0)
          have hK1' : zKeep zF77 σ σ1 := hK1.mo fun x k q => by simp only [beq_iff_eq] at q; simp [zF77, q]
          have hF1 := (hC.scr hV (zF77_scr hK1')).1
          have e2 := zsL (σ := σ1) (x := 77) (n := 5) (v := Int64.ofNat 1) rfl (show k < 5 by omega) (by decide)
          refine zS_ex (zS_of ze_155 ?_)
          simp (disch := first | assumption | omega) only [zn0, zn1, Option.bind_some, zm_ai, zm_al, zm_av, zm_opt, zm_fw, zE_l, zE_r, nI_add, pk_mul, pk_sub, pk_div, pk_rem, zrem, zpm1, zB_i0, zB_i1, zB_ok, zB_T, zB_F, nI_toInt, zT_sub, zT_neg, zT_le, zT_lt, nI_eq, zne1, zne2, zne9, ite_not, or_true, true_or, if_true, if_false, if_pos, if_neg, zw_R, zw_RL, zw_I, zF_R, zw_same, zw_cell, zw_ne, zF_at, zF_ne, zi_0, zi_1, zi_10, zi_17, zi_19, zi_20, zi_30, zi_48, zi_50, zi_52, zi_57, zi_59, zi_80, zi_93, zi_106, zi_110, zi_114, zx_0_0, zx_0_1, zx_0_2, zx_0_3, zx_0_4, zx_0_5, zx_0_6, zx_0_7, zx_0_8, zx_0_9, zx_0_10, zx_1_0, zx_1_1, zx_2_0, zx_2_1, zx_2_2, zx_2_3, zx_2_4, zx_2_5, zx_10_0, zx_10_1, zx_11_0, zx_11_1, zx_11_2, zx_11_3, zx_17_0, zx_19_0, zx_19_1, zx_19_2, zx_20_0, zx_20_1, zx_20_3, zx_20_4, zx_20_5, zx_20_6, zx_20_7, zx_20_8, zx_20_9, zx_30_0, zx_30_1, zx_30_4, zx_30_5, zx_48_0, zx_50_0, zx_52_0, zx_52_1, zx_52_2, zx_56_0, zx_56_1, zx_56_2, zx_57_0, zx_59_0, zx_80_3, zx_80_4, zx_80_5, zx_81_0, zx_81_1, zx_81_2, zx_81_3, zx_81_4, zx_81_5, zx_88_0, zx_88_1, zx_88_2, zx_93_3, zx_93_4, zx_93_5, zx_94_0, zx_94_1, zx_94_2, zx_94_3, zx_94_4, zx_94_5, zx_101_0, zx_101_1, zx_101_2, zx_106_0, zx_106_1, zx_106_2, zx_110_0, zx_110_1, zx_110_2, zx_114_0, zx_114_1, zx_114_2, zgI_9, zsI_9, zgI_16, zsI_16, zgI_18, zsI_18, zgI_21, zsI_21, zgI_22, zsI_22, zgI_23, zsI_23, zgI_24, zsI_24, zgI_25, zsI_25, zgI_26, zsI_26, zgI_27, zsI_27, zgI_28, zsI_28, zgI_29, zsI_29, zgI_47, zsI_47, zgI_49, zsI_49, zgI_51, zsI_51, zgI_53, zsI_53, zgI_54, zsI_54, zgI_55, zsI_55, zgI_58, zsI_58, zgI_76, zsI_76, zgI_79, zsI_79, zb_155_0, hcu, hai, c_isPoint ha hG hv, e1, e2]
          refine zloop (fun b σ2 => (52, [(0, .ref 0), (2, .int (nI m)), (3, .int (nI n)), (4, .int (nI b))], [], zL, σ2, 0, 0)) (fun b σ2 => (∀ q, q < G.1 → σ2.2.1 77 q = lN (zch G k b q)) ∧ zKeep zF77 σ σ2) n (fun b σ2 hb2 hI ih => ?_) (fun σ2 hI => ?_) 0 _ (by omega) ⟨fun q hq => ?_, hK1'.wL rfl⟩
          · obtain ⟨j1, hK2⟩ := hI
            have hC2 := hC.scr hV (zF77_scr hK2)
            obtain ⟨σ3, e3, f3, hK3⟩ := c_spread hC2 hV j1
            refine zW_of zg_155_52 ?_
            simp (disch := first | assumption | omega) only [zn0, zn1, Option.bind_some, zm_ai, zm_al, zm_av, zm_opt, zm_fw, zE_l, zE_r, nI_add, pk_mul, pk_sub, pk_div, pk_rem, zrem, zpm1, zB_i0, zB_i1, zB_ok, zB_T, zB_F, nI_toInt, zT_sub, zT_neg, zT_le, zT_lt, nI_eq, zne1, zne2, zne9, ite_not, or_true, true_or, if_true, if_false, if_pos, if_neg, zw_R, zw_RL, zw_I, zF_R, zw_same, zw_cell, zw_ne, zF_at, zF_ne, zi_0, zi_1, zi_10, zi_17, zi_19, zi_20, zi_30, zi_48, zi_50, zi_52, zi_57, zi_59, zi_80, zi_93, zi_106, zi_110, zi_114, zx_0_0, zx_0_1, zx_0_2, zx_0_3, zx_0_4, zx_0_5, zx_0_6, zx_0_7, zx_0_8, zx_0_9, zx_0_10, zx_1_0, zx_1_1, zx_2_0, zx_2_1, zx_2_2, zx_2_3, zx_2_4, zx_2_5, zx_10_0, zx_10_1, zx_11_0, zx_11_1, zx_11_2, zx_11_3, zx_17_0, zx_19_0, zx_19_1, zx_19_2, zx_20_0, zx_20_1, zx_20_3, zx_20_4, zx_20_5, zx_20_6, zx_20_7, zx_20_8, zx_20_9, zx_30_0, zx_30_1, zx_30_4, zx_30_5, zx_48_0, zx_50_0, zx_52_0, zx_52_1, zx_52_2, zx_56_0, zx_56_1, zx_56_2, zx_57_0, zx_59_0, zx_80_3, zx_80_4, zx_80_5, zx_81_0, zx_81_1, zx_81_2, zx_81_3, zx_81_4, zx_81_5, zx_88_0, zx_88_1, zx_88_2, zx_93_3, zx_93_4, zx_93_5, zx_94_0, zx_94_1, zx_94_2, zx_94_3, zx_94_4, zx_94_5, zx_101_0, zx_101_1, zx_101_2, zx_106_0, zx_106_1, zx_106_2, zx_110_0, zx_110_1, zx_110_2, zx_114_0, zx_114_1, zx_114_2, zgI_9, zsI_9, zgI_16, zsI_16, zgI_18, zsI_18, zgI_21, zsI_21, zgI_22, zsI_22, zgI_23, zsI_23, zgI_24, zsI_24, zgI_25, zsI_25, zgI_26, zsI_26, zgI_27, zsI_27, zgI_28, zsI_28, zgI_29, zsI_29, zgI_47, zsI_47, zgI_49, zsI_49, zgI_51, zsI_51, zgI_53, zsI_53, zgI_54, zsI_54, zgI_55, zsI_55, zgI_58, zsI_58, zgI_76, zsI_76, zgI_79, zsI_79, zb_155_52, e3]
            exact ih σ3 ⟨f3, hK2.tr hK3⟩
          · obtain ⟨j1, hK2⟩ := hI
            have hC2 := hC.scr hV (zF77_scr hK2)
            obtain ⟨hF2, -, -, -, ha2, hcu2, -, hG2, -⟩ := id hC2
            have hai2 := zGo_i ha2
            have g2 := hG2.2.1
            have j1m := j1 m hm
            have e3 := zgL (σ := σ2) (x := 77) (n := 5) rfl (show m < 5 by omega) (by decide)
            have e4 := c_power (σ := σ2) (2 * G.2.1) (n := n) (by omega)
            have hl : (nI (2 * G.2.1)).toInt64 = lN (2 * G.2.1) := nI_l (by omega)
            have e5 := c_tellShare (σ := σ2) (x := zch G k n m) (y := (2 * G.2.1) ^ n) (by omega) (by omega) hpp
            refine zW_of zg_155_52 ?_
            simp (disch := first | assumption | omega) only [zn0, zn1, Option.bind_some, zm_ai, zm_al, zm_av, zm_opt, zm_fw, zE_l, zE_r, nI_add, pk_mul, pk_sub, pk_div, pk_rem, zrem, zpm1, zB_i0, zB_i1, zB_ok, zB_T, zB_F, nI_toInt, zT_sub, zT_neg, zT_le, zT_lt, nI_eq, zne1, zne2, zne9, ite_not, or_true, true_or, if_true, if_false, if_pos, if_neg, zw_R, zw_RL, zw_I, zF_R, zw_same, zw_cell, zw_ne, zF_at, zF_ne, zi_0, zi_1, zi_10, zi_17, zi_19, zi_20, zi_30, zi_48, zi_50, zi_52, zi_57, zi_59, zi_80, zi_93, zi_106, zi_110, zi_114, zx_0_0, zx_0_1, zx_0_2, zx_0_3, zx_0_4, zx_0_5, zx_0_6, zx_0_7, zx_0_8, zx_0_9, zx_0_10, zx_1_0, zx_1_1, zx_2_0, zx_2_1, zx_2_2, zx_2_3, zx_2_4, zx_2_5, zx_10_0, zx_10_1, zx_11_0, zx_11_1, zx_11_2, zx_11_3, zx_17_0, zx_19_0, zx_19_1, zx_19_2, zx_20_0, zx_20_1, zx_20_3, zx_20_4, zx_20_5, zx_20_6, zx_20_7, zx_20_8, zx_20_9, zx_30_0, zx_30_1, zx_30_4, zx_30_5, zx_48_0, zx_50_0, zx_52_0, zx_52_1, zx_52_2, zx_56_0, zx_56_1, zx_56_2, zx_57_0, zx_59_0, zx_80_3, zx_80_4, zx_80_5, zx_81_0, zx_81_1, zx_81_2, zx_81_3, zx_81_4, zx_81_5, zx_88_0, zx_88_1, zx_88_2, zx_93_3, zx_93_4, zx_93_5, zx_94_0, zx_94_1, zx_94_2, zx_94_3, zx_94_4, zx_94_5, zx_101_0, zx_101_1, zx_101_2, zx_106_0, zx_106_1, zx_106_2, zx_110_0, zx_110_1, zx_110_2, zx_114_0, zx_114_1, zx_114_2, zgI_9, zsI_9, zgI_16, zsI_16, zgI_18, zsI_18, zgI_21, zsI_21, zgI_22, zsI_22, zgI_23, zsI_23, zgI_24, zsI_24, zgI_25, zsI_25, zgI_26, zsI_26, zgI_27, zsI_27, zgI_28, zsI_28, zgI_29, zsI_29, zgI_47, zsI_47, zgI_49, zsI_49, zgI_51, zsI_51, zgI_53, zsI_53, zgI_54, zsI_54, zgI_55, zsI_55, zgI_58, zsI_58, zgI_76, zsI_76, zgI_79, zsI_79, zb_155_52, e3, j1m, hcu2, hai2, g2, hl, e4, e5]
            exact ⟨_, rfl, hC2.share hV _ _, (zScr_cls (zF77_scr hK2)).tr (zSh2_c _ _ _)⟩
          · rw [zL_at]
            show _ = lN (if q = k then 1 else 0)
            split
            · rfl
            · exact f1 q (by omega)
        · have gG := hM1.2.2.2.2.1
          refine zS_ex (zS_of ze_276 ?_)
          have e1 := m_inI σ1 (nI n) (nI 0) (nI 8)
          rw [zB_t (by rw [nI_toInt (by omega), nI_toInt (by omega), nI_toInt (by omega)]; omega)] at e1
          simp (disch := first | assumption | omega) only [zn0, zn1, Option.bind_some, zm_ai, zm_al, zm_av, zm_opt, zm_fw, zE_l, zE_r, nI_add, pk_mul, pk_sub, pk_div, pk_rem, zrem, zpm1, zB_i0, zB_i1, zB_ok, zB_T, zB_F, nI_toInt, zT_sub, zT_neg, zT_le, zT_lt, nI_eq, zne1, zne2, zne9, ite_not, or_true, true_or, if_true, if_false, if_pos, if_neg, zw_R, zw_RL, zw_I, zF_R, zw_same, zw_cell, zw_ne, zF_at, zF_ne, zi_118, zx_118_0, zx_118_1, zx_118_2, zx_118_3, zx_118_7, zx_118_8, zx_118_9, zx_118_10, zx_118_11, zx_118_12, zx_118_13, zx_118_14, zx_118_15, zx_118_17, zx_118_18, zx_118_19, zx_118_21, zx_118_22, zx_118_24, zx_118_25, zx_118_30, zx_118_35, zx_118_36, zx_118_37, zx_118_38, zx_118_39, zx_118_41, zx_118_42, zx_118_44, zx_118_45, zx_118_46, zgI_119, zsI_119, zgI_120, zsI_120, zgI_121, zsI_121, zgI_122, zsI_122, zgI_123, zsI_123, zgI_124, zsI_124, zgI_125, zsI_125, zgI_126, zsI_126, zgI_127, zsI_127, zgI_128, zsI_128, zgI_129, zsI_129, zgI_130, zsI_130, zgI_131, zsI_131, zgI_132, zsI_132, zgI_133, zsI_133, zgI_134, zsI_134, zgI_135, zsI_135, zgI_136, zsI_136, zgI_137, zsI_137, zgI_139, zsI_139, zgI_140, zsI_140, zgI_141, zsI_141, zgI_142, zsI_142, zgI_143, zsI_143, zgI_144, zsI_144, zgI_145, zsI_145, zgI_146, zsI_146, zgI_147, zsI_147, zb_276_0, m_isPoint gG hv, e1, not_false]
          exact m_oddsLoop hM1 hV hk hm (by omega) hg0 _ fun σ' hM' hK' => ⟨σ', rfl, hM', hK'⟩
/-- mid -/
def zdw (G : zG) (n num : Nat) : List Int32 := (List.range n).map fun k => zlt (num / (2 * G.2.1) ^ k % (2 * G.2.1))
theorem zdw_len (G : zG) (n num : Nat) : (zdw G n num).length = n := by simp [zdw]
theorem zdw_lt (hg0 : 0 < G.2.1) {n num : Nat} : ∀ v ∈ zdw G n num, zLt G.2.1 v := fun v hv => by
  obtain ⟨k, hk, rfl⟩ := zmem_at hv
  rw [zdw_len] at hk
  unfold zdw
  rw [zat_rg _ hk]
  exact zlt_ok (Nat.mod_lt _ (by omega))
theorem zdw_at {n num k : Nat} (hk : k < n) : zat (zdw G n num) k = zlt (num / (2 * G.2.1) ^ k % (2 * G.2.1)) := zat_rg _ hk
theorem zdv (b num k : Nat) : num / b ^ k / b = num / b ^ (k + 1) := by
  rw [Nat.div_div_eq_div_mul, Nat.pow_succ]
noncomputable def zmid (G : zG) (t : zT) (p n : Nat) (c : Nat) : Nat := (zwt G t p (zdw G n c)).2.length
theorem c_draw (hF : zFix σ) (ha : zGo a) (hG : zCG σ a G) (hv : zGv G) (hg0 : 0 < G.2.1) {num n : Nat} (hn : n ≤ 4) (hnum : num < 2 ^ 30) : ∃ σ', zM 159 [.ref a, .int (nI num), .ref 79, .int (nI n)] zL σ = some (none, zL, σ') ∧ (∀ k, k < n → σ'.1 79 k = zat (zdw G n num) k) ∧ zKeep (fun x _ => x == 79) σ σ' := by
  have hai := zGo_i ha
  have g2 := hG.2.1
  have v2 := hv.2.1
  have hln : zm_len zL 79 = some (nI 4) := zlen (k := 0) (rfl : zL[79]? = some (1, 4))
  refine zS_ex (zS_of ze_159 ?_)
  simp (disch := first | assumption | omega) only [zn0, zn1, Option.bind_some, zm_ai, zm_al, zm_av, zm_opt, zm_fw, zE_l, zE_r, nI_add, pk_mul, pk_sub, pk_div, pk_rem, zrem, zpm1, zB_i0, zB_i1, zB_ok, zB_T, zB_F, nI_toInt, zT_sub, zT_neg, zT_le, zT_lt, nI_eq, zne1, zne2, zne9, ite_not, or_true, true_or, if_true, if_false, if_pos, if_neg, zw_R, zw_RL, zw_I, zF_R, zw_same, zw_cell, zw_ne, zF_at, zF_ne, zi_0, zi_1, zi_10, zi_17, zi_19, zi_20, zi_30, zi_48, zi_50, zi_52, zi_57, zi_59, zi_80, zi_93, zi_106, zi_110, zi_114, zx_0_0, zx_0_1, zx_0_2, zx_0_3, zx_0_4, zx_0_5, zx_0_6, zx_0_7, zx_0_8, zx_0_9, zx_0_10, zx_1_0, zx_1_1, zx_2_0, zx_2_1, zx_2_2, zx_2_3, zx_2_4, zx_2_5, zx_10_0, zx_10_1, zx_11_0, zx_11_1, zx_11_2, zx_11_3, zx_17_0, zx_19_0, zx_19_1, zx_19_2, zx_20_0, zx_20_1, zx_20_3, zx_20_4, zx_20_5, zx_20_6, zx_20_7, zx_20_8, zx_20_9, zx_30_0, zx_30_1, zx_30_4, zx_30_5, zx_48_0, zx_50_0, zx_52_0, zx_52_1, zx_52_2, zx_56_0, zx_56_1, zx_56_2, zx_57_0, zx_59_0, zx_80_3, zx_80_4, zx_80_5, zx_81_0, zx_81_1, zx_81_2, zx_81_3, zx_81_4, zx_81_5, zx_88_0, zx_88_1, zx_88_2, zx_93_3, zx_93_4, zx_93_5, zx_94_0, zx_94_1, zx_94_2, zx_94_3, zx_94_4, zx_94_5, zx_101_0, zx_101_1, zx_101_2, zx_106_0, zx_106_1, zx_106_2, zx_110_0, zx_110_1, zx_110_2, zx_114_0, zx_114_1, zx_114_2, zgI_9, zsI_9, zgI_16, zsI_16, zgI_18, zsI_18, zgI_21, zsI_21, zgI_22, zsI_22, zgI_23, zsI_23, zgI_24, zsI_24, zgI_25, zsI_25, zgI_26, zsI_26, zgI_27, zsI_27, zgI_28, zsI_28, zgI_29, zsI_29, zgI_47, zsI_47, zgI_49, zsI_49, zgI_51, zsI_51, zgI_53, zsI_53, zgI_54, zsI_54, zgI_55, zsI_55, zgI_58, zsI_58, zgI_76, zsI_76, zgI_79, zsI_79, zb_159_0, hai, g2]
  have h0 : nI num = nI (num / (2 * G.2.1) ^ 0) := by rw [Nat.pow_zero, Nat.div_one]
  rw [h0]
  refine zloop (fun k σ1 => (20, [(2, .ref 79), (3, .int (nI n)), (4, .int (nI (2 * G.2.1))), (5, .int (nI (num / (2 * G.2.1) ^ k))), (6, .int (nI k))], [], zL, σ1, 0, 0)) (fun k σ1 => (∀ j, j < k → σ1.1 79 j = zat (zdw G n num) j) ∧ zKeep (fun x _ => x == 79) σ σ1) n (fun k σ1 hk hI ih => ?_) (fun σ1 hI => ?_) 0 σ (by omega) ⟨fun j hj => by omega, zKeep.rf _ _⟩
  · have hdl : num / (2 * G.2.1) ^ k ≤ num := Nat.div_le_self _ _
    have hml := Nat.mod_lt (num / (2 * G.2.1) ^ k) (show 0 < 2 * G.2.1 by omega)
    have e1 := c_letterOf (σ := σ1) (l := num / (2 * G.2.1) ^ k % (2 * G.2.1)) (by omega)
    have e2 : nI (num / (2 * G.2.1) ^ k) - nI (num / (2 * G.2.1) ^ k) / nI (2 * G.2.1) * nI (2 * G.2.1) = nI (num / (2 * G.2.1) ^ k % (2 * G.2.1)) := pk_rem (by omega) (by omega) (by omega)
    have e3 : nI (num / (2 * G.2.1) ^ k) / nI (2 * G.2.1) = nI (num / (2 * G.2.1) ^ (k + 1)) := by
      rw [pk_div (by omega) (by omega) (by omega), zdv]
    rw [e3] at e2
    have hn0 : (nI (2 * G.2.1) = nI 0) = False := zd_eqF (by omega) (by omega) (by omega)
    have f1 : (nI n ≤ nI k) = False := zd_leF hk (by omega)
    have f2 : (nI 4 ≤ nI k) = False := zd_leF (by omega) (by omega)
    have e4 := zsI_79 (σ := σ1) (j := k) (v := zlt (num / (2 * G.2.1) ^ k % (2 * G.2.1))) (by omega)
    refine zW_of zg_159_20 ?_
    simp only [zb_159_20, zn0, zn1, f1, if_false, hln, Option.bind_some, f2, hn0, e3, e2, e1, zm_ai, e4, nI_add, zE_l]
    refine ih _ ⟨fun j hj => ?_, hI.2.wI rfl⟩
    rw [zwx]
    split
    · next e => rw [e, zdw_at hk]
    · exact hI.1 j (by omega)
  · refine zW_of zg_159_20 ?_
    simp (disch := first | assumption | omega) only [zn0, zn1, Option.bind_some, zm_ai, zm_al, zm_av, zm_opt, zm_fw, zE_l, zE_r, nI_add, pk_mul, pk_sub, pk_div, pk_rem, zrem, zpm1, zB_i0, zB_i1, zB_ok, zB_T, zB_F, nI_toInt, zT_sub, zT_neg, zT_le, zT_lt, nI_eq, zne1, zne2, zne9, ite_not, or_true, true_or, if_true, if_false, if_pos, if_neg, zw_R, zw_RL, zw_I, zF_R, zw_same, zw_cell, zw_ne, zF_at, zF_ne, zi_0, zi_1, zi_10, zi_17, zi_19, zi_20, zi_30, zi_48, zi_50, zi_52, zi_57, zi_59, zi_80, zi_93, zi_106, zi_110, zi_114, zx_0_0, zx_0_1, zx_0_2, zx_0_3, zx_0_4, zx_0_5, zx_0_6, zx_0_7, zx_0_8, zx_0_9, zx_0_10, zx_1_0, zx_1_1, zx_2_0, zx_2_1, zx_2_2, zx_2_3, zx_2_4, zx_2_5, zx_10_0, zx_10_1, zx_11_0, zx_11_1, zx_11_2, zx_11_3, zx_17_0, zx_19_0, zx_19_1, zx_19_2, zx_20_0, zx_20_1, zx_20_3, zx_20_4, zx_20_5, zx_20_6, zx_20_7, zx_20_8, zx_20_9, zx_30_0, zx_30_1, zx_30_4, zx_30_5, zx_48_0, zx_50_0, zx_52_0, zx_52_1, zx_52_2, zx_56_0, zx_56_1, zx_56_2, zx_57_0, zx_59_0, zx_80_3, zx_80_4, zx_80_5, zx_81_0, zx_81_1, zx_81_2, zx_81_3, zx_81_4, zx_81_5, zx_88_0, zx_88_1, zx_88_2, zx_93_3, zx_93_4, zx_93_5, zx_94_0, zx_94_1, zx_94_2, zx_94_3, zx_94_4, zx_94_5, zx_101_0, zx_101_1, zx_101_2, zx_106_0, zx_106_1, zx_106_2, zx_110_0, zx_110_1, zx_110_2, zx_114_0, zx_114_1, zx_114_2, zgI_9, zsI_9, zgI_16, zsI_16, zgI_18, zsI_18, zgI_21, zsI_21, zgI_22, zsI_22, zgI_23, zsI_23, zgI_24, zsI_24, zgI_25, zsI_25, zgI_26, zsI_26, zgI_27, zsI_27, zgI_28, zsI_28, zgI_29, zsI_29, zgI_47, zsI_47, zgI_49, zsI_49, zgI_51, zsI_51, zgI_53, zsI_53, zgI_54, zsI_54, zgI_55, zsI_55, zgI_58, zsI_58, zgI_76, zsI_76, zgI_79, zsI_79, zb_159_20]
    exact ⟨σ1, rfl, hI⟩
def zFmd (x k : Nat) : Bool := x == 79 || zFW 57 x k
theorem zFmd_scr (hK : zKeep zFmd σ σ') : zKeep zScr σ σ' := hK.mo fun x k q => by
  simp only [zFmd, zFW, Bool.or_eq_true, Bool.and_eq_true, beq_iff_eq] at q
  simp only [zScr, Bool.or_eq_true, Bool.and_eq_true, decide_eq_true_eq, beq_iff_eq]
  omega
theorem zmid_le (hv : zGv G) (hg0 : 0 < G.2.1) {p n c : Nat} (hp : p < G.1) : zmid G t p n c ≤ n := by
  have := (zwt_ok (t := t) hv hp (zdw G n c) (zdw_lt hg0)).2.1
  rw [zdw_len] at this
  exact this
theorem k_mid (k n : Int32) (h : zInv σ) : zCallV 158 277 [.int k, .int n] σ := by
  obtain ⟨a, R, T, K, G, ds, ks, hC, hM, hV⟩ := h
  obtain ⟨hF, hR, hTx, hKc, ha, hcu, hsp, hG, hN, ⟨π, hCR⟩, hL, hO, hTl, hks, hpos, hzero⟩ := id hC
  have hv := hV.1
  have h5 := hv.1
  have h3 := hv.2.1
  have hai := zGo_i ha
  have bad : ∀ k n : Int32, (¬ (0 ≤ k.toInt ∧ k.toInt < G.1) ∨ n.toInt < 0 ∨ 4 < n.toInt) → zCallV 158 277 [.int k, .int n] σ := by
    intro k n hb
    refine zCallV.of hV hV hM (v := .int (-nI 1)) (zCo.same hC (zS_eq (zS_of ze_158 ?_))) fun σ1 hM1 => zMo.same hM1 (zS_eq (zS_of ze_277 ?_))
    · by_cases q1 : 0 ≤ k.toInt ∧ k.toInt < G.1
      · by_cases q3 : n.toInt < 0
        · simp (disch := first | assumption | omega) only [zn0, zn1, Option.bind_some, zm_ai, zm_al, zm_av, zm_opt, zm_fw, zE_l, zE_r, nI_add, pk_mul, pk_sub, pk_div, pk_rem, zrem, zpm1, zB_i0, zB_i1, zB_ok, zB_T, zB_F, nI_toInt, zT_sub, zT_neg, zT_le, zT_lt, nI_eq, zne1, zne2, zne9, ite_not, or_true, true_or, if_true, if_false, if_pos, if_neg, zw_R, zw_RL, zw_I, zF_R, zw_same, zw_cell, zw_ne, zF_at, zF_ne, zi_0, zi_1, zi_10, zi_17, zi_19, zi_20, zi_30, zi_48, zi_50, zi_52, zi_57, zi_59, zi_80, zi_93, zi_106, zi_110, zi_114, zx_0_0, zx_0_1, zx_0_2, zx_0_3, zx_0_4, zx_0_5, zx_0_6, zx_0_7, zx_0_8, zx_0_9, zx_0_10, zx_1_0, zx_1_1, zx_2_0, zx_2_1, zx_2_2, zx_2_3, zx_2_4, zx_2_5, zx_10_0, zx_10_1, zx_11_0, zx_11_1, zx_11_2, zx_11_3, zx_17_0, zx_19_0, zx_19_1, zx_19_2, zx_20_0, zx_20_1, zx_20_3, zx_20_4, zx_20_5, zx_20_6, zx_20_7, zx_20_8, zx_20_9, zx_30_0, zx_30_1, zx_30_4, zx_30_5, zx_48_0, zx_50_0, zx_52_0, zx_52_1, zx_52_2, zx_56_0, zx_56_1, zx_56_2, zx_57_0, zx_59_0, zx_80_3, zx_80_4, zx_80_5, zx_81_0, zx_81_1, zx_81_2, zx_81_3, zx_81_4, zx_81_5, zx_88_0, zx_88_1, zx_88_2, zx_93_3, zx_93_4, zx_93_5, zx_94_0, zx_94_1, zx_94_2, zx_94_3, zx_94_4, zx_94_5, zx_101_0, zx_101_1, zx_101_2, zx_106_0, zx_106_1, zx_106_2, zx_110_0, zx_110_1, zx_110_2, zx_114_0, zx_114_1, zx_114_2, zgI_9, zsI_9, zgI_16, zsI_16, zgI_18, zsI_18, zgI_21, zsI_21, zgI_22, zsI_22, zgI_23, zsI_23, zgI_24, zsI_24, zgI_25, zsI_25, zgI_26, zsI_26, zgI_27, zsI_27, zgI_28, zsI_28, zgI_29, zsI_29, zgI_47, zsI_47, zgI_49, zsI_49, zgI_51, zsI_51, zgI_53, zsI_53, zgI_54, zsI_54, zgI_55, zsI_55, zgI_58, zsI_58, zgI_76, zsI_76, zgI_79, zsI_79, zb_158_0, hcu, hai, c_isPoint ha hG hv]
        · have q4 : 4 < n.toInt := by omega
          simp (disch := first | assumption | omega) only [zn0, zn1, Option.bind_some, zm_ai, zm_al, zm_av, zm_opt, zm_fw, zE_l, zE_r, nI_add, pk_mul, pk_sub, pk_div, pk_rem, zrem, zpm1, zB_i0, zB_i1, zB_ok, zB_T, zB_F, nI_toInt, zT_sub, zT_neg, zT_le, zT_lt, nI_eq, zne1, zne2, zne9, ite_not, or_true, true_or, if_true, if_false, if_pos, if_neg, zw_R, zw_RL, zw_I, zF_R, zw_same, zw_cell, zw_ne, zF_at, zF_ne, zi_0, zi_1, zi_10, zi_17, zi_19, zi_20, zi_30, zi_48, zi_50, zi_52, zi_57, zi_59, zi_80, zi_93, zi_106, zi_110, zi_114, zx_0_0, zx_0_1, zx_0_2, zx_0_3, zx_0_4, zx_0_5, zx_0_6, zx_0_7, zx_0_8, zx_0_9, zx_0_10, zx_1_0, zx_1_1, zx_2_0, zx_2_1, zx_2_2, zx_2_3, zx_2_4, zx_2_5, zx_10_0, zx_10_1, zx_11_0, zx_11_1, zx_11_2, zx_11_3, zx_17_0, zx_19_0, zx_19_1, zx_19_2, zx_20_0, zx_20_1, zx_20_3, zx_20_4, zx_20_5, zx_20_6, zx_20_7, zx_20_8, zx_20_9, zx_30_0, zx_30_1, zx_30_4, zx_30_5, zx_48_0, zx_50_0, zx_52_0, zx_52_1, zx_52_2, zx_56_0, zx_56_1, zx_56_2, zx_57_0, zx_59_0, zx_80_3, zx_80_4, zx_80_5, zx_81_0, zx_81_1, zx_81_2, zx_81_3, zx_81_4, zx_81_5, zx_88_0, zx_88_1, zx_88_2, zx_93_3, zx_93_4, zx_93_5, zx_94_0, zx_94_1, zx_94_2, zx_94_3, zx_94_4, zx_94_5, zx_101_0, zx_101_1, zx_101_2, zx_106_0, zx_106_1, zx_106_2, zx_110_0, zx_110_1, zx_110_2, zx_114_0, zx_114_1, zx_114_2, zgI_9, zsI_9, zgI_16, zsI_16, zgI_18, zsI_18, zgI_21, zsI_21, zgI_22, zsI_22, zgI_23, zsI_23, zgI_24, zsI_24, zgI_25, zsI_25, zgI_26, zsI_26, zgI_27, zsI_27, zgI_28, zsI_28, zgI_29, zsI_29, zgI_47, zsI_47, zgI_49, zsI_49, zgI_51, zsI_51, zgI_53, zsI_53, zgI_54, zsI_54, zgI_55, zsI_55, zgI_58, zsI_58, zgI_76, zsI_76, zgI_79, zsI_79, zb_158_0, hcu, hai, c_isPoint ha hG hv]
      · simp (disch := first | assumption | omega) only [zn0, zn1, Option.bind_some, zm_ai, zm_al, zm_av, zm_opt, zm_fw, zE_l, zE_r, nI_add, pk_mul, pk_sub, pk_div, pk_rem, zrem, zpm1, zB_i0, zB_i1, zB_ok, zB_T, zB_F, nI_toInt, zT_sub, zT_neg, zT_le, zT_lt, nI_eq, zne1, zne2, zne9, ite_not, or_true, true_or, if_true, if_false, if_pos, if_neg, zw_R, zw_RL, zw_I, zF_R, zw_same, zw_cell, zw_ne, zF_at, zF_ne, zi_0, zi_1, zi_10, zi_17, zi_19, zi_20, zi_30, zi_48, zi_50, zi_52, zi_57, zi_59, zi_80, zi_93, zi_106, zi_110, zi_114, zx_0_0, zx_0_1, zx_0_2, zx_0_3, zx_0_4, zx_0_5, zx_0_6, zx_0_7, zx_0_8, zx_0_9, zx_0_10, zx_1_0, zx_1_1, zx_2_0, zx_2_1, zx_2_2, zx_2_3, zx_2_4, zx_2_5, zx_10_0, zx_10_1, zx_11_0, zx_11_1, zx_11_2, zx_11_3, zx_17_0, zx_19_0, zx_19_1, zx_19_2, zx_20_0, zx_20_1, zx_20_3, zx_20_4, zx_20_5, zx_20_6, zx_20_7, zx_20_8, zx_20_9, zx_30_0, zx_30_1, zx_30_4, zx_30_5, zx_48_0, zx_50_0, zx_52_0, zx_52_1, zx_52_2, zx_56_0, zx_56_1, zx_56_2, zx_57_0, zx_59_0, zx_80_3, zx_80_4, zx_80_5, zx_81_0, zx_81_1, zx_81_2, zx_81_3, zx_81_4, zx_81_5, zx_88_0, zx_88_1, zx_88_2, zx_93_3, zx_93_4, zx_93_5, zx_94_0, zx_94_1, zx_94_2, zx_94_3, zx_94_4, zx_94_5, zx_101_0, zx_101_1, zx_101_2, zx_106_0, zx_106_1, zx_106_2, zx_110_0, zx_110_1, zx_110_2, zx_114_0, zx_114_1, zx_114_2, zgI_9, zsI_9, zgI_16, zsI_16, zgI_18, zsI_18, zgI_21, zsI_21, zgI_22, zsI_22, zgI_23, zsI_23, zgI_24, zsI_24, zgI_25, zsI_25, zgI_26, zsI_26, zgI_27, zsI_27, zgI_28, zsI_28, zgI_29, zsI_29, zgI_47, zsI_47, zgI_49, zsI_49, zgI_51, zsI_51, zgI_53, zsI_53, zgI_54, zsI_54, zgI_55, zsI_55, zgI_58, zsI_58, zgI_76, zsI_76, zgI_79, zsI_79, zb_158_0, hcu, hai, c_isPoint ha hG hv]
    · have gG := hM1.2.2.2.2.1
      by_cases q1 : 0 ≤ k.toInt ∧ k.toInt < G.1
      · have e1 := m_inI σ1 n (nI 0) (nI 4)
        rw [zB_f (by rw [nI_toInt (by omega), nI_toInt (by omega)]; omega)] at e1
        simp (disch := first | assumption | omega) only [zn0, zn1, Option.bind_some, zm_ai, zm_al, zm_av, zm_opt, zm_fw, zE_l, zE_r, nI_add, pk_mul, pk_sub, pk_div, pk_rem, zrem, zpm1, zB_i0, zB_i1, zB_ok, zB_T, zB_F, nI_toInt, zT_sub, zT_neg, zT_le, zT_lt, nI_eq, zne1, zne2, zne9, ite_not, or_true, true_or, if_true, if_false, if_pos, if_neg, zw_R, zw_RL, zw_I, zF_R, zw_same, zw_cell, zw_ne, zF_at, zF_ne, zi_118, zx_118_0, zx_118_1, zx_118_2, zx_118_3, zx_118_7, zx_118_8, zx_118_9, zx_118_10, zx_118_11, zx_118_12, zx_118_13, zx_118_14, zx_118_15, zx_118_17, zx_118_18, zx_118_19, zx_118_21, zx_118_22, zx_118_24, zx_118_25, zx_118_30, zx_118_35, zx_118_36, zx_118_37, zx_118_38, zx_118_39, zx_118_41, zx_118_42, zx_118_44, zx_118_45, zx_118_46, zgI_119, zsI_119, zgI_120, zsI_120, zgI_121, zsI_121, zgI_122, zsI_122, zgI_123, zsI_123, zgI_124, zsI_124, zgI_125, zsI_125, zgI_126, zsI_126, zgI_127, zsI_127, zgI_128, zsI_128, zgI_129, zsI_129, zgI_130, zsI_130, zgI_131, zsI_131, zgI_132, zsI_132, zgI_133, zsI_133, zgI_134, zsI_134, zgI_135, zsI_135, zgI_136, zsI_136, zgI_137, zsI_137, zgI_139, zsI_139, zgI_140, zsI_140, zgI_141, zsI_141, zgI_142, zsI_142, zgI_143, zsI_143, zgI_144, zsI_144, zgI_145, zsI_145, zgI_146, zsI_146, zgI_147, zsI_147, zb_277_0, m_isPoint gG hv, e1, not_true]
      · simp (disch := first | assumption | omega) only [zn0, zn1, Option.bind_some, zm_ai, zm_al, zm_av, zm_opt, zm_fw, zE_l, zE_r, nI_add, pk_mul, pk_sub, pk_div, pk_rem, zrem, zpm1, zB_i0, zB_i1, zB_ok, zB_T, zB_F, nI_toInt, zT_sub, zT_neg, zT_le, zT_lt, nI_eq, zne1, zne2, zne9, ite_not, or_true, true_or, if_true, if_false, if_pos, if_neg, zw_R, zw_RL, zw_I, zF_R, zw_same, zw_cell, zw_ne, zF_at, zF_ne, zi_118, zx_118_0, zx_118_1, zx_118_2, zx_118_3, zx_118_7, zx_118_8, zx_118_9, zx_118_10, zx_118_11, zx_118_12, zx_118_13, zx_118_14, zx_118_15, zx_118_17, zx_118_18, zx_118_19, zx_118_21, zx_118_22, zx_118_24, zx_118_25, zx_118_30, zx_118_35, zx_118_36, zx_118_37, zx_118_38, zx_118_39, zx_118_41, zx_118_42, zx_118_44, zx_118_45, zx_118_46, zgI_119, zsI_119, zgI_120, zsI_120, zgI_121, zsI_121, zgI_122, zsI_122, zgI_123, zsI_123, zgI_124, zsI_124, zgI_125, zsI_125, zgI_126, zsI_126, zgI_127, zsI_127, zgI_128, zsI_128, zgI_129, zsI_129, zgI_130, zsI_130, zgI_131, zsI_131, zgI_132, zsI_132, zgI_133, zsI_133, zgI_134, zsI_134, zgI_135, zsI_135, zgI_136, zsI_136, zgI_137, zsI_137, zgI_139, zsI_139, zgI_140, zsI_140, zgI_141, zsI_141, zgI_142, zsI_142, zgI_143, zsI_143, zgI_144, zsI_144, zgI_145, zsI_145, zgI_146, zsI_146, zgI_147, zsI_147, zb_277_0, m_isPoint gG hv]
  rcases z_cN k G.1 (by omega) with hb | ⟨p, hp, rfl⟩
  · exact bad _ _ (by omega)
  · rcases z_cN n 5 (by omega) with hb | ⟨n, hn, rfl⟩
    · exact bad _ _ (by omega)
    · have h0 : 0 < G.1 := by omega
      have hg0 : 0 < G.2.1 := (hV.pos h0).1.2.2.2
      have hpw := zpw hv (show n ≤ 8 by omega)
      have hpp : 0 < (2 * G.2.1) ^ n := Nat.pow_pos (by omega)
      have hsl : ∀ m, m ≤ (2 * G.2.1) ^ n → zs (zmid G (ztree G (zrun G ds).1) p n) m < 2 ^ 40 := fun m hm => by
        have h1 := zs_le (f := zmid G (ztree G (zrun G ds).1) p n) (b := n) (n := m) fun i _ => zmid_le hv hg0 hp
        have h2 : m * n ≤ m * 4 := Nat.mul_le_mul_left m (by omega)
        omega
      have hs1 := hsl _ (Nat.le_refl _)
      refine zCallV.of hV hV hM (v := .int (nI 1)) (a' := a) (R' := R) (T' := T) (K' := zKu K (lN (zs (zmid G (ztree G (zrun G ds).1) p n) ((2 * G.2.1) ^ n) / Nat.gcd (zs (zmid G (ztree G (zrun G ds).1) p n) ((2 * G.2.1) ^ n)) ((2 * G.2.1) ^ n))) (lN ((2 * G.2.1) ^ n / Nat.gcd (zs (zmid G (ztree G (zrun G ds).1) p n) ((2 * G.2.1) ^ n)) ((2 * G.2.1) ^ n)))) ?_ fun σ1 hM1 => ?_
      · have g2 := hG.2.1
        have e1 := c_power (σ := σ) (2 * G.2.1) (n := n) (by omega)
        have hl : (nI (2 * G.2.1)).toInt64 = lN (2 * G.2.1) := nI_l (by omega)
        refine zS_ex (zS_of ze_158 ?_)
        simp (disch := first | assumption | omega) only [zn0, zn1, Option.bind_some, zm_ai, zm_al, zm_av, zm_opt, zm_fw, zE_l, zE_r, nI_add, pk_mul, pk_sub, pk_div, pk_rem, zrem, zpm1, zB_i0, zB_i1, zB_ok, zB_T, zB_F, nI_toInt, zT_sub, zT_neg, zT_le, zT_lt, nI_eq, zne1, zne2, zne9, ite_not, or_true, true_or, if_true, if_false, if_pos, if_neg, zw_R, zw_RL, zw_I, zF_R, zw_same, zw_cell, zw_ne, zF_at, zF_ne, zi_0, zi_1, zi_10, zi_17, zi_19, zi_20, zi_30, zi_48, zi_50, zi_52, zi_57, zi_59, zi_80, zi_93, zi_106, zi_110, zi_114, zx_0_0, zx_0_1, zx_0_2, zx_0_3, zx_0_4, zx_0_5, zx_0_6, zx_0_7, zx_0_8, zx_0_9, zx_0_10, zx_1_0, zx_1_1, zx_2_0, zx_2_1, zx_2_2, zx_2_3, zx_2_4, zx_2_5, zx_10_0, zx_10_1, zx_11_0, zx_11_1, zx_11_2, zx_11_3, zx_17_0, zx_19_0, zx_19_1, zx_19_2, zx_20_0, zx_20_1, zx_20_3, zx_20_4, zx_20_5, zx_20_6, zx_20_7, zx_20_8, zx_20_9, zx_30_0, zx_30_1, zx_30_4, zx_30_5, zx_48_0, zx_50_0, zx_52_0, zx_52_1, zx_52_2, zx_56_0, zx_56_1, zx_56_2, zx_57_0, zx_59_0, zx_80_3, zx_80_4, zx_80_5, zx_81_0, zx_81_1, zx_81_2, zx_81_3, zx_81_4, zx_81_5, zx_88_0, zx_88_1, zx_88_2, zx_93_3, zx_93_4, zx_93_5, zx_94_0, zx_94_1, zx_94_2, zx_94_3, zx_94_4, zx_94_5, zx_101_0, zx_101_1, zx_101_2, zx_106_0, zx_106_1, zx_106_2, zx_110_0, zx_110_1, zx_110_2, zx_114_0, zx_114_1, zx_114_2, zgI_9, zsI_9, zgI_16, zsI_16, zgI_18, zsI_18, zgI_21, zsI_21, zgI_22, zsI_22, zgI_23, zsI_23, zgI_24, zsI_24, zgI_25, zsI_25, zgI_26, zsI_26, zgI_27, zsI_27, zgI_28, zsI_28, zgI_29, zsI_29, zgI_47, zsI_47, zgI_49, zsI_49, zgI_51, zsI_51, zgI_53, zsI_53, zgI_54, zsI_54, zgI_55, zsI_55, zgI_58, zsI_58, zgI_76, zsI_76, zgI_79, zsI_79, zb_158_0, hcu, hai, c_isPoint ha hG hv, g2, hl, e1]
        refine zloop (fun c σ1 => (43, [(0, .ref 0), (1, .int (nI p)), (2, .int (nI n)), (3, .long (lN ((2 * G.2.1) ^ n))), (5, .long (lN (zs (zmid G (ztree G (zrun G ds).1) p n) c))), (7, .int (nI c))], [], zL, σ1, 0, 0)) (fun c σ1 => zKeep zFmd σ σ1) ((2 * G.2.1) ^ n) (fun c σ1 hc hK1 ih => ?_) (fun σ1 hK1 => ?_) 0 σ (by omega) (zKeep.rf _ _)
        · have hC1 := hC.scr hV (zFmd_scr hK1)
          obtain ⟨hF1, -, -, -, ha1, hcu1, -, hG1, hN1, -⟩ := id hC1
          have hai1 := zGo_i ha1
          obtain ⟨σ2, e2, f2, hK2⟩ := c_draw hF1 ha1 hG1 hv hg0 (num := c) (n := n) (by omega) (by omega)
          have hK2' : zKeep zFmd σ1 σ2 := hK2.mo fun x k q => by simp only [beq_iff_eq] at q; simp [zFmd, q]
          have hC2 := hC.scr hV (zFmd_scr (hK1.tr hK2'))
          obtain ⟨hF2, -, -, -, ha2, hcu2, -, hG2, hN2, -⟩ := id hC2
          obtain ⟨σ3, e3, w3, hK3⟩ := c_write64 (r3 := 79) (N := 4) (l := zdw G n c) hF2 ha2 hG2 hv hN2 zw57 rfl (Or.inr (by decide)) (by rw [zdw_len]; omega) (by decide) hp (zdw_lt hg0) (by rw [zdw_len]; exact f2)
          rw [zdw_len] at e3
          have hK3' : zKeep zFmd σ2 σ3 := hK3.mo fun x k q => by simp [zFmd, q]
          have hF3 := (hC.scr hV (zFmd_scr ((hK1.tr hK2').tr hK3'))).1
          have s3 := w3.1
          have hml := zmid_le (t := ztree G (zrun G ds).1) hv hg0 (n := n) (c := c) hp
          have hadd : lN (zs (zmid G (ztree G (zrun G ds).1) p n) c) + (nI (zwt G (ztree G (zrun G ds).1) p (zdw G n c)).2.length).toInt64 = lN (zs (zmid G (ztree G (zrun G ds).1) p n) (c + 1)) := by
            rw [nI_l (by unfold zmid at hml; omega), lN_add]
            rfl
          have hcl : (nI c).toInt64 = lN c := nI_l (by omega)
          have f1 : (nI 0 ≤ lg_cmp (lN c) (lN ((2 * G.2.1) ^ n))) = False := eq_false (by
            rw [nI_0, lg_cmp_ge, pk_lLE (by omega) (by omega)]
            omega)
          refine zW_of zg_158_43 ?_
          simp (disch := first | assumption | omega) only [zn0, zn1, Option.bind_some, zm_ai, zm_al, zm_av, zm_opt, zm_fw, zE_l, zE_r, nI_add, pk_mul, pk_sub, pk_div, pk_rem, zrem, zpm1, zB_i0, zB_i1, zB_ok, zB_T, zB_F, nI_toInt, zT_sub, zT_neg, zT_le, zT_lt, nI_eq, zne1, zne2, zne9, ite_not, or_true, true_or, if_true, if_false, if_pos, if_neg, zw_R, zw_RL, zw_I, zF_R, zw_same, zw_cell, zw_ne, zF_at, zF_ne, zi_0, zi_1, zi_10, zi_17, zi_19, zi_20, zi_30, zi_48, zi_50, zi_52, zi_57, zi_59, zi_80, zi_93, zi_106, zi_110, zi_114, zx_0_0, zx_0_1, zx_0_2, zx_0_3, zx_0_4, zx_0_5, zx_0_6, zx_0_7, zx_0_8, zx_0_9, zx_0_10, zx_1_0, zx_1_1, zx_2_0, zx_2_1, zx_2_2, zx_2_3, zx_2_4, zx_2_5, zx_10_0, zx_10_1, zx_11_0, zx_11_1, zx_11_2, zx_11_3, zx_17_0, zx_19_0, zx_19_1, zx_19_2, zx_20_0, zx_20_1, zx_20_3, zx_20_4, zx_20_5, zx_20_6, zx_20_7, zx_20_8, zx_20_9, zx_30_0, zx_30_1, zx_30_4, zx_30_5, zx_48_0, zx_50_0, zx_52_0, zx_52_1, zx_52_2, zx_56_0, zx_56_1, zx_56_2, zx_57_0, zx_59_0, zx_80_3, zx_80_4, zx_80_5, zx_81_0, zx_81_1, zx_81_2, zx_81_3, zx_81_4, zx_81_5, zx_88_0, zx_88_1, zx_88_2, zx_93_3, zx_93_4, zx_93_5, zx_94_0, zx_94_1, zx_94_2, zx_94_3, zx_94_4, zx_94_5, zx_101_0, zx_101_1, zx_101_2, zx_106_0, zx_106_1, zx_106_2, zx_110_0, zx_110_1, zx_110_2, zx_114_0, zx_114_1, zx_114_2, zgI_9, zsI_9, zgI_16, zsI_16, zgI_18, zsI_18, zgI_21, zsI_21, zgI_22, zsI_22, zgI_23, zsI_23, zgI_24, zsI_24, zgI_25, zsI_25, zgI_26, zsI_26, zgI_27, zsI_27, zgI_28, zsI_28, zgI_29, zsI_29, zgI_47, zsI_47, zgI_49, zsI_49, zgI_51, zsI_51, zgI_53, zsI_53, zgI_54, zsI_54, zgI_55, zsI_55, zgI_58, zsI_58, zgI_76, zsI_76, zgI_79, zsI_79, zb_158_43, hcl, f1, hcu1, hai1, e2, hcu2, e3, s3, hadd]
          exact ih σ3 ((hK1.tr hK2').tr hK3')
        · have hC1 := hC.scr hV (zFmd_scr hK1)
          have hF1 := hC1.1
          have hcl : (nI ((2 * G.2.1) ^ n)).toInt64 = lN ((2 * G.2.1) ^ n) := nI_l (by omega)
          have f1 : (nI 0 ≤ lg_cmp (lN ((2 * G.2.1) ^ n)) (lN ((2 * G.2.1) ^ n))) = True := eq_true (by
            rw [nI_0, lg_cmp_ge, pk_lLE (by omega) (by omega)]
            exact Nat.le_refl _)
          have e5 := c_tellShare (σ := σ1) (x := zs (zmid G (ztree G (zrun G ds).1) p n) ((2 * G.2.1) ^ n)) (y := (2 * G.2.1) ^ n) (by omega) (by omega) hpp
          refine zW_of zg_158_43 ?_
          simp (disch := first | assumption | omega) only [zn0, zn1, Option.bind_some, zm_ai, zm_al, zm_av, zm_opt, zm_fw, zE_l, zE_r, nI_add, pk_mul, pk_sub, pk_div, pk_rem, zrem, zpm1, zB_i0, zB_i1, zB_ok, zB_T, zB_F, nI_toInt, zT_sub, zT_neg, zT_le, zT_lt, nI_eq, zne1, zne2, zne9, ite_not, or_true, true_or, if_true, if_false, if_pos, if_neg, zw_R, zw_RL, zw_I, zF_R, zw_same, zw_cell, zw_ne, zF_at, zF_ne, zi_0, zi_1, zi_10, zi_17, zi_19, zi_20, zi_30, zi_48, zi_50, zi_52, zi_57, zi_59, zi_80, zi_93, zi_106, zi_110, zi_114, zx_0_0, zx_0_1, zx_0_2, zx_0_3, zx_0_4, zx_0_5, zx_0_6, zx_0_7, zx_0_8, zx_0_9, zx_0_10, zx_1_0, zx_1_1, zx_2_0, zx_2_1, zx_2_2, zx_2_3, zx_2_4, zx_2_5, zx_10_0, zx_10_1, zx_11_0, zx_11_1, zx_11_2, zx_11_3, zx_17_0, zx_19_0, zx_19_1, zx_19_2, zx_20_0, zx_20_1, zx_20_3, zx_20_4, zx_20_5, zx_20_6, zx_20_7, zx_20_8, zx_20_9, zx_30_0, zx_30_1, zx_30_4, zx_30_5, zx_48_0, zx_50_0, zx_52_0, zx_52_1, zx_52_2, zx_56_0, zx_56_1, zx_56_2, zx_57_0, zx_59_0, zx_80_3, zx_80_4, zx_80_5, zx_81_0, zx_81_1, zx_81_2, zx_81_3, zx_81_4, zx_81_5, zx_88_0, zx_88_1, zx_88_2, zx_93_3, zx_93_4, zx_93_5, zx_94_0, zx_94_1, zx_94_2, zx_94_3, zx_94_4, zx_94_5, zx_101_0, zx_101_1, zx_101_2, zx_106_0, zx_106_1, zx_106_2, zx_110_0, zx_110_1, zx_110_2, zx_114_0, zx_114_1, zx_114_2, zgI_9, zsI_9, zgI_16, zsI_16, zgI_18, zsI_18, zgI_21, zsI_21, zgI_22, zsI_22, zgI_23, zsI_23, zgI_24, zsI_24, zgI_25, zsI_25, zgI_26, zsI_26, zgI_27, zsI_27, zgI_28, zsI_28, zgI_29, zsI_29, zgI_47, zsI_47, zgI_49, zsI_49, zgI_51, zsI_51, zgI_53, zsI_53, zgI_54, zsI_54, zgI_55, zsI_55, zgI_58, zsI_58, zgI_76, zsI_76, zgI_79, zsI_79, zb_158_43, hcl, f1, e5]
          exact ⟨_, rfl, hC1.share hV _ _, (zScr_cls (zFmd_scr hK1)).tr (zSh2_c _ _ _)⟩
      · have gG := hM1.2.2.2.2.1
        have g2 := gG.2.1
        have hF1 := hM1.1
        refine zS_ex (zS_of ze_277 ?_)
        have e1 := m_inI σ1 (nI n) (nI 0) (nI 4)
        rw [zB_t (by rw [nI_toInt (by omega), nI_toInt (by omega), nI_toInt (by omega)]; omega)] at e1
        simp (disch := first | assumption | omega) only [zn0, zn1, Option.bind_some, zm_ai, zm_al, zm_av, zm_opt, zm_fw, zE_l, zE_r, nI_add, pk_mul, pk_sub, pk_div, pk_rem, zrem, zpm1, zB_i0, zB_i1, zB_ok, zB_T, zB_F, nI_toInt, zT_sub, zT_neg, zT_le, zT_lt, nI_eq, zne1, zne2, zne9, ite_not, or_true, true_or, if_true, if_false, if_pos, if_neg, zw_R, zw_RL, zw_I, zF_R, zw_same, zw_cell, zw_ne, zF_at, zF_ne, zi_118, zx_118_0, zx_118_1, zx_118_2, zx_118_3, zx_118_7, zx_118_8, zx_118_9, zx_118_10, zx_118_11, zx_118_12, zx_118_13, zx_118_14, zx_118_15, zx_118_17, zx_118_18, zx_118_19, zx_118_21, zx_118_22, zx_118_24, zx_118_25, zx_118_30, zx_118_35, zx_118_36, zx_118_37, zx_118_38, zx_118_39, zx_118_41, zx_118_42, zx_118_44, zx_118_45, zx_118_46, zgI_119, zsI_119, zgI_120, zsI_120, zgI_121, zsI_121, zgI_122, zsI_122, zgI_123, zsI_123, zgI_124, zsI_124, zgI_125, zsI_125, zgI_126, zsI_126, zgI_127, zsI_127, zgI_128, zsI_128, zgI_129, zsI_129, zgI_130, zsI_130, zgI_131, zsI_131, zgI_132, zsI_132, zgI_133, zsI_133, zgI_134, zsI_134, zgI_135, zsI_135, zgI_136, zsI_136, zgI_137, zsI_137, zgI_139, zsI_139, zgI_140, zsI_140, zgI_141, zsI_141, zgI_142, zsI_142, zgI_143, zsI_143, zgI_144, zsI_144, zgI_145, zsI_145, zgI_146, zsI_146, zgI_147, zsI_147, zb_277_0, m_isPoint gG hv, e1, not_false]
        have hz : nI 1 = nI ((2 * G.2.1) ^ 0) := by rw [Nat.pow_zero]
        rw [hz]
        refine zloopP (fun i => (24, [(0, .ref 118), (1, .int (nI p)), (2, .int (nI n)), (3, .int (nI ((2 * G.2.1) ^ i))), (4, .int (nI i))], [], zL, σ1, 0, 0)) (fun _ => True) n (fun i hi _ ih => ?_) (fun _ => ?_) trivial
        · have ih := ih trivial
          rw [Nat.pow_succ] at ih
          refine zW_of zg_277_24 ?_
          simp (disch := first | assumption | omega) only [zn0, zn1, Option.bind_some, zm_ai, zm_al, zm_av, zm_opt, zm_fw, zE_l, zE_r, nI_add, pk_mul, pk_sub, pk_div, pk_rem, zrem, zpm1, zB_i0, zB_i1, zB_ok, zB_T, zB_F, nI_toInt, zT_sub, zT_neg, zT_le, zT_lt, nI_eq, zne1, zne2, zne9, ite_not, or_true, true_or, if_true, if_false, if_pos, if_neg, zw_R, zw_RL, zw_I, zF_R, zw_same, zw_cell, zw_ne, zF_at, zF_ne, zi_118, zx_118_0, zx_118_1, zx_118_2, zx_118_3, zx_118_7, zx_118_8, zx_118_9, zx_118_10, zx_118_11, zx_118_12, zx_118_13, zx_118_14, zx_118_15, zx_118_17, zx_118_18, zx_118_19, zx_118_21, zx_118_22, zx_118_24, zx_118_25, zx_118_30, zx_118_35, zx_118_36, zx_118_37, zx_118_38, zx_118_39, zx_118_41, zx_118_42, zx_118_44, zx_118_45, zx_118_46, zgI_119, zsI_119, zgI_120, zsI_120, zgI_121, zsI_121, zgI_122, zsI_122, zgI_123, zsI_123, zgI_124, zsI_124, zgI_125, zsI_125, zgI_126, zsI_126, zgI_127, zsI_127, zgI_128, zsI_128, zgI_129, zsI_129, zgI_130, zsI_130, zgI_131, zsI_131, zgI_132, zsI_132, zgI_133, zsI_133, zgI_134, zsI_134, zgI_135, zsI_135, zgI_136, zsI_136, zgI_137, zsI_137, zgI_139, zsI_139, zgI_140, zsI_140, zgI_141, zsI_141, zgI_142, zsI_142, zgI_143, zsI_143, zgI_144, zsI_144, zgI_145, zsI_145, zgI_146, zsI_146, zgI_147, zsI_147, zb_277_24, g2]
          exact ih
        · refine zW_of zg_277_24 ?_
          simp (disch := first | assumption | omega) only [zn0, zn1, Option.bind_some, zm_ai, zm_al, zm_av, zm_opt, zm_fw, zE_l, zE_r, nI_add, pk_mul, pk_sub, pk_div, pk_rem, zrem, zpm1, zB_i0, zB_i1, zB_ok, zB_T, zB_F, nI_toInt, zT_sub, zT_neg, zT_le, zT_lt, nI_eq, zne1, zne2, zne9, ite_not, or_true, true_or, if_true, if_false, if_pos, if_neg, zw_R, zw_RL, zw_I, zF_R, zw_same, zw_cell, zw_ne, zF_at, zF_ne, zi_118, zx_118_0, zx_118_1, zx_118_2, zx_118_3, zx_118_7, zx_118_8, zx_118_9, zx_118_10, zx_118_11, zx_118_12, zx_118_13, zx_118_14, zx_118_15, zx_118_17, zx_118_18, zx_118_19, zx_118_21, zx_118_22, zx_118_24, zx_118_25, zx_118_30, zx_118_35, zx_118_36, zx_118_37, zx_118_38, zx_118_39, zx_118_41, zx_118_42, zx_118_44, zx_118_45, zx_118_46, zgI_119, zsI_119, zgI_120, zsI_120, zgI_121, zsI_121, zgI_122, zsI_122, zgI_123, zsI_123, zgI_124, zsI_124, zgI_125, zsI_125, zgI_126, zsI_126, zgI_127, zsI_127, zgI_128, zsI_128, zgI_129, zsI_129, zgI_130, zsI_130, zgI_131, zsI_131, zgI_132, zsI_132, zgI_133, zsI_133, zgI_134, zsI_134, zgI_135, zsI_135, zgI_136, zsI_136, zgI_137, zsI_137, zgI_139, zsI_139, zgI_140, zsI_140, zgI_141, zsI_141, zgI_142, zsI_142, zgI_143, zsI_143, zgI_144, zsI_144, zgI_145, zsI_145, zgI_146, zsI_146, zgI_147, zsI_147, zb_277_24]
          refine zloop (fun c σ2 => (51, [(0, .ref 118), (1, .int (nI p)), (2, .int (nI n)), (3, .int (nI ((2 * G.2.1) ^ n))), (4, .long (lN (zs (zmid G (ztree G (zrun G ds).1) p n) c))), (6, .int (nI c))], [], zL, σ2, 0, 0)) (fun c σ2 => zKeep zFM σ1 σ2) ((2 * G.2.1) ^ n) (fun c σ2 hc hK2 ih => ?_) (fun σ2 hK2 => ?_) 0 σ1 (by omega) (zKeep.rf _ _)
          · obtain ⟨w0, hK0⟩ := zMW_clear σ2
            have f1 : (nI ((2 * G.2.1) ^ n) ≤ nI c) = False := zd_leF hc (by omega)
            refine zW_of zg_277_51 ?_
            simp only [zb_277_51, zn0, f1, if_false, zi_118, Option.bind_some, zm_fw, zE_l]
            have hr0 : nI c = nI (c / (2 * G.2.1) ^ 0) := by rw [Nat.pow_zero, Nat.div_one]
            have h72 : zW 277 (72, [(0, .ref 118), (1, .int (nI p)), (2, .int (nI n)), (3, .int (nI ((2 * G.2.1) ^ n))), (4, .long (lN (zs (zmid G (ztree G (zrun G ds).1) p n) c))), (6, .int (nI c)), (7, .int (nI (c / (2 * G.2.1) ^ 0))), (8, .int (nI (zwt G (ztree G (zrun G ds).1) p ((zdw G n c).take 0)).1)), (9, .int (nI 0))], [], zL, zm_wI σ2 118 40 (nI 0), 0, 0) _ := by
              refine zloop (fun i σ3 => (72, [(0, .ref 118), (1, .int (nI p)), (2, .int (nI n)), (3, .int (nI ((2 * G.2.1) ^ n))), (4, .long (lN (zs (zmid G (ztree G (zrun G ds).1) p n) c))), (6, .int (nI c)), (7, .int (nI (c / (2 * G.2.1) ^ i))), (8, .int (nI (zwt G (ztree G (zrun G ds).1) p ((zdw G n c).take i)).1)), (9, .int (nI i))], [], zL, σ3, 0, 0)) (fun i σ3 => zMW σ3 (zwt G (ztree G (zrun G ds).1) p ((zdw G n c).take i)).2 ∧ zKeep zFM σ1 σ3) n (fun i σ3 hi hI ih3 => ?_) (fun σ3 hI => ?_) 0 _ (by omega) ⟨w0, hK2.tr hK0⟩
              · obtain ⟨w3, hK3⟩ := hI
                have hM3 := hM1.scr hV (zFM_msc hK3)
                obtain ⟨hF3, -, -, -, gG3, gN3, -⟩ := id hM3
                have g23 := gG3.2.1
                have hdl : c / (2 * G.2.1) ^ i ≤ c := Nat.div_le_self _ _
                have hml := Nat.mod_lt (c / (2 * G.2.1) ^ i) (show 0 < 2 * G.2.1 by omega)
                have e2 : nI (c / (2 * G.2.1) ^ i) - nI (c / (2 * G.2.1) ^ i) / nI (2 * G.2.1) * nI (2 * G.2.1) = nI (c / (2 * G.2.1) ^ i % (2 * G.2.1)) := pk_rem (by omega) (by omega) (by omega)
                have e3 : nI (c / (2 * G.2.1) ^ i) / nI (2 * G.2.1) = nI (c / (2 * G.2.1) ^ (i + 1)) := by
                  rw [pk_div (by omega) (by omega) (by omega), zdv]
                rw [e3] at e2
                have hn0 : (nI (2 * G.2.1) = nI 0) = False := zd_eqF (by omega) (by omega) (by omega)
                have f3 : (nI n ≤ nI i) = False := zd_leF hi (by omega)
                have e4 := m_tried hF3 gG3 hv hml
                have hlt := zlt_ok hml
                have hwk := zwt_ok (t := ztree G (zrun G ds).1) hv hp ((zdw G n c).take i) fun v hv' => zdw_lt hg0 v (List.mem_of_mem_take hv')
                have hlk := hwk.2.1
                rw [List.length_take, zdw_len] at hlk
                obtain ⟨σ4, e5, w4, hK4⟩ := m_writes hF3 gG3 hv gN3 w3 (by omega) hwk.1 hlt
                have hM4 := hM3.scr hV (zFM_msc hK4)
                have e6 := m_goesBy hM4.1 hM4.2.2.2.2.1 hv hwk.1 hlt
                have hmul2 : nI 2 * nI G.2.1 = nI (2 * G.2.1) := pk_mul _ _
                refine zW_of zg_277_72 ?_
                simp only [zb_277_72, zn0, zn1, f3, if_false, zi_118, Option.bind_some, g23, hmul2, hn0, e3, e2, e4, zm_ai, e5, zm_av, e6, nI_add, zE_l]
                have ih3 := ih3 σ4
                rw [zwt_take (by rw [zdw_len]; exact hi), zdw_at hi] at ih3
                exact ih3 ⟨w4, hK3.tr hK4⟩
              · obtain ⟨w3, hK3⟩ := hI
                have hF3 := hK3.fix hF1 rfl
                rw [← zdw_len G n c, List.take_length, zdw_len] at w3
                have s3 := w3.1
                have hml := zmid_le (t := ztree G (zrun G ds).1) hv hg0 (n := n) (c := c) hp
                have hadd : lN (zs (zmid G (ztree G (zrun G ds).1) p n) c) + (nI (zwt G (ztree G (zrun G ds).1) p (zdw G n c)).2.length).toInt64 = lN (zs (zmid G (ztree G (zrun G ds).1) p n) (c + 1)) := by
                  rw [nI_l (by unfold zmid at hml; omega), lN_add]
                  rfl
                have f3 : (nI n ≤ nI n) = True := zd_leT (Nat.le_refl _) (by omega)
                refine zW_of zg_277_72 ?_
                simp only [zb_277_72, zn1, f3, if_true, zi_118, Option.bind_some, s3, hadd, nI_add, zE_l]
                exact ih σ3 hK3
            rw [← hr0] at h72
            exact h72
          · have hM2 := hM1.scr hV (zFM_msc hK2)
            have hcl : (nI ((2 * G.2.1) ^ n)).toInt64 = lN ((2 * G.2.1) ^ n) := nI_l (by omega)
            have e5 := m_tellsPart (σ := σ2) (A := zs (zmid G (ztree G (zrun G ds).1) p n) ((2 * G.2.1) ^ n)) (D := (2 * G.2.1) ^ n) (by omega) (by omega) hpp
            refine zW_of zg_277_51 ?_
            simp (disch := first | assumption | omega) only [zn0, zn1, Option.bind_some, zm_ai, zm_al, zm_av, zm_opt, zm_fw, zE_l, zE_r, nI_add, pk_mul, pk_sub, pk_div, pk_rem, zrem, zpm1, zB_i0, zB_i1, zB_ok, zB_T, zB_F, nI_toInt, zT_sub, zT_neg, zT_le, zT_lt, nI_eq, zne1, zne2, zne9, ite_not, or_true, true_or, if_true, if_false, if_pos, if_neg, zw_R, zw_RL, zw_I, zF_R, zw_same, zw_cell, zw_ne, zF_at, zF_ne, zi_118, zx_118_0, zx_118_1, zx_118_2, zx_118_3, zx_118_7, zx_118_8, zx_118_9, zx_118_10, zx_118_11, zx_118_12, zx_118_13, zx_118_14, zx_118_15, zx_118_17, zx_118_18, zx_118_19, zx_118_21, zx_118_22, zx_118_24, zx_118_25, zx_118_30, zx_118_35, zx_118_36, zx_118_37, zx_118_38, zx_118_39, zx_118_41, zx_118_42, zx_118_44, zx_118_45, zx_118_46, zgI_119, zsI_119, zgI_120, zsI_120, zgI_121, zsI_121, zgI_122, zsI_122, zgI_123, zsI_123, zgI_124, zsI_124, zgI_125, zsI_125, zgI_126, zsI_126, zgI_127, zsI_127, zgI_128, zsI_128, zgI_129, zsI_129, zgI_130, zsI_130, zgI_131, zsI_131, zgI_132, zsI_132, zgI_133, zsI_133, zgI_134, zsI_134, zgI_135, zsI_135, zgI_136, zsI_136, zgI_137, zsI_137, zgI_139, zsI_139, zgI_140, zsI_140, zgI_141, zsI_141, zgI_142, zsI_142, zgI_143, zsI_143, zgI_144, zsI_144, zgI_145, zsI_145, zgI_146, zsI_146, zgI_147, zsI_147, zb_277_51, hcl, e5]
            exact ⟨_, rfl, hM2.share hV _ _, (zMsc_rfs (zFM_msc hK2)).tr (zSh2_m _ _ _)⟩
end ZOD
