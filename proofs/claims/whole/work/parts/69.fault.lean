/-! the reference reads a group, from the start; the call fault -/
section ZRX
variable {σ σ' : zm_Sig} {l : List Int32} {r : Nat}
def zGQ (σ : zm_Sig) (l : List Int32) (n x : Nat) (P : Nat → Nat) : Prop := σ.1 118 32 = nI n ∧ σ.1 118 33 = nI x ∧ ∀ y, y < x → (∀ i, i < n → σ.1 140 (5 * y + i) = nI (zych l (P y + i) - 48)) ∧ ∀ i, i < n → σ.1 141 (5 * y + (zych l (P y + i) - 48)) = nI i
theorem zGQ.mq {n g : Nat} {P : Nat → Nat} (h : zGQ σ l n g P) (hn : n ≤ 5) (hg : g ≤ 3) (hf : ∀ y, y < g → zfg l n (P y) = n) : zMQ σ (zgr l n g P []) ∧ zGv (zgr l n g P []) := by
  have hv : zGv (zgr l n g P []) := zgr_ok hn hg hf (Nat.zero_le _) (fun r q => by cases q)
  refine ⟨⟨h.1, h.2.1, fun x p hx hp => ⟨(h.2.2 x hx).1 p hp, ?_⟩⟩, hv⟩
  have q := hv.2.2.2.1 x p hx hp
  have t : σ.1 141 (5 * x + (zych l (P x + (zgr l n g P []).2.2.2.1 x p) - 48)) = nI ((zgr l n g P []).2.2.2.1 x p) := (h.2.2 x hx).2 _ q.2.1
  have e : zych l (P x + (zgr l n g P []).2.2.2.1 x p) - 48 = p := q.2.2.2
  rw [e] at t
  exact t
theorem zGQ.k31 {n x : Nat} {P : Nat → Nat} (h : zGQ σ l n x P) (hK : zKeep zM31 σ σ') : zGQ σ' l n x P := ⟨(hK.i rfl).trans h.1, (hK.i rfl).trans h.2.1, fun y hy => ⟨fun i hi => (hK.i rfl).trans ((h.2.2 y hy).1 i hi), fun i hi => (hK.i rfl).trans ((h.2.2 y hy).2 i hi)⟩⟩
/-- one more -/
theorem zGQ.more {n x q : Nat} {P : Nat → Nat} (h : ∀ y, y < x → (∀ i, i < n → σ.1 140 (5 * y + i) = nI (zych l (P y + i) - 48)) ∧ ∀ i, i < n → σ.1 141 (5 * y + (zych l (P y + i) - 48)) = nI i) (hn : n ≤ 5) (hf : ∀ y, y < x → zfg l n (P y) = n) (hK : zKeep (zF93 x) σ σ') (g1 : σ'.1 118 32 = nI n) (g2 : σ'.1 118 33 = nI (x + 1)) (h1 : ∀ i, i < n → σ'.1 140 (5 * x + i) = nI (zych l (q + i) - 48)) (h2 : ∀ i, i < n → σ'.1 141 (5 * x + (zych l (q + i) - 48)) = nI i) : zGQ σ' l n (x + 1) (fun i => if i = x then q else P i) := by
  refine ⟨g1, g2, fun y hy => ⟨fun i hi => ?_, fun i hi => ?_⟩⟩
  · show _ = nI (zych l ((if y = x then q else P y) + i) - 48)
    by_cases e : y = x
    · rw [if_pos e, e]; exact h1 i hi
    · rw [if_neg e, hK.i (zF93_f (by omega))]; exact (h y (by omega)).1 i hi
  · show σ'.1 141 (5 * y + (zych l ((if y = x then q else P y) + i) - 48)) = nI i
    by_cases e : y = x
    · rw [if_pos e, e]; exact h2 i hi
    · have gd := zfg_all (hf y (by omega)) hi
      unfold zygd at gd
      rw [if_neg e, hK.i (zF93_f (by omega))]; exact (h y (by omega)).2 i hi
theorem re_gen0 (hl : l.length ≤ 60) (hr : r < 4) {x p q : Nat} {σ2 : zm_Sig} (hx : x < 3) (hF : zFix σ) (h : zMp σ r l p) (c : p < l.length) (g33 : σ.1 118 33 = nI x) (g34 : σ.1 118 34 = nI 0) (b : zych l p = 97 + x) (e2 : zM 193 [.ref 118, .int (nI r)] zL (zm_wI σ 118 31 (nI (p + 1))) = some (some (.int (nI 0)), zL, σ2)) (q3 : σ2.1 118 31 = nI q) (Q : zm_Out → Prop) (fin : Q (some (.int (nI q)), zL, σ2)) : zW 190 (25, [(0, .ref 118), (1, .int (nI r))], [], zL, σ, 0, 0) Q := by
  obtain ⟨d1, d2, d3⟩ := id h
  have e1 := m_hereR hF hl hr h (by omega)
  rw [zhm_eq b (by omega) (by omega)] at e1
  have b1 := fun f => zbai (β := zm_St ⊕ zm_Out) e1 f
  refine zW_of zg_190_25 ?_
  simp (maxSteps := 500000) (disch := first | assumption | omega) only [zn0, zn1, Option.bind_some, zm_ai, zm_al, zm_av, zm_opt, zm_fw, zE_l, zE_r, nI_add, pk_mul, pk_sub, pk_div, pk_rem, zrem, zpm1, zB_i0, zB_i1, zB_ok, zB_T, zB_F, nI_toInt, zT_sub, zT_neg, if_true, if_false, zw_R, zw_RL, zw_I, zF_R, zw_same, zw_cell, zw_ne, zF_at, zF_ne, ↓reduceIte, zd_leT, zd_leF, zd_ltT, zd_ltF, zd_eqF, zd_n1, zd_n2, eq_self, not_true_eq_false, not_false_eq_true, ↓zib_118, ↓zxb_118_0, ↓zxb_118_1, ↓zxb_118_2, ↓zxb_118_3, ↓zxb_118_7, ↓zxb_118_8, ↓zxb_118_9, ↓zxb_118_10, ↓zxb_118_11, ↓zxb_118_12, ↓zxb_118_13, ↓zxb_118_14, ↓zxb_118_15, ↓zxb_118_17, ↓zxb_118_18, ↓zxb_118_19, ↓zxb_118_21, ↓zxb_118_22, ↓zxb_118_24, ↓zxb_118_25, ↓zxb_118_30, ↓zxb_118_35, ↓zxb_118_36, ↓zxb_118_37, ↓zxb_118_38, ↓zxb_118_39, ↓zxb_118_41, ↓zxb_118_42, ↓zxb_118_44, ↓zxb_118_45, ↓zxb_118_46, ↓zgb_119, ↓zsb_119, ↓zgb_120, ↓zsb_120, ↓zgb_121, ↓zsb_121, ↓zgb_122, ↓zsb_122, ↓zgb_123, ↓zsb_123, ↓zgb_124, ↓zsb_124, ↓zgb_125, ↓zsb_125, ↓zgb_126, ↓zsb_126, ↓zgb_127, ↓zsb_127, ↓zgb_128, ↓zsb_128, ↓zgb_129, ↓zsb_129, ↓zgb_130, ↓zsb_130, ↓zgb_131, ↓zsb_131, ↓zgb_132, ↓zsb_132, ↓zgb_133, ↓zsb_133, ↓zgb_134, ↓zsb_134, ↓zgb_135, ↓zsb_135, ↓zgb_136, ↓zsb_136, ↓zgb_137, ↓zsb_137, ↓zgb_139, ↓zsb_139, ↓zgb_140, ↓zsb_140, ↓zgb_141, ↓zsb_141, ↓zgb_142, ↓zsb_142, ↓zgb_143, ↓zsb_143, ↓zgb_144, ↓zsb_144, ↓zgb_145, ↓zsb_145, ↓zgb_146, ↓zsb_146, ↓zgb_147, ↓zsb_147, zi_118, zx_118_0, zx_118_1, zx_118_2, zx_118_3, zx_118_7, zx_118_8, zx_118_9, zx_118_10, zx_118_11, zx_118_12, zx_118_13, zx_118_14, zx_118_15, zx_118_17, zx_118_18, zx_118_19, zx_118_21, zx_118_22, zx_118_24, zx_118_25, zx_118_30, zx_118_35, zx_118_36, zx_118_37, zx_118_38, zx_118_39, zx_118_41, zx_118_42, zx_118_44, zx_118_45, zx_118_46, zgI_119, zsI_119, zgI_120, zsI_120, zgI_121, zsI_121, zgI_122, zsI_122, zgI_123, zsI_123, zgI_124, zsI_124, zgI_125, zsI_125, zgI_126, zsI_126, zgI_127, zsI_127, zgI_128, zsI_128, zgI_129, zsI_129, zgI_130, zsI_130, zgI_131, zsI_131, zgI_132, zsI_132, zgI_133, zsI_133, zgI_134, zsI_134, zgI_135, zsI_135, zgI_136, zsI_136, zgI_137, zsI_137, zgI_139, zsI_139, zgI_140, zsI_140, zgI_141, zsI_141, zgI_142, zsI_142, zgI_143, zsI_143, zgI_144, zsI_144, zgI_145, zsI_145, zgI_146, zsI_146, zgI_147, zsI_147, zq_190_25_1, zq_190_25_2, zq_190_25_3, zq_190_25_4, zq_190_25_5, zq_190_25_6, zq_190_25_7, zq_190_25_8, zq_190_25_9, zq_190_25_10, zq_190_25_11, zq_190_25_12, zq_190_25_13, zq_190_25_14, zq_190_25_15, zq_190_25_16, zh_190_25, d1, d3, ↓b1, g33, g34, e2, q3]
  exact fin
theorem re_gen1 (hl : l.length ≤ 60) (hr : r < 4) {x p : Nat} {σ2 σ3 : zm_Sig} (hx : x < 3) (hF : zFix σ) (h : zMp σ r l p) (c : p < l.length) (g33 : σ.1 118 33 = nI x) (g34 : σ.1 118 34 = nI 0) (b : zych l p = 97 + x) (e2 : zM 193 [.ref 118, .int (nI r)] zL (zm_wI σ 118 31 (nI (p + 1))) = some (some (.int (nI 1)), zL, σ2)) (e3 : zM 191 [.ref 118, .int (nI r)] zL σ2 = some (none, zL, σ3)) (Q : zm_Out → Prop) (go : zW 190 (25, [(0, .ref 118), (1, .int (nI r))], [], zL, σ3, 0, 0) Q) : zW 190 (25, [(0, .ref 118), (1, .int (nI r))], [], zL, σ, 0, 0) Q := by
  obtain ⟨d1, d2, d3⟩ := id h
  have e1 := m_hereR hF hl hr h (by omega)
  rw [zhm_eq b (by omega) (by omega)] at e1
  have b1 := fun f => zbai (β := zm_St ⊕ zm_Out) e1 f
  refine zW_of zg_190_25 ?_
  simp (maxSteps := 500000) (disch := first | assumption | omega) only [zn0, zn1, Option.bind_some, zm_ai, zm_al, zm_av, zm_opt, zm_fw, zE_l, zE_r, nI_add, pk_mul, pk_sub, pk_div, pk_rem, zrem, zpm1, zB_i0, zB_i1, zB_ok, zB_T, zB_F, nI_toInt, zT_sub, zT_neg, if_true, if_false, zw_R, zw_RL, zw_I, zF_R, zw_same, zw_cell, zw_ne, zF_at, zF_ne, ↓reduceIte, zd_leT, zd_leF, zd_ltT, zd_ltF, zd_eqF, zd_n1, zd_n2, eq_self, not_true_eq_false, not_false_eq_true, ↓zib_118, ↓zxb_118_0, ↓zxb_118_1, ↓zxb_118_2, ↓zxb_118_3, ↓zxb_118_7, ↓zxb_118_8, ↓zxb_118_9, ↓zxb_118_10, ↓zxb_118_11, ↓zxb_118_12, ↓zxb_118_13, ↓zxb_118_14, ↓zxb_118_15, ↓zxb_118_17, ↓zxb_118_18, ↓zxb_118_19, ↓zxb_118_21, ↓zxb_118_22, ↓zxb_118_24, ↓zxb_118_25, ↓zxb_118_30, ↓zxb_118_35, ↓zxb_118_36, ↓zxb_118_37, ↓zxb_118_38, ↓zxb_118_39, ↓zxb_118_41, ↓zxb_118_42, ↓zxb_118_44, ↓zxb_118_45, ↓zxb_118_46, ↓zgb_119, ↓zsb_119, ↓zgb_120, ↓zsb_120, ↓zgb_121, ↓zsb_121, ↓zgb_122, ↓zsb_122, ↓zgb_123, ↓zsb_123, ↓zgb_124, ↓zsb_124, ↓zgb_125, ↓zsb_125, ↓zgb_126, ↓zsb_126, ↓zgb_127, ↓zsb_127, ↓zgb_128, ↓zsb_128, ↓zgb_129, ↓zsb_129, ↓zgb_130, ↓zsb_130, ↓zgb_131, ↓zsb_131, ↓zgb_132, ↓zsb_132, ↓zgb_133, ↓zsb_133, ↓zgb_134, ↓zsb_134, ↓zgb_135, ↓zsb_135, ↓zgb_136, ↓zsb_136, ↓zgb_137, ↓zsb_137, ↓zgb_139, ↓zsb_139, ↓zgb_140, ↓zsb_140, ↓zgb_141, ↓zsb_141, ↓zgb_142, ↓zsb_142, ↓zgb_143, ↓zsb_143, ↓zgb_144, ↓zsb_144, ↓zgb_145, ↓zsb_145, ↓zgb_146, ↓zsb_146, ↓zgb_147, ↓zsb_147, zi_118, zx_118_0, zx_118_1, zx_118_2, zx_118_3, zx_118_7, zx_118_8, zx_118_9, zx_118_10, zx_118_11, zx_118_12, zx_118_13, zx_118_14, zx_118_15, zx_118_17, zx_118_18, zx_118_19, zx_118_21, zx_118_22, zx_118_24, zx_118_25, zx_118_30, zx_118_35, zx_118_36, zx_118_37, zx_118_38, zx_118_39, zx_118_41, zx_118_42, zx_118_44, zx_118_45, zx_118_46, zgI_119, zsI_119, zgI_120, zsI_120, zgI_121, zsI_121, zgI_122, zsI_122, zgI_123, zsI_123, zgI_124, zsI_124, zgI_125, zsI_125, zgI_126, zsI_126, zgI_127, zsI_127, zgI_128, zsI_128, zgI_129, zsI_129, zgI_130, zsI_130, zgI_131, zsI_131, zgI_132, zsI_132, zgI_133, zsI_133, zgI_134, zsI_134, zgI_135, zsI_135, zgI_136, zsI_136, zgI_137, zsI_137, zgI_139, zsI_139, zgI_140, zsI_140, zgI_141, zsI_141, zgI_142, zsI_142, zgI_143, zsI_143, zgI_144, zsI_144, zgI_145, zsI_145, zgI_146, zsI_146, zgI_147, zsI_147, zq_190_25_1, zq_190_25_2, zq_190_25_3, zq_190_25_4, zq_190_25_5, zq_190_25_6, zq_190_25_7, zq_190_25_8, zq_190_25_9, zq_190_25_10, zq_190_25_11, zq_190_25_12, zq_190_25_13, zq_190_25_14, zq_190_25_15, zq_190_25_16, zh_190_25, d1, d3, ↓b1, g33, g34, e2, e3]
  exact go
theorem re_none (hl : l.length ≤ 60) (hr : r < 4) {p : Nat} (hF : zFix σ) (h : zMp σ r l p) (hp : p ≤ l.length) (f33 : σ.1 118 33 = nI 0) (c : ¬ zych l p = 97) (Q : zm_Out → Prop) (fin : Q (some (.int (nI p)), zL, σ)) : zW 190 (25, [(0, .ref 118), (1, .int (nI r))], [], zL, σ, 0, 0) Q := by
  obtain ⟨d1, d2, d3⟩ := id h
  have e97 : nI 97 + nI 0 = nI 97 := by rw [nI_add]
  by_cases b : p < l.length
  · have e1 := m_hereR hF hl hr h (by omega)
    have fa := zhm_ne c (by omega) (by omega)
    by_cases b2 : zych l p = 61
    · have fb : (zhm l p = nI 61) = True := eq_true (zhm_eq b2 (by omega) (by omega))
      have b1 := fun f => zbai (β := zm_St ⊕ zm_Out) e1 f
      refine zW_of zg_190_25 ?_
      simp (maxSteps := 500000) (disch := first | assumption | omega) only [zn0, zn1, Option.bind_some, zm_ai, zm_al, zm_av, zm_opt, zm_fw, zE_l, zE_r, nI_add, pk_mul, pk_sub, pk_div, pk_rem, zrem, zpm1, zB_i0, zB_i1, zB_ok, zB_T, zB_F, nI_toInt, zT_sub, zT_neg, if_true, if_false, zw_R, zw_RL, zw_I, zF_R, zw_same, zw_cell, zw_ne, zF_at, zF_ne, ↓reduceIte, zd_leT, zd_leF, zd_ltT, zd_ltF, zd_eqF, zd_n1, zd_n2, eq_self, not_true_eq_false, not_false_eq_true, ↓zib_118, ↓zxb_118_0, ↓zxb_118_1, ↓zxb_118_2, ↓zxb_118_3, ↓zxb_118_7, ↓zxb_118_8, ↓zxb_118_9, ↓zxb_118_10, ↓zxb_118_11, ↓zxb_118_12, ↓zxb_118_13, ↓zxb_118_14, ↓zxb_118_15, ↓zxb_118_17, ↓zxb_118_18, ↓zxb_118_19, ↓zxb_118_21, ↓zxb_118_22, ↓zxb_118_24, ↓zxb_118_25, ↓zxb_118_30, ↓zxb_118_35, ↓zxb_118_36, ↓zxb_118_37, ↓zxb_118_38, ↓zxb_118_39, ↓zxb_118_41, ↓zxb_118_42, ↓zxb_118_44, ↓zxb_118_45, ↓zxb_118_46, ↓zgb_119, ↓zsb_119, ↓zgb_120, ↓zsb_120, ↓zgb_121, ↓zsb_121, ↓zgb_122, ↓zsb_122, ↓zgb_123, ↓zsb_123, ↓zgb_124, ↓zsb_124, ↓zgb_125, ↓zsb_125, ↓zgb_126, ↓zsb_126, ↓zgb_127, ↓zsb_127, ↓zgb_128, ↓zsb_128, ↓zgb_129, ↓zsb_129, ↓zgb_130, ↓zsb_130, ↓zgb_131, ↓zsb_131, ↓zgb_132, ↓zsb_132, ↓zgb_133, ↓zsb_133, ↓zgb_134, ↓zsb_134, ↓zgb_135, ↓zsb_135, ↓zgb_136, ↓zsb_136, ↓zgb_137, ↓zsb_137, ↓zgb_139, ↓zsb_139, ↓zgb_140, ↓zsb_140, ↓zgb_141, ↓zsb_141, ↓zgb_142, ↓zsb_142, ↓zgb_143, ↓zsb_143, ↓zgb_144, ↓zsb_144, ↓zgb_145, ↓zsb_145, ↓zgb_146, ↓zsb_146, ↓zgb_147, ↓zsb_147, zi_118, zx_118_0, zx_118_1, zx_118_2, zx_118_3, zx_118_7, zx_118_8, zx_118_9, zx_118_10, zx_118_11, zx_118_12, zx_118_13, zx_118_14, zx_118_15, zx_118_17, zx_118_18, zx_118_19, zx_118_21, zx_118_22, zx_118_24, zx_118_25, zx_118_30, zx_118_35, zx_118_36, zx_118_37, zx_118_38, zx_118_39, zx_118_41, zx_118_42, zx_118_44, zx_118_45, zx_118_46, zgI_119, zsI_119, zgI_120, zsI_120, zgI_121, zsI_121, zgI_122, zsI_122, zgI_123, zsI_123, zgI_124, zsI_124, zgI_125, zsI_125, zgI_126, zsI_126, zgI_127, zsI_127, zgI_128, zsI_128, zgI_129, zsI_129, zgI_130, zsI_130, zgI_131, zsI_131, zgI_132, zsI_132, zgI_133, zsI_133, zgI_134, zsI_134, zgI_135, zsI_135, zgI_136, zsI_136, zgI_137, zsI_137, zgI_139, zsI_139, zgI_140, zsI_140, zgI_141, zsI_141, zgI_142, zsI_142, zgI_143, zsI_143, zgI_144, zsI_144, zgI_145, zsI_145, zgI_146, zsI_146, zgI_147, zsI_147, zq_190_25_1, zq_190_25_2, zq_190_25_3, zq_190_25_4, zq_190_25_5, zq_190_25_6, zq_190_25_7, zq_190_25_8, zq_190_25_9, zq_190_25_10, zq_190_25_11, zq_190_25_12, zq_190_25_13, zq_190_25_14, zq_190_25_15, zq_190_25_16, zh_190_25, d1, d3, ↓b1, f33, fa, fb, e97]
      exact fin
    · have fb := zhm_ne b2 (by omega) (by omega)
      have b1 := fun f => zbai (β := zm_St ⊕ zm_Out) e1 f
      refine zW_of zg_190_25 ?_
      simp (maxSteps := 500000) (disch := first | assumption | omega) only [zn0, zn1, Option.bind_some, zm_ai, zm_al, zm_av, zm_opt, zm_fw, zE_l, zE_r, nI_add, pk_mul, pk_sub, pk_div, pk_rem, zrem, zpm1, zB_i0, zB_i1, zB_ok, zB_T, zB_F, nI_toInt, zT_sub, zT_neg, if_true, if_false, zw_R, zw_RL, zw_I, zF_R, zw_same, zw_cell, zw_ne, zF_at, zF_ne, ↓reduceIte, zd_leT, zd_leF, zd_ltT, zd_ltF, zd_eqF, zd_n1, zd_n2, eq_self, not_true_eq_false, not_false_eq_true, ↓zib_118, ↓zxb_118_0, ↓zxb_118_1, ↓zxb_118_2, ↓zxb_118_3, ↓zxb_118_7, ↓zxb_118_8, ↓zxb_118_9, ↓zxb_118_10, ↓zxb_118_11, ↓zxb_118_12, ↓zxb_118_13, ↓zxb_118_14, ↓zxb_118_15, ↓zxb_118_17, ↓zxb_118_18, ↓zxb_118_19, ↓zxb_118_21, ↓zxb_118_22, ↓zxb_118_24, ↓zxb_118_25, ↓zxb_118_30, ↓zxb_118_35, ↓zxb_118_36, ↓zxb_118_37, ↓zxb_118_38, ↓zxb_118_39, ↓zxb_118_41, ↓zxb_118_42, ↓zxb_118_44, ↓zxb_118_45, ↓zxb_118_46, ↓zgb_119, ↓zsb_119, ↓zgb_120, ↓zsb_120, ↓zgb_121, ↓zsb_121, ↓zgb_122, ↓zsb_122, ↓zgb_123, ↓zsb_123, ↓zgb_124, ↓zsb_124, ↓zgb_125, ↓zsb_125, ↓zgb_126, ↓zsb_126, ↓zgb_127, ↓zsb_127, ↓zgb_128, ↓zsb_128, ↓zgb_129, ↓zsb_129, ↓zgb_130, ↓zsb_130, ↓zgb_131, ↓zsb_131, ↓zgb_132, ↓zsb_132, ↓zgb_133, ↓zsb_133, ↓zgb_134, ↓zsb_134, ↓zgb_135, ↓zsb_135, ↓zgb_136, ↓zsb_136, ↓zgb_137, ↓zsb_137, ↓zgb_139, ↓zsb_139, ↓zgb_140, ↓zsb_140, ↓zgb_141, ↓zsb_141, ↓zgb_142, ↓zsb_142, ↓zgb_143, ↓zsb_143, ↓zgb_144, ↓zsb_144, ↓zgb_145, ↓zsb_145, ↓zgb_146, ↓zsb_146, ↓zgb_147, ↓zsb_147, zi_118, zx_118_0, zx_118_1, zx_118_2, zx_118_3, zx_118_7, zx_118_8, zx_118_9, zx_118_10, zx_118_11, zx_118_12, zx_118_13, zx_118_14, zx_118_15, zx_118_17, zx_118_18, zx_118_19, zx_118_21, zx_118_22, zx_118_24, zx_118_25, zx_118_30, zx_118_35, zx_118_36, zx_118_37, zx_118_38, zx_118_39, zx_118_41, zx_118_42, zx_118_44, zx_118_45, zx_118_46, zgI_119, zsI_119, zgI_120, zsI_120, zgI_121, zsI_121, zgI_122, zsI_122, zgI_123, zsI_123, zgI_124, zsI_124, zgI_125, zsI_125, zgI_126, zsI_126, zgI_127, zsI_127, zgI_128, zsI_128, zgI_129, zsI_129, zgI_130, zsI_130, zgI_131, zsI_131, zgI_132, zsI_132, zgI_133, zsI_133, zgI_134, zsI_134, zgI_135, zsI_135, zgI_136, zsI_136, zgI_137, zsI_137, zgI_139, zsI_139, zgI_140, zsI_140, zgI_141, zsI_141, zgI_142, zsI_142, zgI_143, zsI_143, zgI_144, zsI_144, zgI_145, zsI_145, zgI_146, zsI_146, zgI_147, zsI_147, zq_190_25_1, zq_190_25_2, zq_190_25_3, zq_190_25_4, zq_190_25_5, zq_190_25_6, zq_190_25_7, zq_190_25_8, zq_190_25_9, zq_190_25_10, zq_190_25_11, zq_190_25_12, zq_190_25_13, zq_190_25_14, zq_190_25_15, zq_190_25_16, zh_190_25, d1, d3, ↓b1, f33, fa, fb, e97]
      exact fin
  · have ep : p = l.length := by omega
    refine zW_of zg_190_25 ?_
    simp (maxSteps := 500000) (disch := first | assumption | omega) only [zn0, zn1, Option.bind_some, zm_ai, zm_al, zm_av, zm_opt, zm_fw, zE_l, zE_r, nI_add, pk_mul, pk_sub, pk_div, pk_rem, zrem, zpm1, zB_i0, zB_i1, zB_ok, zB_T, zB_F, nI_toInt, zT_sub, zT_neg, if_true, if_false, zw_R, zw_RL, zw_I, zF_R, zw_same, zw_cell, zw_ne, zF_at, zF_ne, ↓reduceIte, zd_leT, zd_leF, zd_ltT, zd_ltF, zd_eqF, zd_n1, zd_n2, eq_self, not_true_eq_false, not_false_eq_true, ↓zib_118, ↓zxb_118_0, ↓zxb_118_1, ↓zxb_118_2, ↓zxb_118_3, ↓zxb_118_7, ↓zxb_118_8, ↓zxb_118_9, ↓zxb_118_10, ↓zxb_118_11, ↓zxb_118_12, ↓zxb_118_13, ↓zxb_118_14, ↓zxb_118_15, ↓zxb_118_17, ↓zxb_118_18, ↓zxb_118_19, ↓zxb_118_21, ↓zxb_118_22, ↓zxb_118_24, ↓zxb_118_25, ↓zxb_118_30, ↓zxb_118_35, ↓zxb_118_36, ↓zxb_118_37, ↓zxb_118_38, ↓zxb_118_39, ↓zxb_118_41, ↓zxb_118_42, ↓zxb_118_44, ↓zxb_118_45, ↓zxb_118_46, ↓zgb_119, ↓zsb_119, ↓zgb_120, ↓zsb_120, ↓zgb_121, ↓zsb_121, ↓zgb_122, ↓zsb_122, ↓zgb_123, ↓zsb_123, ↓zgb_124, ↓zsb_124, ↓zgb_125, ↓zsb_125, ↓zgb_126, ↓zsb_126, ↓zgb_127, ↓zsb_127, ↓zgb_128, ↓zsb_128, ↓zgb_129, ↓zsb_129, ↓zgb_130, ↓zsb_130, ↓zgb_131, ↓zsb_131, ↓zgb_132, ↓zsb_132, ↓zgb_133, ↓zsb_133, ↓zgb_134, ↓zsb_134, ↓zgb_135, ↓zsb_135, ↓zgb_136, ↓zsb_136, ↓zgb_137, ↓zsb_137, ↓zgb_139, ↓zsb_139, ↓zgb_140, ↓zsb_140, ↓zgb_141, ↓zsb_141, ↓zgb_142, ↓zsb_142, ↓zgb_143, ↓zsb_143, ↓zgb_144, ↓zsb_144, ↓zgb_145, ↓zsb_145, ↓zgb_146, ↓zsb_146, ↓zgb_147, ↓zsb_147, zi_118, zx_118_0, zx_118_1, zx_118_2, zx_118_3, zx_118_7, zx_118_8, zx_118_9, zx_118_10, zx_118_11, zx_118_12, zx_118_13, zx_118_14, zx_118_15, zx_118_17, zx_118_18, zx_118_19, zx_118_21, zx_118_22, zx_118_24, zx_118_25, zx_118_30, zx_118_35, zx_118_36, zx_118_37, zx_118_38, zx_118_39, zx_118_41, zx_118_42, zx_118_44, zx_118_45, zx_118_46, zgI_119, zsI_119, zgI_120, zsI_120, zgI_121, zsI_121, zgI_122, zsI_122, zgI_123, zsI_123, zgI_124, zsI_124, zgI_125, zsI_125, zgI_126, zsI_126, zgI_127, zsI_127, zgI_128, zsI_128, zgI_129, zsI_129, zgI_130, zsI_130, zgI_131, zsI_131, zgI_132, zsI_132, zgI_133, zsI_133, zgI_134, zsI_134, zgI_135, zsI_135, zgI_136, zsI_136, zgI_137, zsI_137, zgI_139, zsI_139, zgI_140, zsI_140, zgI_141, zsI_141, zgI_142, zsI_142, zgI_143, zsI_143, zgI_144, zsI_144, zgI_145, zsI_145, zgI_146, zsI_146, zgI_147, zsI_147, zq_190_25_1, zq_190_25_2, zq_190_25_3, zq_190_25_4, zq_190_25_5, zq_190_25_6, zq_190_25_7, zq_190_25_8, zq_190_25_9, zq_190_25_10, zq_190_25_11, zq_190_25_12, zq_190_25_13, zq_190_25_14, zq_190_25_15, zq_190_25_16, zh_190_25, d1, d3, f33]
    rw [← ep]
    exact fin
theorem m_genE (hl : l.length ≤ 60) (hr : r < 4) {n : Nat} (hn2 : 2 ≤ n) (hn : n ≤ 5) (σ0 : zm_Sig) : ∀ (j x p : Nat) (P : Nat → Nat) (σ : zm_Sig), x + j = 3 → 1 ≤ x → p ≤ l.length → ¬ zych l p = 32 → zFix σ → zMp σ r l p → zGQ σ l n x P → σ.1 118 34 = nI 0 → (∀ y, y < x → zfg l n (P y) = n) → zKeep zF90 σ0 σ → zW 190 (25, [(0, .ref 118), (1, .int (nI r))], [], zL, σ, 0, 0) (zRQ σ0 l r (zyps l n (zpg l n j x p P))) := by
  intro j
  induction j with
  | zero =>
    intro x p P σ hj hx hp h32 hF h hQ h34 hf hK
    obtain ⟨Q1, V1⟩ := hQ.mq hn (by omega) hf
    rw [zpg]
    exact m_relE hl hr hn2 (by omega) (by omega) σ0 3 p [] σ rfl hp h32 (fun _ q => by omega) hF h Q1 ⟨h34, fun q hq => absurd hq (Nat.not_lt_zero _)⟩ V1 hK
  | succ j ih =>
    intro x p P σ hj hx hp h32 hF h hQ h34 hf hK
    by_cases c : zych l p = 97 + x
    · obtain ⟨d1, d2, d3⟩ := id h
      have g33 := hQ.2.1
      have hlt : p < l.length := zych_lt (by omega)
      have k1 : zKeep zM31 σ (zm_wI σ 118 31 (nI (p + 1))) := (zKeep.rf _ _).wI rfl
      have hF1 := k1.fix hF rfl
      have Q1 := hQ.k31 k1
      obtain ⟨v, σ2, e2, q, r2, k2, ho⟩ := m_rgen (p := p + 1) hF1 hl hr hx (by omega) hn2 hn (by omega) (h.to _) Q1.1 Q1.2.1
      have hF2 := zF93_fix (by omega) hF1 k2
      have kk := (hK.tr (zF90_31 k1)).tr (zF90_93 k2)
      obtain ⟨q1, q2, q3⟩ := id r2
      rcases ho with ⟨rfl, o2, o3⟩ | ⟨rfl, o2, o3, o4, o5, o6, o7, o8⟩
      · refine re_gen0 hl hr (by omega) hF h hlt g33 h34 c e2 q3 _ ?_
        have ans : zyps l n (zpg l n (j + 1) x p P) = .inl q := by
          rw [zpg, zsk_f h32, zif_t c]
          by_cases f : zfg l n (p + 1) = n
          · rw [zif_t f, o2, f]
            exact zpg_no (o3 f) (by omega)
          · rw [zif_f f, o2]
            rfl
        rw [ans]
        exact ⟨σ2, rfl, fun G q => (by cases q), kk⟩
      · have hend := zfg_end o3 (by omega)
        subst o2
        obtain ⟨σ3, e3, r3, k3⟩ := m_skipR hF2 hl hr r2 hend
        have hF3 := k3.fix hF2 rfl
        refine re_gen1 hl hr (by omega) hF h hlt g33 h34 c e2 e3 _ ?_
        have ans : zyps l n (zpg l n (j + 1) x p P) = zyps l n (zpg l n j (x + 1) (zsk l (p + 1 + n)) (fun i => if i = x then p + 1 else P i)) := by
          rw [zpg, zsk_f h32, zif_t c, zif_t o3, zpg_sk]
        rw [ans]
        have G2 : zGQ σ2 l n (x + 1) (fun i => if i = x then p + 1 else P i) := zGQ.more Q1.2.2 hn hf k2 o5 o6 o7 o8
        have z34 : σ3.1 118 34 = nI 0 := by
          rw [k3.i rfl, k2.i (zF93_f (by omega)), k1.i rfl]
          exact h34
        exact ih (x + 1) _ _ σ3 (by omega) (by omega) (zsk_le hend).2 (zsk_ne l _) hF3 r3 (G2.k31 k3) z34 (fun y hy => by
          show zfg l n (if y = x then p + 1 else P y) = n
          by_cases e : y = x
          · rw [if_pos e]; exact o3
          · rw [if_neg e]; exact hf y (by omega)) (kk.tr (zF90_31 k3))
    · obtain ⟨Q1, V1⟩ := hQ.mq hn (by omega) hf
      rw [zpg, zsk_f h32, zif_f c]
      exact m_relE hl hr hn2 (by omega) (by omega) σ0 3 p [] σ rfl hp h32 (fun _ _ => c) hF h Q1 ⟨h34, fun q hq => absurd hq (Nat.not_lt_zero _)⟩ V1 hK
theorem m_reading (hF : zFix σ) (hl : l.length ≤ 60) (hr : r < 4) (h1 : σ.1 121 r = nI l.length) (h2 : ∀ j, j < l.length → σ.1 122 (60 * r + j) = zat l j) : ∃ σ', zM 190 [.ref 118, .int (nI r)] zL σ = some (some (.int (zypv (zpa l))), zL, σ') ∧ ((∀ G, zpa l = .inr G → zMQ σ' G ∧ zMr σ' G.2.2.2.2 ∧ zGk G) ∧ zKeep zF90 σ σ') := by
  refine zS_ex (zS_of ze_190 ?_)
  have k1 : zKeep zF90 σ (zm_wI (zm_wI (zm_wI (zm_wI σ 118 31 (nI 0)) 118 32 (nI 0)) 118 33 (nI 0)) 118 34 (nI 0)) := ((((zKeep.rf _ _).wI rfl).wI rfl).wI rfl).wI rfl
  generalize hs : zm_wI (zm_wI (zm_wI (zm_wI σ 118 31 (nI 0)) 118 32 (nI 0)) 118 33 (nI 0)) 118 34 (nI 0) = σ1 at k1
  have hF1 := zF90_fix hF k1
  have r1 : zMp σ1 r l 0 := by
    rw [← hs]
    refine ⟨?_, fun j hj => ?_, ?_⟩
    · rw [zw_cell _ _ (by decide), zw_cell _ _ (by decide), zw_cell _ _ (by decide), zw_cell _ _ (by decide)]; exact h1
    · rw [zw_cell _ _ (by decide), zw_cell _ _ (by decide), zw_cell _ _ (by decide), zw_cell _ _ (by decide)]; exact h2 j hj
    · rw [zw_ne _ _ (Or.inr (by decide)), zw_ne _ _ (Or.inr (by decide)), zw_ne _ _ (Or.inr (by decide)), zw_same]
  have g33 : σ1.1 118 33 = nI 0 := by rw [← hs, zw_ne _ _ (Or.inr (by decide)), zw_same]
  have g34 : σ1.1 118 34 = nI 0 := by rw [← hs, zw_same]
  obtain ⟨σ2, e2, r2, k2⟩ := m_skipR hF1 hl hr r1 (Nat.zero_le _)
  have hF2 := k2.fix hF1 rfl
  have hsk := zsk_le (l := l) (p := 0) (Nat.zero_le _)
  have h32 := zsk_ne l 0
  simp (maxSteps := 500000) (disch := first | assumption | omega) only [zn0, zn1, Option.bind_some, zm_ai, zm_al, zm_av, zm_opt, zm_fw, zE_l, zE_r, nI_add, pk_mul, pk_sub, pk_div, pk_rem, zrem, zpm1, zB_i0, zB_i1, zB_ok, zB_T, zB_F, nI_toInt, zT_sub, zT_neg, if_true, if_false, zw_R, zw_RL, zw_I, zF_R, zw_same, zw_cell, zw_ne, zF_at, zF_ne, ↓reduceIte, zd_leT, zd_leF, zd_ltT, zd_ltF, zd_eqF, zd_n1, zd_n2, eq_self, not_true_eq_false, not_false_eq_true, ↓zib_118, ↓zxb_118_0, ↓zxb_118_1, ↓zxb_118_2, ↓zxb_118_3, ↓zxb_118_7, ↓zxb_118_8, ↓zxb_118_9, ↓zxb_118_10, ↓zxb_118_11, ↓zxb_118_12, ↓zxb_118_13, ↓zxb_118_14, ↓zxb_118_15, ↓zxb_118_17, ↓zxb_118_18, ↓zxb_118_19, ↓zxb_118_21, ↓zxb_118_22, ↓zxb_118_24, ↓zxb_118_25, ↓zxb_118_30, ↓zxb_118_35, ↓zxb_118_36, ↓zxb_118_37, ↓zxb_118_38, ↓zxb_118_39, ↓zxb_118_41, ↓zxb_118_42, ↓zxb_118_44, ↓zxb_118_45, ↓zxb_118_46, ↓zgb_119, ↓zsb_119, ↓zgb_120, ↓zsb_120, ↓zgb_121, ↓zsb_121, ↓zgb_122, ↓zsb_122, ↓zgb_123, ↓zsb_123, ↓zgb_124, ↓zsb_124, ↓zgb_125, ↓zsb_125, ↓zgb_126, ↓zsb_126, ↓zgb_127, ↓zsb_127, ↓zgb_128, ↓zsb_128, ↓zgb_129, ↓zsb_129, ↓zgb_130, ↓zsb_130, ↓zgb_131, ↓zsb_131, ↓zgb_132, ↓zsb_132, ↓zgb_133, ↓zsb_133, ↓zgb_134, ↓zsb_134, ↓zgb_135, ↓zsb_135, ↓zgb_136, ↓zsb_136, ↓zgb_137, ↓zsb_137, ↓zgb_139, ↓zsb_139, ↓zgb_140, ↓zsb_140, ↓zgb_141, ↓zsb_141, ↓zgb_142, ↓zsb_142, ↓zgb_143, ↓zsb_143, ↓zgb_144, ↓zsb_144, ↓zgb_145, ↓zsb_145, ↓zgb_146, ↓zsb_146, ↓zgb_147, ↓zsb_147, zi_118, zx_118_0, zx_118_1, zx_118_2, zx_118_3, zx_118_7, zx_118_8, zx_118_9, zx_118_10, zx_118_11, zx_118_12, zx_118_13, zx_118_14, zx_118_15, zx_118_17, zx_118_18, zx_118_19, zx_118_21, zx_118_22, zx_118_24, zx_118_25, zx_118_30, zx_118_35, zx_118_36, zx_118_37, zx_118_38, zx_118_39, zx_118_41, zx_118_42, zx_118_44, zx_118_45, zx_118_46, zgI_119, zsI_119, zgI_120, zsI_120, zgI_121, zsI_121, zgI_122, zsI_122, zgI_123, zsI_123, zgI_124, zsI_124, zgI_125, zsI_125, zgI_126, zsI_126, zgI_127, zsI_127, zgI_128, zsI_128, zgI_129, zsI_129, zgI_130, zsI_130, zgI_131, zsI_131, zgI_132, zsI_132, zgI_133, zsI_133, zgI_134, zsI_134, zgI_135, zsI_135, zgI_136, zsI_136, zgI_137, zsI_137, zgI_139, zsI_139, zgI_140, zsI_140, zgI_141, zsI_141, zgI_142, zsI_142, zgI_143, zsI_143, zgI_144, zsI_144, zgI_145, zsI_145, zgI_146, zsI_146, zgI_147, zsI_147, zb_190_0, hs, e2]
  have goal : zW 190 (25, [(0, .ref 118), (1, .int (nI r))], [], zL, σ2, 0, 0) (zRQ σ l r (zpa l)) := by
    have f33 : σ2.1 118 33 = nI 0 := (k2.i rfl).trans g33
    have f34 : σ2.1 118 34 = nI 0 := (k2.i rfl).trans g34
    have kk : zKeep zF90 σ σ2 := k1.tr (zF90_31 k2)
    obtain ⟨p, hp⟩ : ∃ p, zsk l 0 = p := ⟨_, rfl⟩
    rw [hp] at r2 hsk h32
    obtain ⟨d1, d2, d3⟩ := id r2
    by_cases c : zych l p = 97
    · have hlt : p < l.length := zych_lt (by omega)
      have k3 : zKeep zM31 σ2 (zm_wI σ2 118 31 (nI (p + 1))) := (zKeep.rf _ _).wI rfl
      have hF3 := k3.fix hF2 rfl
      obtain ⟨v, σ4, e4, ho⟩ := m_rgen0 (p := p + 1) hF3 hl hr (by omega) (r2.to _) ((k3.i rfl).trans f33)
      obtain ⟨n, hn⟩ : ∃ n, zcnt l (p + 1) = n := ⟨_, rfl⟩
      have hn5 : n ≤ 5 := hn ▸ (zft_go (Nat.zero_le 5)).2.1
      rw [hn] at ho
      rcases ho with ⟨o1, rfl, o2, k4⟩ | ⟨o1, q, r4, k4, ho⟩
      · obtain ⟨q1, q2, q3⟩ := id o2
        refine re_gen0 (x := 0) hl hr (by omega) hF2 r2 hlt f33 f34 c e4 q3 _ ?_
        rw [zpa, hp, zif_t c, hn, zif_t o1]
        exact ⟨σ4, rfl, fun G q => (by cases q), (kk.tr (zF90_31 k3)).tr (zF90_93 k4)⟩
      · have hF4 := zF93_fix (by decide) hF3 k4
        have kk4 := (kk.tr (zF90_31 k3)).tr (zF90_93 k4)
        obtain ⟨q1, q2, q3⟩ := id r4
        have ep : zpa l = zyps l n (zpg l n 3 0 p (fun _ => 0)) := by rw [zpa, hp, zif_t c, hn, zif_f (by omega)]
        rcases ho with ⟨rfl, o2, o3⟩ | ⟨rfl, o2, o3, o4, o5, o6, o7, o8⟩
        · refine re_gen0 (x := 0) hl hr (by omega) hF2 r2 hlt f33 f34 c e4 q3 _ ?_
          have ans : zpa l = .inl q := by
            rw [ep, zpg, zsk_f h32, zif_t c]
            by_cases f : zfg l n (p + 1) = n
            · rw [zif_t f, o2, f]
              exact zpg_no (o3 f) (by omega)
            · rw [zif_f f, o2]
              rfl
          rw [ans]
          exact ⟨σ4, rfl, fun G q => (by cases q), kk4⟩
        · have hend := zfg_end o3 (by omega)
          subst o2
          obtain ⟨σ5, e5, r5, k5⟩ := m_skipR hF4 hl hr r4 hend
          have hF5 := k5.fix hF4 rfl
          refine re_gen1 (x := 0) hl hr (by omega) hF2 r2 hlt f33 f34 c e4 e5 _ ?_
          have ans : zpa l = zyps l n (zpg l n 2 1 (zsk l (p + 1 + n)) (fun i => if i = 0 then p + 1 else 0)) := by
            rw [ep, zpg, zsk_f h32, zif_t c, zif_t o3, zpg_sk]
          rw [ans]
          have G2 : zGQ σ4 l n (0 + 1) (fun i => if i = 0 then p + 1 else (fun _ => 0) i) := zGQ.more (fun y hy => by omega) hn5 (fun y hy => by omega) k4 o5 o6 o7 o8
          have z34 : σ5.1 118 34 = nI 0 := by
            rw [k5.i rfl, k4.i (zF93_f (by omega)), k3.i rfl]
            exact f34
          exact m_genE hl hr o1 hn5 σ 2 1 _ _ σ5 rfl (Nat.le_refl _) (zsk_le hend).2 (zsk_ne l _) hF5 r5 (G2.k31 k5) z34 (fun y hy => by
            have ey : y = 0 := by omega
            subst ey
            exact o3) (kk4.tr (zF90_31 k5))
    · have ans : zpa l = .inl p := by rw [zpa, hp, zif_f c]
      rw [ans]
      have fin : zRQ σ l r (.inl p) (some (.int (nI p)), zL, σ2) := ⟨σ2, rfl, fun G q => (by cases q), kk⟩
      exact re_none hl hr hF2 r2 hsk.2 f33 c _ fin
  exact goal
end ZRX
