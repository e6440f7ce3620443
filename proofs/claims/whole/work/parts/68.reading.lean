/-! the reference reads a group -/
theorem zpe_sk (l : List Int32) (n g : Nat) (P : Nat → Nat) (p : Nat) (rs : List (List Int32)) : zpe l n g P (zsk l p) rs = zpe l n g P p rs := by rw [zpe, zpe, zsk_id]
theorem zpr_sk (l : List Int32) (n g : Nat) (P : Nat → Nat) (G : zG) (j p : Nat) (rs : List (List Int32)) : zypt l n g P (zpr l G j (zsk l p) rs) = zypt l n g P (zpr l G j p rs) := by
  cases j with
  | zero => rw [zpr, zpr]; exact zpe_sk l n g P p rs
  | succ j => rw [zpr, zpr, zsk_id]
theorem zpg_sk (l : List Int32) (n : Nat) (j x p : Nat) (P : Nat → Nat) : zyps l n (zpg l n j x (zsk l p) P) = zyps l n (zpg l n j x p P) := by
  cases j with
  | zero => rw [zpg, zpg]; exact zpr_sk l n x P _ 3 p []
  | succ j => rw [zpg, zpg, zsk_id]
/-- something else stands here -/
theorem zpr_no {l : List Int32} {n g : Nat} {P : Nat → Nat} {G : zG} {j p : Nat} {rs : List (List Int32)} (hp : p < l.length) (h1 : ¬ zych l p = 32) (h2 : ¬ zych l p = 61 ∨ j = 0) : zypt l n g P (zpr l G j p rs) = .inl p := by
  have hs := zsk_f h1
  cases j with
  | zero =>
    rw [zpr]
    show zpe l n g P p rs = _
    rw [zpe, hs, zif_t hp]
  | succ j =>
    have h3 : ¬ zych l p = 61 := by
      rcases h2 with q | q
      · exact q
      · cases q
    rw [zpr, hs, zif_f h3]
    show zpe l n g P p rs = _
    rw [zpe, hs, zif_t hp]
theorem zpg_no {l : List Int32} {n j x p : Nat} {P : Nat → Nat} (h : zfi l p) (hx : x ≤ 3) : zyps l n (zpg l n j x p P) = .inl p := by
  unfold zfi at h
  have h1 : ¬ zych l p = 32 := by omega
  have hs := zsk_f h1
  have hp : p < l.length := zych_lt (by omega)
  cases j with
  | zero => rw [zpg]; exact zpr_no hp h1 (Or.inl (by omega))
  | succ j =>
    rw [zpg, hs, zif_f (by omega)]
    exact zpr_no hp h1 (Or.inl (by omega))
theorem zGv_nil {n g : Nat} {T B : Nat → Nat → Nat} {rs : List (List Int32)} (h : zGv (n, g, T, B, rs)) : zGv (n, g, T, B, []) := ⟨h.1, h.2.1, Nat.zero_le _, h.2.2.2.1, fun r q => by cases q⟩
section ZRW
variable {σ σ' : zm_Sig} {l : List Int32} {r : Nat}
def zF90 (y k : Nat) : Bool := (140 ≤ y && y ≤ 143) || (y == 118 && (k == 31 || k == 32 || k == 33 || k == 34))
theorem zF90_fix (hF : zFix σ) (hK : zKeep zF90 σ σ') : zFix σ' := hK.fix hF rfl
theorem zF90_31 (hK : zKeep zM31 σ σ') : zKeep zF90 σ σ' := hK.mo fun y k q => by
  simp only [zM31, Bool.and_eq_true, beq_iff_eq] at q
  simp only [zF90, Bool.or_eq_true, Bool.and_eq_true, decide_eq_true_eq, beq_iff_eq]
  omega
theorem zF90_93 {x : Nat} (hK : zKeep (zF93 x) σ σ') : zKeep zF90 σ σ' := hK.mo fun y k q => by
  have := zF93_t q
  simp only [zF90, Bool.or_eq_true, Bool.and_eq_true, decide_eq_true_eq, beq_iff_eq]
  omega
theorem zF90_95 {x : Nat} (hK : zKeep (zF95 x) σ σ') : zKeep zF90 σ σ' := hK.mo fun y k q => by
  have := zF95_t q
  simp only [zF90, Bool.or_eq_true, Bool.and_eq_true, decide_eq_true_eq, beq_iff_eq]
  omega
/-- what is read so far -/
def zMr (σ : zm_Sig) (rs : List (List Int32)) : Prop := σ.1 118 34 = nI rs.length ∧ ∀ q, q < rs.length → σ.1 142 q = nI (zr rs q).length ∧ ∀ k, k < (zr rs q).length → σ.1 143 (8 * q + k) = zat (zr rs q) k
theorem zMr.k31 {rs : List (List Int32)} (h : zMr σ rs) (hK : zKeep zM31 σ σ') : zMr σ' rs := ⟨(hK.i rfl).trans h.1, fun q hq => ⟨(hK.i rfl).trans (h.2 q hq).1, fun k hk => (hK.i rfl).trans ((h.2 q hq).2 k hk)⟩⟩
theorem zMQ.k31 {G : zG} (h : zMQ σ G) (hK : zKeep zM31 σ σ') : zMQ σ' G := h.keep hK ⟨rfl, rfl⟩ (fun k => ⟨rfl, rfl⟩)
def zRQ (σ : zm_Sig) (l : List Int32) (r : Nat) (o : Nat ⊕ zG) (q : zm_Out) : Prop := ∃ σ', q = (some (.int (zypv o)), zL, σ') ∧ (∀ G, o = .inr G → zMQ σ' G ∧ zMr σ' G.2.2.2.2 ∧ zGk G) ∧ zKeep zF90 σ σ'
theorem re_no (hl : l.length ≤ 60) (hr : r < 4) {g k p : Nat} (hg1 : 1 ≤ g) (hg3 : g ≤ 3) (hk : k ≤ 3) (hF : zFix σ) (h : zMp σ r l p) (c : p < l.length) (g33 : σ.1 118 33 = nI g) (g34 : σ.1 118 34 = nI k) (hlet : k = 0 → g < 3 → ¬ zych l p = 97 + g) (h61 : zych l p = 61 → k = 3) (Q : zm_Out → Prop) (fin : Q (some (.int (nI p)), zL, σ)) : zW 190 (25, [(0, .ref 118), (1, .int (nI r))], [], zL, σ, 0, 0) Q := by
  obtain ⟨d1, d2, d3⟩ := id h
  have e1 := m_hereR hF hl hr h (by omega)
  by_cases a : zych l p = 97 + g
  · rw [zhm_eq a (by omega) (by omega)] at e1
    have f61 : (nI (97 + g) = nI 61) = False := zd_eqF (by omega) (by omega) (by omega)
    by_cases b : g = 3
    · subst b
      have b1 := fun f => zbai (β := zm_St ⊕ zm_Out) e1 f
      refine zW_of zg_190_25 ?_
      simp (maxSteps := 500000) (disch := first | assumption | omega) only [zn0, zn1, Option.bind_some, zm_ai, zm_al, zm_av, zm_opt, zm_fw, zE_l, zE_r, nI_add, pk_mul, pk_sub, pk_div, pk_rem, zrem, zpm1, zB_i0, zB_i1, zB_ok, zB_T, zB_F, nI_toInt, zT_sub, zT_neg, if_true, if_false, zw_R, zw_RL, zw_I, zF_R, zw_same, zw_cell, zw_ne, zF_at, zF_ne, ↓reduceIte, zd_leT, zd_leF, zd_ltT, zd_ltF, zd_eqF, zd_n1, zd_n2, eq_self, not_true_eq_false, not_false_eq_true, ↓zib_118, ↓zxb_118_0, ↓zxb_118_1, ↓zxb_118_2, ↓zxb_118_3, ↓zxb_118_7, ↓zxb_118_8, ↓zxb_118_9, ↓zxb_118_10, ↓zxb_118_11, ↓zxb_118_12, ↓zxb_118_13, ↓zxb_118_14, ↓zxb_118_15, ↓zxb_118_17, ↓zxb_118_18, ↓zxb_118_19, ↓zxb_118_21, ↓zxb_118_22, ↓zxb_118_24, ↓zxb_118_25, ↓zxb_118_30, ↓zxb_118_35, ↓zxb_118_36, ↓zxb_118_37, ↓zxb_118_38, ↓zxb_118_39, ↓zxb_118_41, ↓zxb_118_42, ↓zxb_118_44, ↓zxb_118_45, ↓zxb_118_46, ↓zgb_119, ↓zsb_119, ↓zgb_120, ↓zsb_120, ↓zgb_121, ↓zsb_121, ↓zgb_122, ↓zsb_122, ↓zgb_123, ↓zsb_123, ↓zgb_124, ↓zsb_124, ↓zgb_125, ↓zsb_125, ↓zgb_126, ↓zsb_126, ↓zgb_127, ↓zsb_127, ↓zgb_128, ↓zsb_128, ↓zgb_129, ↓zsb_129, ↓zgb_130, ↓zsb_130, ↓zgb_131, ↓zsb_131, ↓zgb_132, ↓zsb_132, ↓zgb_133, ↓zsb_133, ↓zgb_134, ↓zsb_134, ↓zgb_135, ↓zsb_135, ↓zgb_136, ↓zsb_136, ↓zgb_137, ↓zsb_137, ↓zgb_139, ↓zsb_139, ↓zgb_140, ↓zsb_140, ↓zgb_141, ↓zsb_141, ↓zgb_142, ↓zsb_142, ↓zgb_143, ↓zsb_143, ↓zgb_144, ↓zsb_144, ↓zgb_145, ↓zsb_145, ↓zgb_146, ↓zsb_146, ↓zgb_147, ↓zsb_147, zi_118, zx_118_0, zx_118_1, zx_118_2, zx_118_3, zx_118_7, zx_118_8, zx_118_9, zx_118_10, zx_118_11, zx_118_12, zx_118_13, zx_118_14, zx_118_15, zx_118_17, zx_118_18, zx_118_19, zx_118_21, zx_118_22, zx_118_24, zx_118_25, zx_118_30, zx_118_35, zx_118_36, zx_118_37, zx_118_38, zx_118_39, zx_118_41, zx_118_42, zx_118_44, zx_118_45, zx_118_46, zgI_119, zsI_119, zgI_120, zsI_120, zgI_121, zsI_121, zgI_122, zsI_122, zgI_123, zsI_123, zgI_124, zsI_124, zgI_125, zsI_125, zgI_126, zsI_126, zgI_127, zsI_127, zgI_128, zsI_128, zgI_129, zsI_129, zgI_130, zsI_130, zgI_131, zsI_131, zgI_132, zsI_132, zgI_133, zsI_133, zgI_134, zsI_134, zgI_135, zsI_135, zgI_136, zsI_136, zgI_137, zsI_137, zgI_139, zsI_139, zgI_140, zsI_140, zgI_141, zsI_141, zgI_142, zsI_142, zgI_143, zsI_143, zgI_144, zsI_144, zgI_145, zsI_145, zgI_146, zsI_146, zgI_147, zsI_147, zq_190_25_1, zq_190_25_2, zq_190_25_3, zq_190_25_4, zq_190_25_5, zq_190_25_6, zq_190_25_7, zq_190_25_8, zq_190_25_9, zq_190_25_10, zq_190_25_11, zq_190_25_12, zq_190_25_13, zq_190_25_14, zq_190_25_15, zq_190_25_16, zh_190_25, d1, d3, ↓b1, g33, g34, f61]
      exact fin
    · have z0 : ¬ k = 0 := fun q => hlet q (by omega) a
      have f0 : (nI k = nI 0) = False := zd_eqF z0 (by omega) (by omega)
      have b1 := fun f => zbai (β := zm_St ⊕ zm_Out) e1 f
      refine zW_of zg_190_25 ?_
      simp (maxSteps := 500000) (disch := first | assumption | omega) only [zn0, zn1, Option.bind_some, zm_ai, zm_al, zm_av, zm_opt, zm_fw, zE_l, zE_r, nI_add, pk_mul, pk_sub, pk_div, pk_rem, zrem, zpm1, zB_i0, zB_i1, zB_ok, zB_T, zB_F, nI_toInt, zT_sub, zT_neg, if_true, if_false, zw_R, zw_RL, zw_I, zF_R, zw_same, zw_cell, zw_ne, zF_at, zF_ne, ↓reduceIte, zd_leT, zd_leF, zd_ltT, zd_ltF, zd_eqF, zd_n1, zd_n2, eq_self, not_true_eq_false, not_false_eq_true, ↓zib_118, ↓zxb_118_0, ↓zxb_118_1, ↓zxb_118_2, ↓zxb_118_3, ↓zxb_118_7, ↓zxb_118_8, ↓zxb_118_9, ↓zxb_118_10, ↓zxb_118_11, ↓zxb_118_12, ↓zxb_118_13, ↓zxb_118_14, ↓zxb_118_15, ↓zxb_118_17, ↓zxb_118_18, ↓zxb_118_19, ↓zxb_118_21, ↓zxb_118_22, ↓zxb_118_24, ↓zxb_118_25, ↓zxb_118_30, ↓zxb_118_35, ↓zxb_118_36, ↓zxb_118_37, ↓zxb_118_38, ↓zxb_118_39, ↓zxb_118_41, ↓zxb_118_42, ↓zxb_118_44, ↓zxb_118_45, ↓zxb_118_46, ↓zgb_119, ↓zsb_119, ↓zgb_120, ↓zsb_120, ↓zgb_121, ↓zsb_121, ↓zgb_122, ↓zsb_122, ↓zgb_123, ↓zsb_123, ↓zgb_124, ↓zsb_124, ↓zgb_125, ↓zsb_125, ↓zgb_126, ↓zsb_126, ↓zgb_127, ↓zsb_127, ↓zgb_128, ↓zsb_128, ↓zgb_129, ↓zsb_129, ↓zgb_130, ↓zsb_130, ↓zgb_131, ↓zsb_131, ↓zgb_132, ↓zsb_132, ↓zgb_133, ↓zsb_133, ↓zgb_134, ↓zsb_134, ↓zgb_135, ↓zsb_135, ↓zgb_136, ↓zsb_136, ↓zgb_137, ↓zsb_137, ↓zgb_139, ↓zsb_139, ↓zgb_140, ↓zsb_140, ↓zgb_141, ↓zsb_141, ↓zgb_142, ↓zsb_142, ↓zgb_143, ↓zsb_143, ↓zgb_144, ↓zsb_144, ↓zgb_145, ↓zsb_145, ↓zgb_146, ↓zsb_146, ↓zgb_147, ↓zsb_147, zi_118, zx_118_0, zx_118_1, zx_118_2, zx_118_3, zx_118_7, zx_118_8, zx_118_9, zx_118_10, zx_118_11, zx_118_12, zx_118_13, zx_118_14, zx_118_15, zx_118_17, zx_118_18, zx_118_19, zx_118_21, zx_118_22, zx_118_24, zx_118_25, zx_118_30, zx_118_35, zx_118_36, zx_118_37, zx_118_38, zx_118_39, zx_118_41, zx_118_42, zx_118_44, zx_118_45, zx_118_46, zgI_119, zsI_119, zgI_120, zsI_120, zgI_121, zsI_121, zgI_122, zsI_122, zgI_123, zsI_123, zgI_124, zsI_124, zgI_125, zsI_125, zgI_126, zsI_126, zgI_127, zsI_127, zgI_128, zsI_128, zgI_129, zsI_129, zgI_130, zsI_130, zgI_131, zsI_131, zgI_132, zsI_132, zgI_133, zsI_133, zgI_134, zsI_134, zgI_135, zsI_135, zgI_136, zsI_136, zgI_137, zsI_137, zgI_139, zsI_139, zgI_140, zsI_140, zgI_141, zsI_141, zgI_142, zsI_142, zgI_143, zsI_143, zgI_144, zsI_144, zgI_145, zsI_145, zgI_146, zsI_146, zgI_147, zsI_147, zq_190_25_1, zq_190_25_2, zq_190_25_3, zq_190_25_4, zq_190_25_5, zq_190_25_6, zq_190_25_7, zq_190_25_8, zq_190_25_9, zq_190_25_10, zq_190_25_11, zq_190_25_12, zq_190_25_13, zq_190_25_14, zq_190_25_15, zq_190_25_16, zh_190_25, d1, d3, ↓b1, g33, g34, f61, f0]
      exact fin
  · have fa := zhm_ne a (by omega) (by omega)
    by_cases b : zych l p = 61
    · have fb : (zhm l p = nI 61) = True := eq_true (zhm_eq b (by omega) (by omega))
      have k3 := h61 b
      subst k3
      have b1 := fun f => zbai (β := zm_St ⊕ zm_Out) e1 f
      refine zW_of zg_190_25 ?_
      simp (maxSteps := 500000) (disch := first | assumption | omega) only [zn0, zn1, Option.bind_some, zm_ai, zm_al, zm_av, zm_opt, zm_fw, zE_l, zE_r, nI_add, pk_mul, pk_sub, pk_div, pk_rem, zrem, zpm1, zB_i0, zB_i1, zB_ok, zB_T, zB_F, nI_toInt, zT_sub, zT_neg, if_true, if_false, zw_R, zw_RL, zw_I, zF_R, zw_same, zw_cell, zw_ne, zF_at, zF_ne, ↓reduceIte, zd_leT, zd_leF, zd_ltT, zd_ltF, zd_eqF, zd_n1, zd_n2, eq_self, not_true_eq_false, not_false_eq_true, ↓zib_118, ↓zxb_118_0, ↓zxb_118_1, ↓zxb_118_2, ↓zxb_118_3, ↓zxb_118_7, ↓zxb_118_8, ↓zxb_118_9, ↓zxb_118_10, ↓zxb_118_11, ↓zxb_118_12, ↓zxb_118_13, ↓zxb_118_14, ↓zxb_118_15, ↓zxb_118_17, ↓zxb_118_18, ↓zxb_118_19, ↓zxb_118_21, ↓zxb_118_22, ↓zxb_118_24, ↓zxb_118_25, ↓zxb_118_30, ↓zxb_118_35, ↓zxb_118_36, ↓zxb_118_37, ↓zxb_118_38, ↓zxb_118_39, ↓zxb_118_41, ↓zxb_118_42, ↓zxb_118_44, ↓zxb_118_45, ↓zxb_118_46, ↓zgb_119, ↓zsb_119, ↓zgb_120, ↓zsb_120, ↓zgb_121, ↓zsb_121, ↓zgb_122, ↓zsb_122, ↓zgb_123, ↓zsb_123, ↓zgb_124, ↓zsb_124, ↓zgb_125, ↓zsb_125, ↓zgb_126, ↓zsb_126, ↓zgb_127, ↓zsb_127, ↓zgb_128, ↓zsb_128, ↓zgb_129, ↓zsb_129, ↓zgb_130, ↓zsb_130, ↓zgb_131, ↓zsb_131, ↓zgb_132, ↓zsb_132, ↓zgb_133, ↓zsb_133, ↓zgb_134, ↓zsb_134, ↓zgb_135, ↓zsb_135, ↓zgb_136, ↓zsb_136, ↓zgb_137, ↓zsb_137, ↓zgb_139, ↓zsb_139, ↓zgb_140, ↓zsb_140, ↓zgb_141, ↓zsb_141, ↓zgb_142, ↓zsb_142, ↓zgb_143, ↓zsb_143, ↓zgb_144, ↓zsb_144, ↓zgb_145, ↓zsb_145, ↓zgb_146, ↓zsb_146, ↓zgb_147, ↓zsb_147, zi_118, zx_118_0, zx_118_1, zx_118_2, zx_118_3, zx_118_7, zx_118_8, zx_118_9, zx_118_10, zx_118_11, zx_118_12, zx_118_13, zx_118_14, zx_118_15, zx_118_17, zx_118_18, zx_118_19, zx_118_21, zx_118_22, zx_118_24, zx_118_25, zx_118_30, zx_118_35, zx_118_36, zx_118_37, zx_118_38, zx_118_39, zx_118_41, zx_118_42, zx_118_44, zx_118_45, zx_118_46, zgI_119, zsI_119, zgI_120, zsI_120, zgI_121, zsI_121, zgI_122, zsI_122, zgI_123, zsI_123, zgI_124, zsI_124, zgI_125, zsI_125, zgI_126, zsI_126, zgI_127, zsI_127, zgI_128, zsI_128, zgI_129, zsI_129, zgI_130, zsI_130, zgI_131, zsI_131, zgI_132, zsI_132, zgI_133, zsI_133, zgI_134, zsI_134, zgI_135, zsI_135, zgI_136, zsI_136, zgI_137, zsI_137, zgI_139, zsI_139, zgI_140, zsI_140, zgI_141, zsI_141, zgI_142, zsI_142, zgI_143, zsI_143, zgI_144, zsI_144, zgI_145, zsI_145, zgI_146, zsI_146, zgI_147, zsI_147, zq_190_25_1, zq_190_25_2, zq_190_25_3, zq_190_25_4, zq_190_25_5, zq_190_25_6, zq_190_25_7, zq_190_25_8, zq_190_25_9, zq_190_25_10, zq_190_25_11, zq_190_25_12, zq_190_25_13, zq_190_25_14, zq_190_25_15, zq_190_25_16, zh_190_25, d1, d3, ↓b1, g33, g34, fa, fb]
      exact fin
    · have fb := zhm_ne b (by omega) (by omega)
      have b1 := fun f => zbai (β := zm_St ⊕ zm_Out) e1 f
      refine zW_of zg_190_25 ?_
      simp (maxSteps := 500000) (disch := first | assumption | omega) only [zn0, zn1, Option.bind_some, zm_ai, zm_al, zm_av, zm_opt, zm_fw, zE_l, zE_r, nI_add, pk_mul, pk_sub, pk_div, pk_rem, zrem, zpm1, zB_i0, zB_i1, zB_ok, zB_T, zB_F, nI_toInt, zT_sub, zT_neg, if_true, if_false, zw_R, zw_RL, zw_I, zF_R, zw_same, zw_cell, zw_ne, zF_at, zF_ne, ↓reduceIte, zd_leT, zd_leF, zd_ltT, zd_ltF, zd_eqF, zd_n1, zd_n2, eq_self, not_true_eq_false, not_false_eq_true, ↓zib_118, ↓zxb_118_0, ↓zxb_118_1, ↓zxb_118_2, ↓zxb_118_3, ↓zxb_118_7, ↓zxb_118_8, ↓zxb_118_9, ↓zxb_118_10, ↓zxb_118_11, ↓zxb_118_12, ↓zxb_118_13, ↓zxb_118_14, ↓zxb_118_15, ↓zxb_118_17, ↓zxb_118_18, ↓zxb_118_19, ↓zxb_118_21, ↓zxb_118_22, ↓zxb_118_24, ↓zxb_118_25, ↓zxb_118_30, ↓zxb_118_35, ↓zxb_118_36, ↓zxb_118_37, ↓zxb_118_38, ↓zxb_118_39, ↓zxb_118_41, ↓zxb_118_42, ↓zxb_118_44, ↓zxb_118_45, ↓zxb_118_46, ↓zgb_119, ↓zsb_119, ↓zgb_120, ↓zsb_120, ↓zgb_121, ↓zsb_121, ↓zgb_122, ↓zsb_122, ↓zgb_123, ↓zsb_123, ↓zgb_124, ↓zsb_124, ↓zgb_125, ↓zsb_125, ↓zgb_126, ↓zsb_126, ↓zgb_127, ↓zsb_127, ↓zgb_128, ↓zsb_128, ↓zgb_129, ↓zsb_129, ↓zgb_130, ↓zsb_130, ↓zgb_131, ↓zsb_131, ↓zgb_132, ↓zsb_132, ↓zgb_133, ↓zsb_133, ↓zgb_134, ↓zsb_134, ↓zgb_135, ↓zsb_135, ↓zgb_136, ↓zsb_136, ↓zgb_137, ↓zsb_137, ↓zgb_139, ↓zsb_139, ↓zgb_140, ↓zsb_140, ↓zgb_141, ↓zsb_141, ↓zgb_142, ↓zsb_142, ↓zgb_143, ↓zsb_143, ↓zgb_144, ↓zsb_144, ↓zgb_145, ↓zsb_145, ↓zgb_146, ↓zsb_146, ↓zgb_147, ↓zsb_147, zi_118, zx_118_0, zx_118_1, zx_118_2, zx_118_3, zx_118_7, zx_118_8, zx_118_9, zx_118_10, zx_118_11, zx_118_12, zx_118_13, zx_118_14, zx_118_15, zx_118_17, zx_118_18, zx_118_19, zx_118_21, zx_118_22, zx_118_24, zx_118_25, zx_118_30, zx_118_35, zx_118_36, zx_118_37, zx_118_38, zx_118_39, zx_118_41, zx_118_42, zx_118_44, zx_118_45, zx_118_46, zgI_119, zsI_119, zgI_120, zsI_120, zgI_121, zsI_121, zgI_122, zsI_122, zgI_123, zsI_123, zgI_124, zsI_124, zgI_125, zsI_125, zgI_126, zsI_126, zgI_127, zsI_127, zgI_128, zsI_128, zgI_129, zsI_129, zgI_130, zsI_130, zgI_131, zsI_131, zgI_132, zsI_132, zgI_133, zsI_133, zgI_134, zsI_134, zgI_135, zsI_135, zgI_136, zsI_136, zgI_137, zsI_137, zgI_139, zsI_139, zgI_140, zsI_140, zgI_141, zsI_141, zgI_142, zsI_142, zgI_143, zsI_143, zgI_144, zsI_144, zgI_145, zsI_145, zgI_146, zsI_146, zgI_147, zsI_147, zq_190_25_1, zq_190_25_2, zq_190_25_3, zq_190_25_4, zq_190_25_5, zq_190_25_6, zq_190_25_7, zq_190_25_8, zq_190_25_9, zq_190_25_10, zq_190_25_11, zq_190_25_12, zq_190_25_13, zq_190_25_14, zq_190_25_15, zq_190_25_16, zh_190_25, d1, d3, ↓b1, g33, g34, fa, fb]
      exact fin
theorem re_end (hr : r < 4) {g p : Nat} {G : zG} (hl : l.length ≤ 60) (hg1 : 1 ≤ g) (hg3 : g ≤ 3) (hF : zFix σ) (h : zMp σ r l p) (hp : p ≤ l.length) (c : ¬ p < l.length) (g33 : σ.1 118 33 = nI g) (hQ : zMQ σ G) (hv : zGv G) (n0 : 1 ≤ G.1) (Q : zm_Out → Prop) (yes : zTr G → Q (some (.int (-9)), zL, σ)) (no : ¬ zTr G → Q (some (.int (nI l.length)), zL, σ)) : zW 190 (25, [(0, .ref 118), (1, .int (nI r))], [], zL, σ, 0, 0) Q := by
  obtain ⟨d1, d2, d3⟩ := id h
  have e1 := m_areReached hF (G := G) hQ hv n0
  by_cases t : zTr G
  · rw [zB_t t] at e1
    have b1 := fun f => zbai (β := zm_St ⊕ zm_Out) e1 f
    refine zW_of zg_190_25 ?_
    simp (maxSteps := 500000) (disch := first | assumption | omega) only [zn0, zn1, Option.bind_some, zm_ai, zm_al, zm_av, zm_opt, zm_fw, zE_l, zE_r, nI_add, pk_mul, pk_sub, pk_div, pk_rem, zrem, zpm1, zB_i0, zB_i1, zB_ok, zB_T, zB_F, nI_toInt, zT_sub, zT_neg, if_true, if_false, zw_R, zw_RL, zw_I, zF_R, zw_same, zw_cell, zw_ne, zF_at, zF_ne, ↓reduceIte, zd_leT, zd_leF, zd_ltT, zd_ltF, zd_eqF, zd_n1, zd_n2, eq_self, not_true_eq_false, not_false_eq_true, ↓zib_118, ↓zxb_118_0, ↓zxb_118_1, ↓zxb_118_2, ↓zxb_118_3, ↓zxb_118_7, ↓zxb_118_8, ↓zxb_118_9, ↓zxb_118_10, ↓zxb_118_11, ↓zxb_118_12, ↓zxb_118_13, ↓zxb_118_14, ↓zxb_118_15, ↓zxb_118_17, ↓zxb_118_18, ↓zxb_118_19, ↓zxb_118_21, ↓zxb_118_22, ↓zxb_118_24, ↓zxb_118_25, ↓zxb_118_30, ↓zxb_118_35, ↓zxb_118_36, ↓zxb_118_37, ↓zxb_118_38, ↓zxb_118_39, ↓zxb_118_41, ↓zxb_118_42, ↓zxb_118_44, ↓zxb_118_45, ↓zxb_118_46, ↓zgb_119, ↓zsb_119, ↓zgb_120, ↓zsb_120, ↓zgb_121, ↓zsb_121, ↓zgb_122, ↓zsb_122, ↓zgb_123, ↓zsb_123, ↓zgb_124, ↓zsb_124, ↓zgb_125, ↓zsb_125, ↓zgb_126, ↓zsb_126, ↓zgb_127, ↓zsb_127, ↓zgb_128, ↓zsb_128, ↓zgb_129, ↓zsb_129, ↓zgb_130, ↓zsb_130, ↓zgb_131, ↓zsb_131, ↓zgb_132, ↓zsb_132, ↓zgb_133, ↓zsb_133, ↓zgb_134, ↓zsb_134, ↓zgb_135, ↓zsb_135, ↓zgb_136, ↓zsb_136, ↓zgb_137, ↓zsb_137, ↓zgb_139, ↓zsb_139, ↓zgb_140, ↓zsb_140, ↓zgb_141, ↓zsb_141, ↓zgb_142, ↓zsb_142, ↓zgb_143, ↓zsb_143, ↓zgb_144, ↓zsb_144, ↓zgb_145, ↓zsb_145, ↓zgb_146, ↓zsb_146, ↓zgb_147, ↓zsb_147, zi_118, zx_118_0, zx_118_1, zx_118_2, zx_118_3, zx_118_7, zx_118_8, zx_118_9, zx_118_10, zx_118_11, zx_118_12, zx_118_13, zx_118_14, zx_118_15, zx_118_17, zx_118_18, zx_118_19, zx_118_21, zx_118_22, zx_118_24, zx_118_25, zx_118_30, zx_118_35, zx_118_36, zx_118_37, zx_118_38, zx_118_39, zx_118_41, zx_118_42, zx_118_44, zx_118_45, zx_118_46, zgI_119, zsI_119, zgI_120, zsI_120, zgI_121, zsI_121, zgI_122, zsI_122, zgI_123, zsI_123, zgI_124, zsI_124, zgI_125, zsI_125, zgI_126, zsI_126, zgI_127, zsI_127, zgI_128, zsI_128, zgI_129, zsI_129, zgI_130, zsI_130, zgI_131, zsI_131, zgI_132, zsI_132, zgI_133, zsI_133, zgI_134, zsI_134, zgI_135, zsI_135, zgI_136, zsI_136, zgI_137, zsI_137, zgI_139, zsI_139, zgI_140, zsI_140, zgI_141, zsI_141, zgI_142, zsI_142, zgI_143, zsI_143, zgI_144, zsI_144, zgI_145, zsI_145, zgI_146, zsI_146, zgI_147, zsI_147, zq_190_25_1, zq_190_25_2, zq_190_25_3, zq_190_25_4, zq_190_25_5, zq_190_25_6, zq_190_25_7, zq_190_25_8, zq_190_25_9, zq_190_25_10, zq_190_25_11, zq_190_25_12, zq_190_25_13, zq_190_25_14, zq_190_25_15, zq_190_25_16, zh_190_25, d1, d3, g33, ↓b1]
    exact yes t
  · rw [zB_f t] at e1
    have b1 := fun f => zbai (β := zm_St ⊕ zm_Out) e1 f
    refine zW_of zg_190_25 ?_
    simp (maxSteps := 500000) (disch := first | assumption | omega) only [zn0, zn1, Option.bind_some, zm_ai, zm_al, zm_av, zm_opt, zm_fw, zE_l, zE_r, nI_add, pk_mul, pk_sub, pk_div, pk_rem, zrem, zpm1, zB_i0, zB_i1, zB_ok, zB_T, zB_F, nI_toInt, zT_sub, zT_neg, if_true, if_false, zw_R, zw_RL, zw_I, zF_R, zw_same, zw_cell, zw_ne, zF_at, zF_ne, ↓reduceIte, zd_leT, zd_leF, zd_ltT, zd_ltF, zd_eqF, zd_n1, zd_n2, eq_self, not_true_eq_false, not_false_eq_true, ↓zib_118, ↓zxb_118_0, ↓zxb_118_1, ↓zxb_118_2, ↓zxb_118_3, ↓zxb_118_7, ↓zxb_118_8, ↓zxb_118_9, ↓zxb_118_10, ↓zxb_118_11, ↓zxb_118_12, ↓zxb_118_13, ↓zxb_118_14, ↓zxb_118_15, ↓zxb_118_17, ↓zxb_118_18, ↓zxb_118_19, ↓zxb_118_21, ↓zxb_118_22, ↓zxb_118_24, ↓zxb_118_25, ↓zxb_118_30, ↓zxb_118_35, ↓zxb_118_36, ↓zxb_118_37, ↓zxb_118_38, ↓zxb_118_39, ↓zxb_118_41, ↓zxb_118_42, ↓zxb_118_44, ↓zxb_118_45, ↓zxb_118_46, ↓zgb_119, ↓zsb_119, ↓zgb_120, ↓zsb_120, ↓zgb_121, ↓zsb_121, ↓zgb_122, ↓zsb_122, ↓zgb_123, ↓zsb_123, ↓zgb_124, ↓zsb_124, ↓zgb_125, ↓zsb_125, ↓zgb_126, ↓zsb_126, ↓zgb_127, ↓zsb_127, ↓zgb_128, ↓zsb_128, ↓zgb_129, ↓zsb_129, ↓zgb_130, ↓zsb_130, ↓zgb_131, ↓zsb_131, ↓zgb_132, ↓zsb_132, ↓zgb_133, ↓zsb_133, ↓zgb_134, ↓zsb_134, ↓zgb_135, ↓zsb_135, ↓zgb_136, ↓zsb_136, ↓zgb_137, ↓zsb_137, ↓zgb_139, ↓zsb_139, ↓zgb_140, ↓zsb_140, ↓zgb_141, ↓zsb_141, ↓zgb_142, ↓zsb_142, ↓zgb_143, ↓zsb_143, ↓zgb_144, ↓zsb_144, ↓zgb_145, ↓zsb_145, ↓zgb_146, ↓zsb_146, ↓zgb_147, ↓zsb_147, zi_118, zx_118_0, zx_118_1, zx_118_2, zx_118_3, zx_118_7, zx_118_8, zx_118_9, zx_118_10, zx_118_11, zx_118_12, zx_118_13, zx_118_14, zx_118_15, zx_118_17, zx_118_18, zx_118_19, zx_118_21, zx_118_22, zx_118_24, zx_118_25, zx_118_30, zx_118_35, zx_118_36, zx_118_37, zx_118_38, zx_118_39, zx_118_41, zx_118_42, zx_118_44, zx_118_45, zx_118_46, zgI_119, zsI_119, zgI_120, zsI_120, zgI_121, zsI_121, zgI_122, zsI_122, zgI_123, zsI_123, zgI_124, zsI_124, zgI_125, zsI_125, zgI_126, zsI_126, zgI_127, zsI_127, zgI_128, zsI_128, zgI_129, zsI_129, zgI_130, zsI_130, zgI_131, zsI_131, zgI_132, zsI_132, zgI_133, zsI_133, zgI_134, zsI_134, zgI_135, zsI_135, zgI_136, zsI_136, zgI_137, zsI_137, zgI_139, zsI_139, zgI_140, zsI_140, zgI_141, zsI_141, zgI_142, zsI_142, zgI_143, zsI_143, zgI_144, zsI_144, zgI_145, zsI_145, zgI_146, zsI_146, zgI_147, zsI_147, zq_190_25_1, zq_190_25_2, zq_190_25_3, zq_190_25_4, zq_190_25_5, zq_190_25_6, zq_190_25_7, zq_190_25_8, zq_190_25_9, zq_190_25_10, zq_190_25_11, zq_190_25_12, zq_190_25_13, zq_190_25_14, zq_190_25_15, zq_190_25_16, zh_190_25, d1, d3, g33, ↓b1]
    exact no t
theorem re_rel0 (hl : l.length ≤ 60) (hr : r < 4) {g k p q : Nat} {σ2 : zm_Sig} (hg1 : 1 ≤ g) (hg3 : g ≤ 3) (hk : k < 3) (hF : zFix σ) (h : zMp σ r l p) (c : p < l.length) (g33 : σ.1 118 33 = nI g) (g34 : σ.1 118 34 = nI k) (b : zych l p = 61) (e2 : zM 195 [.ref 118, .int (nI r)] zL (zm_wI σ 118 31 (nI (p + 1))) = some (some (.int (nI 0)), zL, σ2)) (q3 : σ2.1 118 31 = nI q) (Q : zm_Out → Prop) (fin : Q (some (.int (nI q)), zL, σ2)) : zW 190 (25, [(0, .ref 118), (1, .int (nI r))], [], zL, σ, 0, 0) Q := by
  obtain ⟨d1, d2, d3⟩ := id h
  have e1 := m_hereR hF hl hr h (by omega)
  have fa : (nI 61 = nI (97 + g)) = False := zd_eqF (by omega) (by omega) (by omega)
  rw [zhm_eq b (by omega) (by omega)] at e1
  have b1 := fun f => zbai (β := zm_St ⊕ zm_Out) e1 f
  refine zW_of zg_190_25 ?_
  simp (maxSteps := 500000) (disch := first | assumption | omega) only [zn0, zn1, Option.bind_some, zm_ai, zm_al, zm_av, zm_opt, zm_fw, zE_l, zE_r, nI_add, pk_mul, pk_sub, pk_div, pk_rem, zrem, zpm1, zB_i0, zB_i1, zB_ok, zB_T, zB_F, nI_toInt, zT_sub, zT_neg, if_true, if_false, zw_R, zw_RL, zw_I, zF_R, zw_same, zw_cell, zw_ne, zF_at, zF_ne, ↓reduceIte, zd_leT, zd_leF, zd_ltT, zd_ltF, zd_eqF, zd_n1, zd_n2, eq_self, not_true_eq_false, not_false_eq_true, ↓zib_118, ↓zxb_118_0, ↓zxb_118_1, ↓zxb_118_2, ↓zxb_118_3, ↓zxb_118_7, ↓zxb_118_8, ↓zxb_118_9, ↓zxb_118_10, ↓zxb_118_11, ↓zxb_118_12, ↓zxb_118_13, ↓zxb_118_14, ↓zxb_118_15, ↓zxb_118_17, ↓zxb_118_18, ↓zxb_118_19, ↓zxb_118_21, ↓zxb_118_22, ↓zxb_118_24, ↓zxb_118_25, ↓zxb_118_30, ↓zxb_118_35, ↓zxb_118_36, ↓zxb_118_37, ↓zxb_118_38, ↓zxb_118_39, ↓zxb_118_41, ↓zxb_118_42, ↓zxb_118_44, ↓zxb_118_45, ↓zxb_118_46, ↓zgb_119, ↓zsb_119, ↓zgb_120, ↓zsb_120, ↓zgb_121, ↓zsb_121, ↓zgb_122, ↓zsb_122, ↓zgb_123, ↓zsb_123, ↓zgb_124, ↓zsb_124, ↓zgb_125, ↓zsb_125, ↓zgb_126, ↓zsb_126, ↓zgb_127, ↓zsb_127, ↓zgb_128, ↓zsb_128, ↓zgb_129, ↓zsb_129, ↓zgb_130, ↓zsb_130, ↓zgb_131, ↓zsb_131, ↓zgb_132, ↓zsb_132, ↓zgb_133, ↓zsb_133, ↓zgb_134, ↓zsb_134, ↓zgb_135, ↓zsb_135, ↓zgb_136, ↓zsb_136, ↓zgb_137, ↓zsb_137, ↓zgb_139, ↓zsb_139, ↓zgb_140, ↓zsb_140, ↓zgb_141, ↓zsb_141, ↓zgb_142, ↓zsb_142, ↓zgb_143, ↓zsb_143, ↓zgb_144, ↓zsb_144, ↓zgb_145, ↓zsb_145, ↓zgb_146, ↓zsb_146, ↓zgb_147, ↓zsb_147, zi_118, zx_118_0, zx_118_1, zx_118_2, zx_118_3, zx_118_7, zx_118_8, zx_118_9, zx_118_10, zx_118_11, zx_118_12, zx_118_13, zx_118_14, zx_118_15, zx_118_17, zx_118_18, zx_118_19, zx_118_21, zx_118_22, zx_118_24, zx_118_25, zx_118_30, zx_118_35, zx_118_36, zx_118_37, zx_118_38, zx_118_39, zx_118_41, zx_118_42, zx_118_44, zx_118_45, zx_118_46, zgI_119, zsI_119, zgI_120, zsI_120, zgI_121, zsI_121, zgI_122, zsI_122, zgI_123, zsI_123, zgI_124, zsI_124, zgI_125, zsI_125, zgI_126, zsI_126, zgI_127, zsI_127, zgI_128, zsI_128, zgI_129, zsI_129, zgI_130, zsI_130, zgI_131, zsI_131, zgI_132, zsI_132, zgI_133, zsI_133, zgI_134, zsI_134, zgI_135, zsI_135, zgI_136, zsI_136, zgI_137, zsI_137, zgI_139, zsI_139, zgI_140, zsI_140, zgI_141, zsI_141, zgI_142, zsI_142, zgI_143, zsI_143, zgI_144, zsI_144, zgI_145, zsI_145, zgI_146, zsI_146, zgI_147, zsI_147, zq_190_25_1, zq_190_25_2, zq_190_25_3, zq_190_25_4, zq_190_25_5, zq_190_25_6, zq_190_25_7, zq_190_25_8, zq_190_25_9, zq_190_25_10, zq_190_25_11, zq_190_25_12, zq_190_25_13, zq_190_25_14, zq_190_25_15, zq_190_25_16, zh_190_25, d1, d3, ↓b1, g33, g34, fa, e2, q3]
  exact fin
theorem re_rel1 (hl : l.length ≤ 60) (hr : r < 4) {g k p : Nat} {σ2 σ3 : zm_Sig} (hg1 : 1 ≤ g) (hg3 : g ≤ 3) (hk : k < 3) (hF : zFix σ) (h : zMp σ r l p) (c : p < l.length) (g33 : σ.1 118 33 = nI g) (g34 : σ.1 118 34 = nI k) (b : zych l p = 61) (e2 : zM 195 [.ref 118, .int (nI r)] zL (zm_wI σ 118 31 (nI (p + 1))) = some (some (.int (nI 1)), zL, σ2)) (e3 : zM 191 [.ref 118, .int (nI r)] zL σ2 = some (none, zL, σ3)) (Q : zm_Out → Prop) (go : zW 190 (25, [(0, .ref 118), (1, .int (nI r))], [], zL, σ3, 0, 0) Q) : zW 190 (25, [(0, .ref 118), (1, .int (nI r))], [], zL, σ, 0, 0) Q := by
  obtain ⟨d1, d2, d3⟩ := id h
  have e1 := m_hereR hF hl hr h (by omega)
  have fa : (nI 61 = nI (97 + g)) = False := zd_eqF (by omega) (by omega) (by omega)
  rw [zhm_eq b (by omega) (by omega)] at e1
  have b1 := fun f => zbai (β := zm_St ⊕ zm_Out) e1 f
  refine zW_of zg_190_25 ?_
  simp (maxSteps := 500000) (disch := first | assumption | omega) only [zn0, zn1, Option.bind_some, zm_ai, zm_al, zm_av, zm_opt, zm_fw, zE_l, zE_r, nI_add, pk_mul, pk_sub, pk_div, pk_rem, zrem, zpm1, zB_i0, zB_i1, zB_ok, zB_T, zB_F, nI_toInt, zT_sub, zT_neg, if_true, if_false, zw_R, zw_RL, zw_I, zF_R, zw_same, zw_cell, zw_ne, zF_at, zF_ne, ↓reduceIte, zd_leT, zd_leF, zd_ltT, zd_ltF, zd_eqF, zd_n1, zd_n2, eq_self, not_true_eq_false, not_false_eq_true, ↓zib_118, ↓zxb_118_0, ↓zxb_118_1, ↓zxb_118_2, ↓zxb_118_3, ↓zxb_118_7, ↓zxb_118_8, ↓zxb_118_9, ↓zxb_118_10, ↓zxb_118_11, ↓zxb_118_12, ↓zxb_118_13, ↓zxb_118_14, ↓zxb_118_15, ↓zxb_118_17, ↓zxb_118_18, ↓zxb_118_19, ↓zxb_118_21, ↓zxb_118_22, ↓zxb_118_24, ↓zxb_118_25, ↓zxb_118_30, ↓zxb_118_35, ↓zxb_118_36, ↓zxb_118_37, ↓zxb_118_38, ↓zxb_118_39, ↓zxb_118_41, ↓zxb_118_42, ↓zxb_118_44, ↓zxb_118_45, ↓zxb_118_46, ↓zgb_119, ↓zsb_119, ↓zgb_120, ↓zsb_120, ↓zgb_121, ↓zsb_121, ↓zgb_122, ↓zsb_122, ↓zgb_123, ↓zsb_123, ↓zgb_124, ↓zsb_124, ↓zgb_125, ↓zsb_125, ↓zgb_126, ↓zsb_126, ↓zgb_127, ↓zsb_127, ↓zgb_128, ↓zsb_128, ↓zgb_129, ↓zsb_129, ↓zgb_130, ↓zsb_130, ↓zgb_131, ↓zsb_131, ↓zgb_132, ↓zsb_132, ↓zgb_133, ↓zsb_133, ↓zgb_134, ↓zsb_134, ↓zgb_135, ↓zsb_135, ↓zgb_136, ↓zsb_136, ↓zgb_137, ↓zsb_137, ↓zgb_139, ↓zsb_139, ↓zgb_140, ↓zsb_140, ↓zgb_141, ↓zsb_141, ↓zgb_142, ↓zsb_142, ↓zgb_143, ↓zsb_143, ↓zgb_144, ↓zsb_144, ↓zgb_145, ↓zsb_145, ↓zgb_146, ↓zsb_146, ↓zgb_147, ↓zsb_147, zi_118, zx_118_0, zx_118_1, zx_118_2, zx_118_3, zx_118_7, zx_118_8, zx_118_9, zx_118_10, zx_118_11, zx_118_12, zx_118_13, zx_118_14, zx_118_15, zx_118_17, zx_118_18, zx_118_19, zx_118_21, zx_118_22, zx_118_24, zx_118_25, zx_118_30, zx_118_35, zx_118_36, zx_118_37, zx_118_38, zx_118_39, zx_118_41, zx_118_42, zx_118_44, zx_118_45, zx_118_46, zgI_119, zsI_119, zgI_120, zsI_120, zgI_121, zsI_121, zgI_122, zsI_122, zgI_123, zsI_123, zgI_124, zsI_124, zgI_125, zsI_125, zgI_126, zsI_126, zgI_127, zsI_127, zgI_128, zsI_128, zgI_129, zsI_129, zgI_130, zsI_130, zgI_131, zsI_131, zgI_132, zsI_132, zgI_133, zsI_133, zgI_134, zsI_134, zgI_135, zsI_135, zgI_136, zsI_136, zgI_137, zsI_137, zgI_139, zsI_139, zgI_140, zsI_140, zgI_141, zsI_141, zgI_142, zsI_142, zgI_143, zsI_143, zgI_144, zsI_144, zgI_145, zsI_145, zgI_146, zsI_146, zgI_147, zsI_147, zq_190_25_1, zq_190_25_2, zq_190_25_3, zq_190_25_4, zq_190_25_5, zq_190_25_6, zq_190_25_7, zq_190_25_8, zq_190_25_9, zq_190_25_10, zq_190_25_11, zq_190_25_12, zq_190_25_13, zq_190_25_14, zq_190_25_15, zq_190_25_16, zh_190_25, d1, d3, ↓b1, g33, g34, fa, e2, e3]
  exact go
theorem m_relE (hl : l.length ≤ 60) (hr : r < 4) {n g : Nat} {P : Nat → Nat} (hn2 : 2 ≤ n) (hg1 : 1 ≤ g) (hg3 : g ≤ 3) (σ0 : zm_Sig) : ∀ (j p : Nat) (rs : List (List Int32)) (σ : zm_Sig), rs.length + j = 3 → p ≤ l.length → ¬ zych l p = 32 → (rs.length = 0 → g < 3 → ¬ zych l p = 97 + g) → zFix σ → zMp σ r l p → zMQ σ (zgr l n g P []) → zMr σ rs → zGv (zgr l n g P rs) → zKeep zF90 σ0 σ → zW 190 (25, [(0, .ref 118), (1, .int (nI r))], [], zL, σ, 0, 0) (zRQ σ0 l r (zypt l n g P (zpr l (zgr l n g P []) j p rs))) := by
  intro j
  induction j with
  | zero =>
    intro p rs σ hj hp h32 hlet hF h hQ hR hv hK
    have g33 : σ.1 118 33 = nI g := hQ.2.1
    have hrs : rs.length = 3 := by omega
    by_cases c : p < l.length
    · rw [zpr_no c h32 (Or.inr rfl)]
      exact re_no hl hr hg1 hg3 (by omega) hF h c g33 hR.1 hlet (fun _ => hrs) _ ⟨σ, rfl, fun G q => (by cases q), hK⟩
    · have e0 : zypt l n g P (zpr l (zgr l n g P []) 0 p rs) = zpe l n g P p rs := by rw [zpr]; rfl
      rw [e0, zpe, zsk_f h32, zif_f c]
      have n0 : 1 ≤ (zgr l n g P rs).1 := by show 1 ≤ n; omega
      refine re_end (G := zgr l n g P rs) hr hl hg1 hg3 hF h hp c g33 hQ hv n0 _ (fun t => ?_) (fun t => ?_)
      · rw [zif_t t]
        exact ⟨σ, rfl, fun G q => by cases q; exact ⟨hQ, hR, hv, t, hn2, hg1⟩, hK⟩
      · rw [zif_f t]
        exact ⟨σ, rfl, fun G q => (by cases q), hK⟩
  | succ j ih =>
    intro p rs σ hj hp h32 hlet hF h hQ hR hv hK
    have g33 : σ.1 118 33 = nI g := hQ.2.1
    have g34 := hR.1
    by_cases c : p < l.length
    · by_cases b : zych l p = 61
      · have k1 : zKeep zM31 σ (zm_wI σ 118 31 (nI (p + 1))) := (zKeep.rf _ _).wI rfl
        have hF1 := k1.fix hF rfl
        have Q1 := hQ.k31 k1
        have R1 := hR.k31 k1
        obtain ⟨v, σ2, e2, k2, ho⟩ := m_rrel (p := p + 1) hF1 hl hr (G := zgr l n g P []) Q1 (zGv_nil hv) (k := rs.length) (by omega) (by omega) (by omega) (h.to _) R1.1
        have hF2 := zF95_fix (by omega) hF1 k2
        have kk := (hK.tr (zF90_31 k1)).tr (zF90_95 k2)
        obtain ⟨s, hs⟩ : ∃ s, zylc l g (p + 1) = s := ⟨_, rfl⟩
        have ho' : ((zil l (p + 1 + s) ∨ s = 0) ∧ v = nI 0 ∧ zMp σ2 r l (p + 1 + s)) ∨ (¬ (zil l (p + 1 + s) ∨ s = 0) ∧ zylv (zgr l n g P []) (zwd l (p + 1) s) ∧ v = nI 1 ∧ zMp σ2 r l (p + 1 + s) ∧ σ2.1 118 34 = nI (rs.length + 1) ∧ σ2.1 142 rs.length = nI s ∧ ∀ i, i < s → σ2.1 143 (8 * rs.length + i) = zylr l (p + 1 + i)) ∨ (¬ (zil l (p + 1 + s) ∨ s = 0) ∧ ¬ zylv (zgr l n g P []) (zwd l (p + 1) s) ∧ v = nI 0 ∧ zMp σ2 r l (p + 1 - 1)) := by rw [← hs]; exact ho
        have unf : zpr l (zgr l n g P []) (j + 1) p rs = zif (zil l (p + 1 + s) ∨ s = 0) (.inl (p + 1 + s)) (zif (zylv (zgr l n g P []) (zwd l (p + 1) s)) (zpr l (zgr l n g P []) j (p + 1 + s) (rs ++ [zwd l (p + 1) s])) (.inl p)) := by
          rw [zpr, zsk_f h32, zif_t b]
          show zif (zil l (p + 1 + zylc l g (p + 1)) ∨ zylc l g (p + 1) = 0) _ _ = _
          rw [← hs]
          rfl
        rw [unf]
        have hok := zylc_ok (l := l) (g := g) (q := p + 1)
        have hend := zylc_end (l := l) (g := g) (q := p + 1) (by omega)
        rw [hs] at hok hend
        rcases ho' with ⟨o1, rfl, o2⟩ | ⟨o1, o2, rfl, o3, o4, o5, o6⟩ | ⟨o1, o2, rfl, o3⟩
        · rw [zif_t o1]
          exact re_rel0 hl hr hg1 hg3 (by omega) hF h c g33 g34 b e2 o2.2.2 _ ⟨σ2, rfl, fun G q => (by cases q), kk⟩
        · rw [zif_f o1, zif_t o2, ← zpr_sk]
          obtain ⟨σ3, e3, r3, k3⟩ := m_skipR hF2 hl hr o3 hend
          have hF3 := k3.fix hF2 rfl
          have wl := zwd_len l (p + 1) s
          refine re_rel1 hl hr hg1 hg3 (by omega) hF h c g33 g34 b e2 e3 _ ?_
          have le : (rs ++ [zwd l (p + 1) s]).length = rs.length + 1 := by rw [List.length_append, List.length_singleton]
          have Q2 : zMQ σ2 (zgr l n g P []) := Q1.keep k2 ⟨zF95_f (by omega), zF95_f (by omega)⟩ (fun i => ⟨zF95_f (by omega), zF95_f (by omega)⟩)
          have R2 : zMr σ2 (rs ++ [zwd l (p + 1) s]) := by
            refine ⟨by rw [le]; exact o4, fun q hq => ?_⟩
            rw [le] at hq
            rw [zr_snoc hq]
            by_cases eq : q = rs.length
            · rw [if_pos eq, wl, eq]
              exact ⟨o5, fun k hk => by rw [zwd, zat_rg _ hk]; exact o6 k hk⟩
            · rw [if_neg eq]
              have v5 := hv.2.2.2.2 (zr rs q) (zr_mem (show q < rs.length by omega))
              obtain ⟨a1, a2⟩ := R1.2 q (by omega)
              exact ⟨(k2.i (zF95_f (by omega))).trans a1, fun k hk => (k2.i (zF95_f (by omega))).trans (a2 k hk)⟩
          exact ih (zsk l (p + 1 + s)) (rs ++ [zwd l (p + 1) s]) σ3 (by omega) (zsk_le hend).2 (zsk_ne l _) (fun q => by omega) hF3 r3 (Q2.k31 k3) (R2.k31 k3) (hv.snoc (by omega) (by omega) (zwd_mem hok.2)) (kk.tr (zF90_31 k3))
        · rw [zif_f o1, zif_f o2]
          rw [Nat.add_sub_cancel] at o3
          exact re_rel0 hl hr hg1 hg3 (by omega) hF h c g33 g34 b e2 o3.2.2 _ ⟨σ2, rfl, fun G q => (by cases q), kk⟩
      · rw [zpr_no c h32 (Or.inl b)]
        exact re_no hl hr hg1 hg3 (by omega) hF h c g33 g34 hlet (fun q => absurd q b) _ ⟨σ, rfl, fun G q => (by cases q), hK⟩
    · have e0 : zypt l n g P (zpr l (zgr l n g P []) (j + 1) p rs) = zpe l n g P p rs := by
        rw [zpr, zsk_f h32, zif_f (by rw [zych_0 (by omega)]; decide)]
        rfl
      rw [e0, zpe, zsk_f h32, zif_f c]
      have n0 : 1 ≤ (zgr l n g P rs).1 := by show 1 ≤ n; omega
      refine re_end (G := zgr l n g P rs) hr hl hg1 hg3 hF h hp c g33 hQ hv n0 _ (fun t => ?_) (fun t => ?_)
      · rw [zif_t t]
        exact ⟨σ, rfl, fun G q => by cases q; exact ⟨hQ, hR, hv, t, hn2, hg1⟩, hK⟩
      · rw [zif_f t]
        exact ⟨σ, rfl, fun G q => (by cases q), hK⟩
end ZRW
