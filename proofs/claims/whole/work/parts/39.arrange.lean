/-! a book from its start: class and reference -/
noncomputable def zarr (G : zG) (o : Nat) : zBk := (o, zLeft (zsn G (ztree G o)), zrules G (ztree G o))
def zMB (g : Nat → Int32) (B : zBk) : Prop := g 0 = nI B.1 ∧ g 2 = B.2.1 ∧ zMR g B.2.2
def zMBk (σ : zm_Sig) (G : zG) (B : zBk) : Prop := zMT σ (ztree G B.1) ∧ zMN σ G (ztree G B.1) ∧ zMB (σ.1 135) B
def zCB (σ : zm_Sig) (G : zG) (B : zBk) : Prop := zCT σ (ztree G B.1) ∧ zCN σ G (ztree G B.1) ∧ (∃ π, zCR σ π B.2.2) ∧ σ.1 30 3 = B.2.1 ∧ σ.1 19 3 = nI B.1
def zBok (G : zG) (B : zBk) : Prop := B.1 < 3 ∧ zOK B.2.2 B.2.1 ∧ ∀ k, k < 15 → zbit B.2.1 k → k < zsn G (ztree G B.1)
theorem zarr_ok {G : zG} (hk : zGk G) {o : Nat} (ho : o < 3) : zBok G (zarr G o) := by
  obtain ⟨hv, htr, hn, hg⟩ := hk
  have hS := zsn_le hv (ztree G o)
  refine ⟨ho, ⟨?_, fun r hr => ?_⟩, fun k hk hb => (zbit_all hS hk).mp hb⟩
  · show (zrls G (ztree G o) _).length ≤ 15
    rw [zrls_len]
    exact zRn hv
  · have hr' : r ∈ (List.range (G.2.2.2.2.length * G.1)).map (zrl G (ztree G o)) := hr
    obtain ⟨j, hj, e⟩ := List.mem_map.mp hr'
    have hj' := List.mem_range.mp hj
    rw [Nat.mul_comm] at hj'
    obtain ⟨a1, a2, a3⟩ := zedge hj'
    obtain ⟨l1, l2⟩ := zrels hv a3
    obtain ⟨w1, w2, w3⟩ := zwt_ok (t := ztree G o) hv a2 _ l2
    have hm := zwt_mem (t := ztree G o) hv a2 _ l2
    subst e
    refine ⟨?_, w3, fun x hx => ?_⟩
    · have : (zrl G (ztree G o) j).length ≤ (zr G.2.2.2.2 (j % G.2.2.2.2.length)).length := w2
      omega
    · obtain ⟨b, b1, b2, b3⟩ := hm x hx
      exact ⟨b, b1, by omega, b3, (zbit_all hS (by omega)).mpr (by omega)⟩
section ZAR
variable {σ : zm_Sig} {a : Nat} {G : zG} {t : zT}
theorem m_writes {w : List Int32} (hF : zFix σ) (hG : zMG σ G) (hv : zGv G) (hN : zMN σ G t) (h : zMW σ w) (hw : w.length < 700) {p : Nat} (hp : p < G.1) {v : Int32} (hl : zLt G.2.1 v) :
    ∃ σ', zM 212 [.ref 118, .int (nI p), .int v] zL σ = some (none, zL, σ') ∧ zMW σ' (zps w (zls G t p v)) ∧ zKeep zFM σ σ' := by
  have v1 := hv.1
  have v2 := hv.2.1
  have h15 := zng hv
  have hg2 := hG.2.1
  have hmv := m_goesBy hF hG hv hp hl
  have hS := zsn_le hv t
  obtain ⟨x, hx, rfl | rfl⟩ := hl
  · have he := zgk hp hx
    have hsg := (hN.2 _ he).2.1
    have hsl := zsg_le (t := t) he
    have hix : G.2.1 * p + (x + 1) - 1 = G.2.1 * p + x := by omega
    have e15 : G.2.1 * p + x < 15 := by omega
    rw [zls_p (by omega)]
    generalize zsg G t (G.2.1 * p + x) = s at *
    refine zS_ex (zS_of ze_212 ?_)
    by_cases e0 : s = 0
    · rw [zps_0 (by rw [e0])]
      simp (disch := first | assumption | omega) only [zn0, zn1, Option.bind_some, zm_ai, zm_al, zm_av, zm_opt, zm_fw, zE_l, zE_r, nI_add, pk_mul, pk_sub, pk_div, pk_rem, zrem, zpm1, zB_i0, zB_i1, zB_ok, zB_T, zB_F, nI_toInt, zT_sub, zT_neg, zT_le, zT_lt, nI_eq, zne1, zne2, zne9, ite_not, or_true, true_or, if_true, if_false, if_pos, if_neg, zw_R, zw_RL, zw_I, zF_R, zw_same, zw_cell, zw_ne, zF_at, zF_ne, zi_118, zx_118_0, zx_118_1, zx_118_2, zx_118_3, zx_118_7, zx_118_8, zx_118_9, zx_118_10, zx_118_11, zx_118_12, zx_118_13, zx_118_14, zx_118_15, zx_118_17, zx_118_18, zx_118_19, zx_118_21, zx_118_22, zx_118_24, zx_118_25, zx_118_30, zx_118_35, zx_118_36, zx_118_37, zx_118_38, zx_118_39, zx_118_41, zx_118_42, zx_118_44, zx_118_45, zx_118_46, zgI_119, zsI_119, zgI_120, zsI_120, zgI_121, zsI_121, zgI_122, zsI_122, zgI_123, zsI_123, zgI_124, zsI_124, zgI_125, zsI_125, zgI_126, zsI_126, zgI_127, zsI_127, zgI_128, zsI_128, zgI_129, zsI_129, zgI_130, zsI_130, zgI_131, zsI_131, zgI_132, zsI_132, zgI_133, zsI_133, zgI_134, zsI_134, zgI_135, zsI_135, zgI_136, zsI_136, zgI_137, zsI_137, zgI_139, zsI_139, zgI_140, zsI_140, zgI_141, zsI_141, zgI_142, zsI_142, zgI_143, zsI_143, zgI_144, zsI_144, zgI_145, zsI_145, zgI_146, zsI_146, zgI_147, zsI_147, zb_212_0, hg2, hix, hsg]
      exact ⟨σ, rfl, h, zKeep.rf _ _⟩
    · obtain ⟨σ2, e2, hW2, hK2⟩ := m_grows hF h hw (nI s)
      rw [zps_n (fun q => e0 (by
        have := congrArg Int32.toInt q
        rw [nI_toInt (by omega), nI_toInt (by omega)] at this
        omega))]
      simp (disch := first | assumption | omega) only [zn0, zn1, Option.bind_some, zm_ai, zm_al, zm_av, zm_opt, zm_fw, zE_l, zE_r, nI_add, pk_mul, pk_sub, pk_div, pk_rem, zrem, zpm1, zB_i0, zB_i1, zB_ok, zB_T, zB_F, nI_toInt, zT_sub, zT_neg, zT_le, zT_lt, nI_eq, zne1, zne2, zne9, ite_not, or_true, true_or, if_true, if_false, if_pos, if_neg, zw_R, zw_RL, zw_I, zF_R, zw_same, zw_cell, zw_ne, zF_at, zF_ne, zi_118, zx_118_0, zx_118_1, zx_118_2, zx_118_3, zx_118_7, zx_118_8, zx_118_9, zx_118_10, zx_118_11, zx_118_12, zx_118_13, zx_118_14, zx_118_15, zx_118_17, zx_118_18, zx_118_19, zx_118_21, zx_118_22, zx_118_24, zx_118_25, zx_118_30, zx_118_35, zx_118_36, zx_118_37, zx_118_38, zx_118_39, zx_118_41, zx_118_42, zx_118_44, zx_118_45, zx_118_46, zgI_119, zsI_119, zgI_120, zsI_120, zgI_121, zsI_121, zgI_122, zsI_122, zgI_123, zsI_123, zgI_124, zsI_124, zgI_125, zsI_125, zgI_126, zsI_126, zgI_127, zsI_127, zgI_128, zsI_128, zgI_129, zsI_129, zgI_130, zsI_130, zgI_131, zsI_131, zgI_132, zsI_132, zgI_133, zsI_133, zgI_134, zsI_134, zgI_135, zsI_135, zgI_136, zsI_136, zgI_137, zsI_137, zgI_139, zsI_139, zgI_140, zsI_140, zgI_141, zsI_141, zgI_142, zsI_142, zgI_143, zsI_143, zgI_144, zsI_144, zgI_145, zsI_145, zgI_146, zsI_146, zgI_147, zsI_147, zb_212_0, hg2, hix, hsg, e2]
      exact ⟨σ2, rfl, hW2, hK2⟩
  · have hq := (hv.2.2.2.1 x p hx hp).2.1
    rw [zmv_n _ _ (show x < 1000 by omega)] at hmv
    have he := zgk hq hx
    have hsg := (hN.2 _ he).2.1
    have hsl := zsg_le (t := t) he
    have hix : G.2.1 * G.2.2.2.1 x p + (x + 1) - 1 = G.2.1 * G.2.2.2.1 x p + x := by omega
    have e15 : G.2.1 * G.2.2.2.1 x p + x < 15 := by omega
    rw [zls_n (by omega)]
    generalize zsg G t (G.2.1 * G.2.2.2.1 x p + x) = s at *
    refine zS_ex (zS_of ze_212 ?_)
    by_cases e0 : s = 0
    · rw [zps_0 (by rw [e0]; decide)]
      simp (disch := first | assumption | omega) only [zn0, zn1, Option.bind_some, zm_ai, zm_al, zm_av, zm_opt, zm_fw, zE_l, zE_r, nI_add, pk_mul, pk_sub, pk_div, pk_rem, zrem, zpm1, zB_i0, zB_i1, zB_ok, zB_T, zB_F, nI_toInt, zT_sub, zT_neg, zT_le, zT_lt, nI_eq, zne1, zne2, zne9, ite_not, or_true, true_or, if_true, if_false, if_pos, if_neg, zw_R, zw_RL, zw_I, zF_R, zw_same, zw_cell, zw_ne, zF_at, zF_ne, zi_118, zx_118_0, zx_118_1, zx_118_2, zx_118_3, zx_118_7, zx_118_8, zx_118_9, zx_118_10, zx_118_11, zx_118_12, zx_118_13, zx_118_14, zx_118_15, zx_118_17, zx_118_18, zx_118_19, zx_118_21, zx_118_22, zx_118_24, zx_118_25, zx_118_30, zx_118_35, zx_118_36, zx_118_37, zx_118_38, zx_118_39, zx_118_41, zx_118_42, zx_118_44, zx_118_45, zx_118_46, zgI_119, zsI_119, zgI_120, zsI_120, zgI_121, zsI_121, zgI_122, zsI_122, zgI_123, zsI_123, zgI_124, zsI_124, zgI_125, zsI_125, zgI_126, zsI_126, zgI_127, zsI_127, zgI_128, zsI_128, zgI_129, zsI_129, zgI_130, zsI_130, zgI_131, zsI_131, zgI_132, zsI_132, zgI_133, zsI_133, zgI_134, zsI_134, zgI_135, zsI_135, zgI_136, zsI_136, zgI_137, zsI_137, zgI_139, zsI_139, zgI_140, zsI_140, zgI_141, zsI_141, zgI_142, zsI_142, zgI_143, zsI_143, zgI_144, zsI_144, zgI_145, zsI_145, zgI_146, zsI_146, zgI_147, zsI_147, zb_212_0, hmv, hg2, Int32.neg_neg, hix, hsg]
      exact ⟨σ, rfl, h, zKeep.rf _ _⟩
    · obtain ⟨σ2, e2, hW2, hK2⟩ := m_grows hF h hw (-nI s)
      rw [zps_n (zne_neg (fun q => e0 (by
        have := congrArg Int32.toInt q
        rw [nI_toInt (by omega), nI_toInt (by omega)] at this
        omega)))]
      simp (disch := first | assumption | omega) only [zn0, zn1, Option.bind_some, zm_ai, zm_al, zm_av, zm_opt, zm_fw, zE_l, zE_r, nI_add, pk_mul, pk_sub, pk_div, pk_rem, zrem, zpm1, zB_i0, zB_i1, zB_ok, zB_T, zB_F, nI_toInt, zT_sub, zT_neg, zT_le, zT_lt, nI_eq, zne1, zne2, zne9, ite_not, or_true, true_or, if_true, if_false, if_pos, if_neg, zw_R, zw_RL, zw_I, zF_R, zw_same, zw_cell, zw_ne, zF_at, zF_ne, zi_118, zx_118_0, zx_118_1, zx_118_2, zx_118_3, zx_118_7, zx_118_8, zx_118_9, zx_118_10, zx_118_11, zx_118_12, zx_118_13, zx_118_14, zx_118_15, zx_118_17, zx_118_18, zx_118_19, zx_118_21, zx_118_22, zx_118_24, zx_118_25, zx_118_30, zx_118_35, zx_118_36, zx_118_37, zx_118_38, zx_118_39, zx_118_41, zx_118_42, zx_118_44, zx_118_45, zx_118_46, zgI_119, zsI_119, zgI_120, zsI_120, zgI_121, zsI_121, zgI_122, zsI_122, zgI_123, zsI_123, zgI_124, zsI_124, zgI_125, zsI_125, zgI_126, zsI_126, zgI_127, zsI_127, zgI_128, zsI_128, zgI_129, zsI_129, zgI_130, zsI_130, zgI_131, zsI_131, zgI_132, zsI_132, zgI_133, zsI_133, zgI_134, zsI_134, zgI_135, zsI_135, zgI_136, zsI_136, zgI_137, zsI_137, zgI_139, zsI_139, zgI_140, zsI_140, zgI_141, zsI_141, zgI_142, zsI_142, zgI_143, zsI_143, zgI_144, zsI_144, zgI_145, zsI_145, zgI_146, zsI_146, zgI_147, zsI_147, zb_212_0, hmv, hg2, Int32.neg_neg, hix, hsg, e2]
      exact ⟨σ2, rfl, hW2, hK2⟩
theorem m_putsN {rs : List (List Int32)} {w : List Int32} (hF : zFix σ) (h1 : σ.1 135 1 = nI rs.length) (h3 : ∀ i, i < rs.length → zRu (σ.1 135) i (zr rs i)) (hl : rs.length < 15) (hr : ∀ j, j < rs.length → (zr rs j).length ≤ 16) (hd : zMW σ w) (hw : w.length ≤ 16) :
    ∃ σ', zM 214 [.ref 118, .int (nI rs.length)] zL σ = some (none, zL, σ') ∧ (∀ k, k < 3 → σ'.1 135 k = σ.1 135 k) ∧ (∀ i, i < rs.length + 1 → zRu (σ'.1 135) i (zr (rs ++ [w]) i)) ∧ zKeep zFMp σ σ' := by
  obtain ⟨d1, d2⟩ := hd
  refine zS_ex (zS_of ze_214 ?_)
  have hc := fun σ' => m_bring (σ := σ') (s := 144) (d := 135) (ns := 700) (nd := 258) rfl rfl (by decide) (by decide) (i := 0) (j := 18 + 16 * rs.length) (n := w.length) (by omega) (by omega) (Or.inl (by decide))
  simp (disch := first | assumption | omega) only [zn0, zn1, Option.bind_some, zm_ai, zm_al, zm_av, zm_opt, zm_fw, zE_l, zE_r, nI_add, pk_mul, pk_sub, pk_div, pk_rem, zrem, zpm1, zB_i0, zB_i1, zB_ok, zB_T, zB_F, nI_toInt, zT_sub, zT_neg, zT_le, zT_lt, nI_eq, zne1, zne2, zne9, ite_not, or_true, true_or, if_true, if_false, if_pos, if_neg, zw_R, zw_RL, zw_I, zF_R, zw_same, zw_cell, zw_ne, zF_at, zF_ne, zi_118, zx_118_0, zx_118_1, zx_118_2, zx_118_3, zx_118_7, zx_118_8, zx_118_9, zx_118_10, zx_118_11, zx_118_12, zx_118_13, zx_118_14, zx_118_15, zx_118_17, zx_118_18, zx_118_19, zx_118_21, zx_118_22, zx_118_24, zx_118_25, zx_118_30, zx_118_35, zx_118_36, zx_118_37, zx_118_38, zx_118_39, zx_118_41, zx_118_42, zx_118_44, zx_118_45, zx_118_46, zgI_119, zsI_119, zgI_120, zsI_120, zgI_121, zsI_121, zgI_122, zsI_122, zgI_123, zsI_123, zgI_124, zsI_124, zgI_125, zsI_125, zgI_126, zsI_126, zgI_127, zsI_127, zgI_128, zsI_128, zgI_129, zsI_129, zgI_130, zsI_130, zgI_131, zsI_131, zgI_132, zsI_132, zgI_133, zsI_133, zgI_134, zsI_134, zgI_135, zsI_135, zgI_136, zsI_136, zgI_137, zsI_137, zgI_139, zsI_139, zgI_140, zsI_140, zgI_141, zsI_141, zgI_142, zsI_142, zgI_143, zsI_143, zgI_144, zsI_144, zgI_145, zsI_145, zgI_146, zsI_146, zgI_147, zsI_147, zb_214_0, d1, hc]
  refine ⟨_, rfl, fun k hk => ?_, fun j hj => ⟨?_, fun k hk => ?_⟩, ?_⟩
  · rw [zF_at]
    rw [if_neg (by omega), zw_ne _ _ (Or.inr (by omega))]
  · rw [zr_snoc hj, zF_at]
    rw [if_neg (by omega)]
    by_cases e : j = rs.length
    · subst e; rw [if_pos rfl, zw_same]
    · rw [if_neg e, zw_ne _ _ (Or.inr (by omega))]
      exact (h3 j (by omega)).1
  · rw [zr_snoc hj] at hk ⊢
    rw [zF_at]
    by_cases e : j = rs.length
    · subst e
      rw [if_pos rfl] at hk ⊢
      rw [if_pos (by omega)]
      have := d2 k hk
      rw [show 0 + (18 + 16 * rs.length + k - (18 + 16 * rs.length)) = k by omega]
      exact this
    · rw [if_neg e] at hk ⊢
      have := hr j (by omega)
      rw [if_neg (by omega), zw_ne _ _ (Or.inr (by omega))]
      exact (h3 j (by omega)).2 k hk
  · exact ((zKeep.rf zFMp σ).wI rfl).wF fun k => rfl
theorem zrls_at {m j : Nat} (h : j < m) : zr (zrls G t m) j = zrl G t j := by
  unfold zr zrls
  rw [List.getD_eq_getElem?_getD, List.getElem?_map, List.getElem?_range h]
  rfl
theorem m_laysRules (hF : zFix σ) (hG : zMG σ G) (hv : zGv G) (hN : zMN σ G t) :
    ∃ σ', zM 211 [.ref 118] zL σ = some (none, zL, σ') ∧ zMR (σ'.1 135) (zrules G t) ∧ σ'.1 135 2 = zLeft (zsn G t) ∧ σ'.1 135 0 = σ.1 135 0 ∧ zKeep zFMd σ σ' := by
  refine zS_ex (zS_of ze_211 ?_)
  have v1 := hv.1
  have v2 := hv.2.1
  have v3 := hv.2.2.1
  have hRn := zRn hv
  have hs := hN.1
  generalize hR : G.2.2.2.2.length = R at *
  have keepG : ∀ {σ'}, zKeep zFMd σ σ' → zMG σ' G := fun hK => hG.keep hK ⟨rfl, rfl, rfl⟩ fun k => ⟨rfl, rfl, rfl, rfl⟩
  have keepN : ∀ {σ'}, zKeep zFMd σ σ' → zMN σ' G t := fun hK => hN.keep hK rfl fun k => ⟨rfl, rfl, rfl⟩
  have hrl16 : ∀ m, m ≤ R * G.1 → ∀ j, j < m → (zr (zrls G t m) j).length ≤ 16 := fun m hm j hj => by
    rw [zrls_at hj]
    have hj' : j < G.1 * R := by rw [Nat.mul_comm]; omega
    obtain ⟨a1, a2, a3⟩ := zedge hj'
    obtain ⟨l1, l2⟩ := zrels hv (r := j % R) (by omega)
    have := (zwt_ok (t := t) hv a2 _ l2).2.1
    unfold zrl
    rw [hR]
    omega
  simp (disch := first | assumption | omega) only [zn0, zn1, Option.bind_some, zm_ai, zm_al, zm_av, zm_opt, zm_fw, zE_l, zE_r, nI_add, pk_mul, pk_sub, pk_div, pk_rem, zrem, zpm1, zB_i0, zB_i1, zB_ok, zB_T, zB_F, nI_toInt, zT_sub, zT_neg, zT_le, zT_lt, nI_eq, zne1, zne2, zne9, ite_not, or_true, true_or, if_true, if_false, if_pos, if_neg, zw_R, zw_RL, zw_I, zF_R, zw_same, zw_cell, zw_ne, zF_at, zF_ne, zi_118, zx_118_0, zx_118_1, zx_118_2, zx_118_3, zx_118_7, zx_118_8, zx_118_9, zx_118_10, zx_118_11, zx_118_12, zx_118_13, zx_118_14, zx_118_15, zx_118_17, zx_118_18, zx_118_19, zx_118_21, zx_118_22, zx_118_24, zx_118_25, zx_118_30, zx_118_35, zx_118_36, zx_118_37, zx_118_38, zx_118_39, zx_118_41, zx_118_42, zx_118_44, zx_118_45, zx_118_46, zgI_119, zsI_119, zgI_120, zsI_120, zgI_121, zsI_121, zgI_122, zsI_122, zgI_123, zsI_123, zgI_124, zsI_124, zgI_125, zsI_125, zgI_126, zsI_126, zgI_127, zsI_127, zgI_128, zsI_128, zgI_129, zsI_129, zgI_130, zsI_130, zgI_131, zsI_131, zgI_132, zsI_132, zgI_133, zsI_133, zgI_134, zsI_134, zgI_135, zsI_135, zgI_136, zsI_136, zgI_137, zsI_137, zgI_139, zsI_139, zgI_140, zsI_140, zgI_141, zsI_141, zgI_142, zsI_142, zgI_143, zsI_143, zgI_144, zsI_144, zgI_145, zsI_145, zgI_146, zsI_146, zgI_147, zsI_147, zb_211_0, hs]
  refine zloop (fun p σ1 => (23, [(0, .ref 118), (1, .int (nI p))], [], zL, σ1, 0, 0)) (fun p σ1 => zMR (σ1.1 135) (zrls G t (R * p)) ∧ σ1.1 135 2 = zLeft (zsn G t) ∧ σ1.1 135 0 = σ.1 135 0 ∧ zKeep zFMd σ σ1) G.1 (fun p σ1 hp1 hI ih => ?_) (fun σ1 hI => ?_) 0 _ (by omega) ?_
  · obtain ⟨i1, i2, i3, hK⟩ := hI
    have hg1 := (keepG hK).1
    refine zW_of zg_211_23 ?_
    simp (disch := first | assumption | omega) only [zn0, zn1, Option.bind_some, zm_ai, zm_al, zm_av, zm_opt, zm_fw, zE_l, zE_r, nI_add, pk_mul, pk_sub, pk_div, pk_rem, zrem, zpm1, zB_i0, zB_i1, zB_ok, zB_T, zB_F, nI_toInt, zT_sub, zT_neg, zT_le, zT_lt, nI_eq, zne1, zne2, zne9, ite_not, or_true, true_or, if_true, if_false, if_pos, if_neg, zw_R, zw_RL, zw_I, zF_R, zw_same, zw_cell, zw_ne, zF_at, zF_ne, zi_118, zx_118_0, zx_118_1, zx_118_2, zx_118_3, zx_118_7, zx_118_8, zx_118_9, zx_118_10, zx_118_11, zx_118_12, zx_118_13, zx_118_14, zx_118_15, zx_118_17, zx_118_18, zx_118_19, zx_118_21, zx_118_22, zx_118_24, zx_118_25, zx_118_30, zx_118_35, zx_118_36, zx_118_37, zx_118_38, zx_118_39, zx_118_41, zx_118_42, zx_118_44, zx_118_45, zx_118_46, zgI_119, zsI_119, zgI_120, zsI_120, zgI_121, zsI_121, zgI_122, zsI_122, zgI_123, zsI_123, zgI_124, zsI_124, zgI_125, zsI_125, zgI_126, zsI_126, zgI_127, zsI_127, zgI_128, zsI_128, zgI_129, zsI_129, zgI_130, zsI_130, zgI_131, zsI_131, zgI_132, zsI_132, zgI_133, zsI_133, zgI_134, zsI_134, zgI_135, zsI_135, zgI_136, zsI_136, zgI_137, zsI_137, zgI_139, zsI_139, zgI_140, zsI_140, zgI_141, zsI_141, zgI_142, zsI_142, zgI_143, zsI_143, zgI_144, zsI_144, zgI_145, zsI_145, zgI_146, zsI_146, zgI_147, zsI_147, zb_211_23, hg1]
    refine zloop (fun r σ1 => (33, [(0, .ref 118), (1, .int (nI p)), (2, .int (nI r))], [], zL, σ1, 0, 0)) (fun r σ1 => zMR (σ1.1 135) (zrls G t (R * p + r)) ∧ σ1.1 135 2 = zLeft (zsn G t) ∧ σ1.1 135 0 = σ.1 135 0 ∧ zKeep zFMd σ σ1) R (fun r σ1 hr hI ih2 => ?_) (fun σ1 hI => ?_) 0 _ (by omega) ⟨i1, i2, i3, hK⟩
    · obtain ⟨i1, i2, i3, hK⟩ := hI
      have hg3 := (keepG hK).2.2.1
      rw [hR] at hg3
      have hm : R * p + r < R * G.1 := by
        have := zgk (n := G.1) (g := R) hp1 hr
        rw [Nat.mul_comm G.1 R] at this
        omega
      obtain ⟨l1, l2⟩ := zrels hv (r := r) (by omega)
      refine zW_of zg_211_33 ?_
      simp (disch := first | assumption | omega) only [zn0, zn1, Option.bind_some, zm_ai, zm_al, zm_av, zm_opt, zm_fw, zE_l, zE_r, nI_add, pk_mul, pk_sub, pk_div, pk_rem, zrem, zpm1, zB_i0, zB_i1, zB_ok, zB_T, zB_F, nI_toInt, zT_sub, zT_neg, zT_le, zT_lt, nI_eq, zne1, zne2, zne9, ite_not, or_true, true_or, if_true, if_false, if_pos, if_neg, zw_R, zw_RL, zw_I, zF_R, zw_same, zw_cell, zw_ne, zF_at, zF_ne, zi_118, zx_118_0, zx_118_1, zx_118_2, zx_118_3, zx_118_7, zx_118_8, zx_118_9, zx_118_10, zx_118_11, zx_118_12, zx_118_13, zx_118_14, zx_118_15, zx_118_17, zx_118_18, zx_118_19, zx_118_21, zx_118_22, zx_118_24, zx_118_25, zx_118_30, zx_118_35, zx_118_36, zx_118_37, zx_118_38, zx_118_39, zx_118_41, zx_118_42, zx_118_44, zx_118_45, zx_118_46, zgI_119, zsI_119, zgI_120, zsI_120, zgI_121, zsI_121, zgI_122, zsI_122, zgI_123, zsI_123, zgI_124, zsI_124, zgI_125, zsI_125, zgI_126, zsI_126, zgI_127, zsI_127, zgI_128, zsI_128, zgI_129, zsI_129, zgI_130, zsI_130, zgI_131, zsI_131, zgI_132, zsI_132, zgI_133, zsI_133, zgI_134, zsI_134, zgI_135, zsI_135, zgI_136, zsI_136, zgI_137, zsI_137, zgI_139, zsI_139, zgI_140, zsI_140, zgI_141, zsI_141, zgI_142, zsI_142, zgI_143, zsI_143, zgI_144, zsI_144, zgI_145, zsI_145, zgI_146, zsI_146, zgI_147, zsI_147, zb_211_33, hg3]
      have hwl := (zwt_ok (t := t) hv hp1 _ l2).2.1
      generalize hl : zr G.2.2.2.2 r = l at *
      refine zloop (fun k σ2 => (51, [(0, .ref 118), (1, .int (nI p)), (2, .int (nI r)), (3, .int (nI (zwt G t p (l.take k)).1)), (4, .int (nI k))], [], zL, σ2, 0, 0)) (fun k σ2 => zMW σ2 (zwt G t p (l.take k)).2 ∧ σ2.1 135 = σ1.1 135 ∧ zKeep zFMd σ σ2) l.length (fun k σ2 hk hI ih3 => ?_) (fun σ2 hI => ?_) 0 _ (by omega) ⟨(zMW_clear σ1).1, by rw [zw_cell _ _ (by decide)], hK.wI rfl⟩
      · obtain ⟨hW, hst, hK2⟩ := hI
        have hF2 := hK2.fix hF rfl
        have hG2 := keepG hK2
        have hN2 := keepN hK2
        obtain ⟨s1, s2⟩ := hG2.2.2.2.2 r (by omega)
        rw [hl] at s1 s2
        have hvk := s2 k hk
        have hlt := l2 _ (zat_mem hk)
        obtain ⟨w1, w2, w3⟩ := zwt_ok (t := t) hv hp1 (l.take k) fun v hv => l2 v (List.mem_of_mem_take hv)
        rw [List.length_take] at w2
        rw [zwt_take hk] at ih3
        generalize zwt G t p (l.take k) = s at *
        obtain ⟨σ3, e3, hW3, hK3⟩ := m_writes hF2 hG2 hv hN2 hW (by omega) w1 hlt
        have hK4 : zKeep zFMd σ σ3 := hK2.tr (hK3.mo fun x k q => by simp [zFMd, q])
        have hmv := m_goesBy (hK4.fix hF rfl) (keepG hK4) hv w1 hlt
        have hF3 := hK4.fix hF rfl
        have hvk3 : σ3.1 126 (8 * r + k) = zat l k := (hK3.i rfl).trans hvk
        have hi24 : 8 * r + k < 24 := by omega
        refine zW_of zg_211_51 ?_
        simp (disch := first | assumption | omega) only [zn0, zn1, Option.bind_some, zm_ai, zm_al, zm_av, zm_opt, zm_fw, zE_l, zE_r, nI_add, pk_mul, pk_sub, pk_div, pk_rem, zrem, zpm1, zB_i0, zB_i1, zB_ok, zB_T, zB_F, nI_toInt, zT_sub, zT_neg, zT_le, zT_lt, nI_eq, zne1, zne2, zne9, ite_not, or_true, true_or, if_true, if_false, if_pos, if_neg, zw_R, zw_RL, zw_I, zF_R, zw_same, zw_cell, zw_ne, zF_at, zF_ne, zi_118, zx_118_0, zx_118_1, zx_118_2, zx_118_3, zx_118_7, zx_118_8, zx_118_9, zx_118_10, zx_118_11, zx_118_12, zx_118_13, zx_118_14, zx_118_15, zx_118_17, zx_118_18, zx_118_19, zx_118_21, zx_118_22, zx_118_24, zx_118_25, zx_118_30, zx_118_35, zx_118_36, zx_118_37, zx_118_38, zx_118_39, zx_118_41, zx_118_42, zx_118_44, zx_118_45, zx_118_46, zgI_119, zsI_119, zgI_120, zsI_120, zgI_121, zsI_121, zgI_122, zsI_122, zgI_123, zsI_123, zgI_124, zsI_124, zgI_125, zsI_125, zgI_126, zsI_126, zgI_127, zsI_127, zgI_128, zsI_128, zgI_129, zsI_129, zgI_130, zsI_130, zgI_131, zsI_131, zgI_132, zsI_132, zgI_133, zsI_133, zgI_134, zsI_134, zgI_135, zsI_135, zgI_136, zsI_136, zgI_137, zsI_137, zgI_139, zsI_139, zgI_140, zsI_140, zgI_141, zsI_141, zgI_142, zsI_142, zgI_143, zsI_143, zgI_144, zsI_144, zgI_145, zsI_145, zgI_146, zsI_146, zgI_147, zsI_147, zb_211_51, s1, hvk, hvk3, e3, hmv]
        exact ih3 σ3 ⟨hW3, by rw [← hst]; exact funext fun i => hK3.i rfl, hK4⟩
      · obtain ⟨hW, hst, hK2⟩ := hI
        have hF2 := hK2.fix hF rfl
        have hG2 := keepG hK2
        obtain ⟨s1, s2⟩ := hG2.2.2.2.2 r (by omega)
        rw [hl] at s1
        rw [List.take_length] at hW
        have hlen : (zrls G t (R * p + r)).length = R * p + r := zrls_len _ _ _
        have hm1 := i1.1
        rw [hlen] at hm1
        obtain ⟨σ3, e3, hu1, hu2, hK3⟩ := m_putsN (rs := zrls G t (R * p + r)) hF2 (by rw [hst, hlen]; exact hm1) (by rw [hst]; exact i1.2) (by omega) (by rw [hlen]; exact hrl16 _ (by omega)) hW (by omega)
        rw [hlen] at e3 hu2
        have hst1 : σ2.1 135 1 = nI (R * p + r) := by rw [hst]; exact hm1
        have hst3 : σ3.1 135 1 = nI (R * p + r) := by rw [hu1 1 (by omega)]; exact hst1
        have hF3 := hK3.fix hF2 rfl
        rw [List.take_length]
        refine zW_of zg_211_51 ?_
        simp (disch := first | assumption | omega) only [zn0, zn1, Option.bind_some, zm_ai, zm_al, zm_av, zm_opt, zm_fw, zE_l, zE_r, nI_add, pk_mul, pk_sub, pk_div, pk_rem, zrem, zpm1, zB_i0, zB_i1, zB_ok, zB_T, zB_F, nI_toInt, zT_sub, zT_neg, zT_le, zT_lt, nI_eq, zne1, zne2, zne9, ite_not, or_true, true_or, if_true, if_false, if_pos, if_neg, zw_R, zw_RL, zw_I, zF_R, zw_same, zw_cell, zw_ne, zF_at, zF_ne, zi_118, zx_118_0, zx_118_1, zx_118_2, zx_118_3, zx_118_7, zx_118_8, zx_118_9, zx_118_10, zx_118_11, zx_118_12, zx_118_13, zx_118_14, zx_118_15, zx_118_17, zx_118_18, zx_118_19, zx_118_21, zx_118_22, zx_118_24, zx_118_25, zx_118_30, zx_118_35, zx_118_36, zx_118_37, zx_118_38, zx_118_39, zx_118_41, zx_118_42, zx_118_44, zx_118_45, zx_118_46, zgI_119, zsI_119, zgI_120, zsI_120, zgI_121, zsI_121, zgI_122, zsI_122, zgI_123, zsI_123, zgI_124, zsI_124, zgI_125, zsI_125, zgI_126, zsI_126, zgI_127, zsI_127, zgI_128, zsI_128, zgI_129, zsI_129, zgI_130, zsI_130, zgI_131, zsI_131, zgI_132, zsI_132, zgI_133, zsI_133, zgI_134, zsI_134, zgI_135, zsI_135, zgI_136, zsI_136, zgI_137, zsI_137, zgI_139, zsI_139, zgI_140, zsI_140, zgI_141, zsI_141, zgI_142, zsI_142, zgI_143, zsI_143, zgI_144, zsI_144, zgI_145, zsI_145, zgI_146, zsI_146, zgI_147, zsI_147, zb_211_51, s1, hst1, e3, hst3]
        refine ih2 _ ⟨⟨?_, fun i hi => ?_⟩, ?_, ?_, ?_⟩
        · rw [zw_same, zrls_len]
          rfl
        · rw [zrls_len] at hi
          have eq : zrls G t (R * p + (r + 1)) = zrls G t (R * p + r) ++ [(zwt G t p l).2] := by
            rw [show R * p + (r + 1) = R * p + r + 1 by omega, zrls_s]
            congr 2
            have := zrl_at (t := t) (p := p) (show r < G.2.2.2.2.length by omega)
            rw [hR, hl] at this
            exact this
          rw [eq]
          obtain ⟨g1, g2⟩ := hu2 i (by omega)
          exact ⟨by rw [zw_ne _ _ (Or.inr (by omega))]; exact g1, fun k hk => by rw [zw_ne _ _ (Or.inr (by omega))]; exact g2 k hk⟩
        · rw [zw_ne _ _ (Or.inr (by omega)), hu1 2 (by omega), hst]; exact i2
        · rw [zw_ne _ _ (Or.inr (by omega)), hu1 0 (by omega), hst]; exact i3
        · exact (hK2.tr (hK3.mo fun x k q => by simp only [zFMp] at q; simp [zFMd, q])).wI rfl
    · obtain ⟨i1, i2, i3, hK⟩ := hI
      have hg3 := (keepG hK).2.2.1
      rw [hR] at hg3
      refine zW_of zg_211_33 ?_
      simp (disch := first | assumption | omega) only [zn0, zn1, Option.bind_some, zm_ai, zm_al, zm_av, zm_opt, zm_fw, zE_l, zE_r, nI_add, pk_mul, pk_sub, pk_div, pk_rem, zrem, zpm1, zB_i0, zB_i1, zB_ok, zB_T, zB_F, nI_toInt, zT_sub, zT_neg, zT_le, zT_lt, nI_eq, zne1, zne2, zne9, ite_not, or_true, true_or, if_true, if_false, if_pos, if_neg, zw_R, zw_RL, zw_I, zF_R, zw_same, zw_cell, zw_ne, zF_at, zF_ne, zi_118, zx_118_0, zx_118_1, zx_118_2, zx_118_3, zx_118_7, zx_118_8, zx_118_9, zx_118_10, zx_118_11, zx_118_12, zx_118_13, zx_118_14, zx_118_15, zx_118_17, zx_118_18, zx_118_19, zx_118_21, zx_118_22, zx_118_24, zx_118_25, zx_118_30, zx_118_35, zx_118_36, zx_118_37, zx_118_38, zx_118_39, zx_118_41, zx_118_42, zx_118_44, zx_118_45, zx_118_46, zgI_119, zsI_119, zgI_120, zsI_120, zgI_121, zsI_121, zgI_122, zsI_122, zgI_123, zsI_123, zgI_124, zsI_124, zgI_125, zsI_125, zgI_126, zsI_126, zgI_127, zsI_127, zgI_128, zsI_128, zgI_129, zsI_129, zgI_130, zsI_130, zgI_131, zsI_131, zgI_132, zsI_132, zgI_133, zsI_133, zgI_134, zsI_134, zgI_135, zsI_135, zgI_136, zsI_136, zgI_137, zsI_137, zgI_139, zsI_139, zgI_140, zsI_140, zgI_141, zsI_141, zgI_142, zsI_142, zgI_143, zsI_143, zgI_144, zsI_144, zgI_145, zsI_145, zgI_146, zsI_146, zgI_147, zsI_147, zb_211_33, hg3]
      refine ih σ1 ⟨?_, i2, i3, hK⟩
      rw [Nat.mul_add, Nat.mul_one]
      exact i1
  · obtain ⟨i1, i2, i3, hK⟩ := hI
    have hg1 := (keepG hK).1
    refine zW_of zg_211_23 ?_
    simp (disch := first | assumption | omega) only [zn0, zn1, Option.bind_some, zm_ai, zm_al, zm_av, zm_opt, zm_fw, zE_l, zE_r, nI_add, pk_mul, pk_sub, pk_div, pk_rem, zrem, zpm1, zB_i0, zB_i1, zB_ok, zB_T, zB_F, nI_toInt, zT_sub, zT_neg, zT_le, zT_lt, nI_eq, zne1, zne2, zne9, ite_not, or_true, true_or, if_true, if_false, if_pos, if_neg, zw_R, zw_RL, zw_I, zF_R, zw_same, zw_cell, zw_ne, zF_at, zF_ne, zi_118, zx_118_0, zx_118_1, zx_118_2, zx_118_3, zx_118_7, zx_118_8, zx_118_9, zx_118_10, zx_118_11, zx_118_12, zx_118_13, zx_118_14, zx_118_15, zx_118_17, zx_118_18, zx_118_19, zx_118_21, zx_118_22, zx_118_24, zx_118_25, zx_118_30, zx_118_35, zx_118_36, zx_118_37, zx_118_38, zx_118_39, zx_118_41, zx_118_42, zx_118_44, zx_118_45, zx_118_46, zgI_119, zsI_119, zgI_120, zsI_120, zgI_121, zsI_121, zgI_122, zsI_122, zgI_123, zsI_123, zgI_124, zsI_124, zgI_125, zsI_125, zgI_126, zsI_126, zgI_127, zsI_127, zgI_128, zsI_128, zgI_129, zsI_129, zgI_130, zsI_130, zgI_131, zsI_131, zgI_132, zsI_132, zgI_133, zsI_133, zgI_134, zsI_134, zgI_135, zsI_135, zgI_136, zsI_136, zgI_137, zsI_137, zgI_139, zsI_139, zgI_140, zsI_140, zgI_141, zsI_141, zgI_142, zsI_142, zgI_143, zsI_143, zgI_144, zsI_144, zgI_145, zsI_145, zgI_146, zsI_146, zgI_147, zsI_147, zb_211_23, hg1]
    refine ⟨σ1, rfl, ?_, i2, i3, hK⟩
    unfold zrules
    rw [hR]
    exact i1
  · refine ⟨⟨?_, fun i hi => by cases hi⟩, zw_same _ _ _ _, ?_, ((zKeep.rf zFMd σ).wI rfl).wI rfl⟩
    · rw [zw_ne _ _ (Or.inr (by decide)), zw_same]; rfl
    · rw [zw_ne _ _ (Or.inr (by decide)), zw_ne _ _ (Or.inr (by decide))]
def zFMO (a k : Nat) : Bool := zFMd a k || zFML a k
theorem m_ordered (hF : zFix σ) (hG : zMG σ G) (hk : zGk G) {o : Nat} (ho : o < 3) :
    ∃ σ', zM 201 [.ref 118, .int (nI o)] zL σ = some (none, zL, σ') ∧ zMBk σ' G (zarr G o) ∧ zKeep zFMO σ σ' := by
  refine zS_ex (zS_of ze_201 ?_)
  simp (disch := first | assumption | omega) only [zn0, zn1, Option.bind_some, zm_ai, zm_al, zm_av, zm_opt, zm_fw, zE_l, zE_r, nI_add, pk_mul, pk_sub, pk_div, pk_rem, zrem, zpm1, zB_i0, zB_i1, zB_ok, zB_T, zB_F, nI_toInt, zT_sub, zT_neg, zT_le, zT_lt, nI_eq, zne1, zne2, zne9, ite_not, or_true, true_or, if_true, if_false, if_pos, if_neg, zw_R, zw_RL, zw_I, zF_R, zw_same, zw_cell, zw_ne, zF_at, zF_ne, zi_118, zx_118_0, zx_118_1, zx_118_2, zx_118_3, zx_118_7, zx_118_8, zx_118_9, zx_118_10, zx_118_11, zx_118_12, zx_118_13, zx_118_14, zx_118_15, zx_118_17, zx_118_18, zx_118_19, zx_118_21, zx_118_22, zx_118_24, zx_118_25, zx_118_30, zx_118_35, zx_118_36, zx_118_37, zx_118_38, zx_118_39, zx_118_41, zx_118_42, zx_118_44, zx_118_45, zx_118_46, zgI_119, zsI_119, zgI_120, zsI_120, zgI_121, zsI_121, zgI_122, zsI_122, zgI_123, zsI_123, zgI_124, zsI_124, zgI_125, zsI_125, zgI_126, zsI_126, zgI_127, zsI_127, zgI_128, zsI_128, zgI_129, zsI_129, zgI_130, zsI_130, zgI_131, zsI_131, zgI_132, zsI_132, zgI_133, zsI_133, zgI_134, zsI_134, zgI_135, zsI_135, zgI_136, zsI_136, zgI_137, zsI_137, zgI_139, zsI_139, zgI_140, zsI_140, zgI_141, zsI_141, zgI_142, zsI_142, zgI_143, zsI_143, zgI_144, zsI_144, zgI_145, zsI_145, zgI_146, zsI_146, zgI_147, zsI_147, zb_201_0]
  refine zloop (fun p σ1 => (2, [(0, .ref 118), (1, .int (nI o)), (2, .int (nI p))], [], zL, σ1, 0, 0)) (fun p σ1 => zKeep zFMO σ σ1) 258 (fun p σ1 hp hK ih => ?_) (fun σ1 hK => ?_) 0 _ (by omega) (zKeep.rf _ _)
  · have hF1 := hK.fix hF rfl
    refine zW_of zg_201_2 ?_
    simp (disch := first | assumption | omega) only [zn0, zn1, Option.bind_some, zm_ai, zm_al, zm_av, zm_opt, zm_fw, zE_l, zE_r, nI_add, pk_mul, pk_sub, pk_div, pk_rem, zrem, zpm1, zB_i0, zB_i1, zB_ok, zB_T, zB_F, nI_toInt, zT_sub, zT_neg, zT_le, zT_lt, nI_eq, zne1, zne2, zne9, ite_not, or_true, true_or, if_true, if_false, if_pos, if_neg, zw_R, zw_RL, zw_I, zF_R, zw_same, zw_cell, zw_ne, zF_at, zF_ne, zi_118, zx_118_0, zx_118_1, zx_118_2, zx_118_3, zx_118_7, zx_118_8, zx_118_9, zx_118_10, zx_118_11, zx_118_12, zx_118_13, zx_118_14, zx_118_15, zx_118_17, zx_118_18, zx_118_19, zx_118_21, zx_118_22, zx_118_24, zx_118_25, zx_118_30, zx_118_35, zx_118_36, zx_118_37, zx_118_38, zx_118_39, zx_118_41, zx_118_42, zx_118_44, zx_118_45, zx_118_46, zgI_119, zsI_119, zgI_120, zsI_120, zgI_121, zsI_121, zgI_122, zsI_122, zgI_123, zsI_123, zgI_124, zsI_124, zgI_125, zsI_125, zgI_126, zsI_126, zgI_127, zsI_127, zgI_128, zsI_128, zgI_129, zsI_129, zgI_130, zsI_130, zgI_131, zsI_131, zgI_132, zsI_132, zgI_133, zsI_133, zgI_134, zsI_134, zgI_135, zsI_135, zgI_136, zsI_136, zgI_137, zsI_137, zgI_139, zsI_139, zgI_140, zsI_140, zgI_141, zsI_141, zgI_142, zsI_142, zgI_143, zsI_143, zgI_144, zsI_144, zgI_145, zsI_145, zgI_146, zsI_146, zgI_147, zsI_147, zb_201_2]
    exact ih _ (hK.wI rfl)
  · have hF1 := hK.fix hF rfl
    have hK2 : zKeep zFMO σ (zm_wI σ1 135 0 (nI o)) := hK.wI rfl
    have keepG : ∀ {σ'}, zKeep zFMO σ σ' → zMG σ' G := fun hK => hG.keep hK ⟨rfl, rfl, rfl⟩ fun k => ⟨rfl, rfl, rfl, rfl⟩
    obtain ⟨σ3, e3, hT3, hN3, hK3⟩ := m_laysTree (σ := zm_wI σ1 135 0 (nI o)) hF1 (keepG hK2) hk ho (zw_same _ _ _ _)
    have hK3' : zKeep zFMO σ σ3 := hK2.tr (hK3.mo fun x k q => by simp [zFMO, q])
    obtain ⟨σ4, e4, hR4, hL4, h04, hK4⟩ := m_laysRules (hK3'.fix hF rfl) (keepG hK3') hk.1 hN3
    have hK4' : zKeep zFMO σ σ4 := hK3'.tr (hK4.mo fun x k q => by simp [zFMO, q])
    refine zW_of zg_201_2 ?_
    simp (disch := first | assumption | omega) only [zn0, zn1, Option.bind_some, zm_ai, zm_al, zm_av, zm_opt, zm_fw, zE_l, zE_r, nI_add, pk_mul, pk_sub, pk_div, pk_rem, zrem, zpm1, zB_i0, zB_i1, zB_ok, zB_T, zB_F, nI_toInt, zT_sub, zT_neg, zT_le, zT_lt, nI_eq, zne1, zne2, zne9, ite_not, or_true, true_or, if_true, if_false, if_pos, if_neg, zw_R, zw_RL, zw_I, zF_R, zw_same, zw_cell, zw_ne, zF_at, zF_ne, zi_118, zx_118_0, zx_118_1, zx_118_2, zx_118_3, zx_118_7, zx_118_8, zx_118_9, zx_118_10, zx_118_11, zx_118_12, zx_118_13, zx_118_14, zx_118_15, zx_118_17, zx_118_18, zx_118_19, zx_118_21, zx_118_22, zx_118_24, zx_118_25, zx_118_30, zx_118_35, zx_118_36, zx_118_37, zx_118_38, zx_118_39, zx_118_41, zx_118_42, zx_118_44, zx_118_45, zx_118_46, zgI_119, zsI_119, zgI_120, zsI_120, zgI_121, zsI_121, zgI_122, zsI_122, zgI_123, zsI_123, zgI_124, zsI_124, zgI_125, zsI_125, zgI_126, zsI_126, zgI_127, zsI_127, zgI_128, zsI_128, zgI_129, zsI_129, zgI_130, zsI_130, zgI_131, zsI_131, zgI_132, zsI_132, zgI_133, zsI_133, zgI_134, zsI_134, zgI_135, zsI_135, zgI_136, zsI_136, zgI_137, zsI_137, zgI_139, zsI_139, zgI_140, zsI_140, zgI_141, zsI_141, zgI_142, zsI_142, zgI_143, zsI_143, zgI_144, zsI_144, zgI_145, zsI_145, zgI_146, zsI_146, zgI_147, zsI_147, zb_201_2, e3, e4]
    refine ⟨σ4, rfl, ⟨hT3.keep hK4 rfl fun k => ⟨rfl, rfl, rfl, rfl, rfl⟩, hN3.keep hK4 rfl fun k => ⟨rfl, rfl, rfl⟩, ?_, hL4, hR4⟩, hK4'⟩
    rw [h04, hK3.i rfl, zw_same]
    rfl
/-- the class -/
def zFA (a k : Nat) : Bool := zFK a k || zFN a k || zFT a k || (a == 19 && k == 3)
theorem c_arrange {π : Nat → Nat} (hF : zFix σ) (ha : zGo a) (h4 : σ.2.2 19 4 = some a) (hG : zCG σ a G) (hk : zGk G) (hp : zPi σ π) {o : Nat} (ho : o < 3) :
    ∃ σ', zM 51 [.ref 19, .int (nI o)] zL σ = some (none, zL, σ') ∧ zCB σ' G (zarr G o) ∧ zKeep zFA σ σ' := by
  obtain ⟨hv, htr, hn, hg⟩ := id hk
  have hge := ha.ge
  obtain ⟨t1, t2, t3⟩ := ztree_ok hv htr (by omega) o
  have zFA_g : ∀ {b k : Nat}, 80 ≤ b → zFA b k = false := fun {b k} hb => by
    have hb19 : b ≠ 19 := by omega
    simp [zFA, zFK_lo (b := b) (k := k) (by omega), zFN_g hb, zFT_g hb, hb19]
  have keepG : ∀ {σ'}, zKeep zFA σ σ' → zCG σ' a G := fun hK => hG.keep hv hK (fun k _ => zFA_g (by omega)) (fun b k hb _ => zFA_g (by omega))
  have keep4 : ∀ {σ'}, zKeep zFA σ σ' → σ'.2.2 19 4 = some a := fun hK => (hK.r rfl).trans h4
  have keepP : ∀ {σ'}, zKeep zFA σ σ' → zPi σ' π := fun hK => ⟨fun i hi => (hK.r (by
    simp only [zFA, zFK, zFD, zFR, zFW, zFN, zFT, Bool.or_eq_false_iff, Bool.and_eq_false_iff, decide_eq_false_iff_not, beq_eq_false_iff_ne]
    omega)).trans (hp.1 i hi), hp.2⟩
  have hK1 : zKeep zFA σ (zm_wI σ 19 3 (nI o)) := (zKeep.rf _ _).wI rfl
  obtain ⟨σ2, e2, hC2, hK2⟩ := c_plant (σ := zm_wI σ 19 3 (nI o)) hF
  have hK2' : zKeep zFA σ σ2 := hK1.tr (hK2.mo fun x k q => by simp [zFA, q])
  have hF2 := hK2'.fix hF rfl
  have h42 := keep4 hK2'
  have fin : ∀ σ3, zCT σ3 (ztree G o) → zKeep zFT σ2 σ3 → ∃ σ4 σ5, zM 58 [.ref 20, .ref a] zL σ3 = some (none, zL, σ4) ∧ zM 63 [.ref 30, .ref a, .ref 20] zL σ4 = some (none, zL, σ5) ∧ zFix σ3 ∧ σ3.2.2 19 4 = some a ∧ zFix σ4 ∧ σ4.2.2 19 4 = some a ∧ zCB σ5 G (zarr G o) ∧ zKeep zFA σ σ5 := by
    intro σ3 hC3 hK3
    have hK3' : zKeep zFA σ σ3 := hK2'.tr (hK3.mo fun x k q => by simp [zFA, q])
    obtain ⟨σ4, e4, hN4, hK4⟩ := c_nameEdges (hK3'.fix hF rfl) ha (keepG hK3') hv hC3 t1 t2
    have hK4' : zKeep zFA σ σ4 := hK3'.tr (hK4.mo fun x k q => by simp [zFA, q])
    obtain ⟨σ5, e5, hR5, hL5, hK5⟩ := c_rmake (hK4'.fix hF rfl) ha (keepG hK4') hv hN4 (keepP hK4')
    have hK5' : zKeep zFA σ σ5 := hK4'.tr (hK5.mo fun x k q => by simp [zFA, q])
    refine ⟨σ4, σ5, e4, e5, hK3'.fix hF rfl, keep4 hK3', hK4'.fix hF rfl, keep4 hK4', ⟨(hC3.keep hK4 rfl fun k => ⟨rfl, rfl, rfl, rfl, rfl⟩).keep hK5 rfl fun k => ⟨rfl, rfl, rfl, rfl, rfl⟩, hN4.keep hK5 rfl fun k => ⟨rfl, rfl, rfl⟩, ⟨π, hR5⟩, hL5, ?_⟩, hK5'⟩
    rw [hK5.i rfl, hK4.i rfl, hK3.i rfl, hK2.i rfl, zw_same]
    rfl
  refine zS_ex (zS_of ze_51 ?_)
  have ho3 : o = 0 ∨ o = 1 ∨ o = 2 := by omega
  rcases ho3 with rfl | rfl | rfl
  · obtain ⟨σ3, e3, c3, hK3⟩ := c_growBroad (lt := 0) (Or.inl rfl) hF2 ha (keepG hK2') hv hC2 (zTi.zero (by omega))
    obtain ⟨σ4, σ5, e4, e5, f1, f2, f3, f4, hB, hK5⟩ := fin σ3 c3 hK3
    simp (disch := first | assumption | omega) only [zn0, zn1, Option.bind_some, zm_ai, zm_al, zm_av, zm_opt, zm_fw, zE_l, zE_r, nI_add, pk_mul, pk_sub, pk_div, pk_rem, zrem, zpm1, zB_i0, zB_i1, zB_ok, zB_T, zB_F, nI_toInt, zT_sub, zT_neg, zT_le, zT_lt, nI_eq, zne1, zne2, zne9, ite_not, or_true, true_or, if_true, if_false, if_pos, if_neg, zw_R, zw_RL, zw_I, zF_R, zw_same, zw_cell, zw_ne, zF_at, zF_ne, zi_0, zi_1, zi_10, zi_17, zi_19, zi_20, zi_30, zi_48, zi_50, zi_52, zi_57, zi_59, zi_80, zi_93, zi_106, zi_110, zi_114, zx_0_0, zx_0_1, zx_0_2, zx_0_3, zx_0_4, zx_0_5, zx_0_6, zx_0_7, zx_0_8, zx_0_9, zx_0_10, zx_1_0, zx_1_1, zx_2_0, zx_2_1, zx_2_2, zx_2_3, zx_2_4, zx_2_5, zx_10_0, zx_10_1, zx_11_0, zx_11_1, zx_11_2, zx_11_3, zx_17_0, zx_19_0, zx_19_1, zx_19_2, zx_20_0, zx_20_1, zx_20_3, zx_20_4, zx_20_5, zx_20_6, zx_20_7, zx_20_8, zx_20_9, zx_30_0, zx_30_1, zx_30_4, zx_30_5, zx_48_0, zx_50_0, zx_52_0, zx_52_1, zx_52_2, zx_56_0, zx_56_1, zx_56_2, zx_57_0, zx_59_0, zx_80_3, zx_80_4, zx_80_5, zx_81_0, zx_81_1, zx_81_2, zx_81_3, zx_81_4, zx_81_5, zx_88_0, zx_88_1, zx_88_2, zx_93_3, zx_93_4, zx_93_5, zx_94_0, zx_94_1, zx_94_2, zx_94_3, zx_94_4, zx_94_5, zx_101_0, zx_101_1, zx_101_2, zx_106_0, zx_106_1, zx_106_2, zx_110_0, zx_110_1, zx_110_2, zx_114_0, zx_114_1, zx_114_2, zgI_9, zsI_9, zgI_16, zsI_16, zgI_18, zsI_18, zgI_21, zsI_21, zgI_22, zsI_22, zgI_23, zsI_23, zgI_24, zsI_24, zgI_25, zsI_25, zgI_26, zsI_26, zgI_27, zsI_27, zgI_28, zsI_28, zgI_29, zsI_29, zgI_47, zsI_47, zgI_49, zsI_49, zgI_51, zsI_51, zgI_53, zsI_53, zgI_54, zsI_54, zgI_55, zsI_55, zgI_58, zsI_58, zgI_76, zsI_76, zgI_79, zsI_79, zb_51_0, h4, e2, not_false, not_true, h42, e3, f2, e4, f4, e5]
    exact ⟨σ5, rfl, hB, hK5⟩
  · obtain ⟨σ3, e3, c3, hK3⟩ := c_growBroad (lt := 1) (Or.inr rfl) hF2 ha (keepG hK2') hv hC2 (zTi.zero (by omega))
    obtain ⟨σ4, σ5, e4, e5, f1, f2, f3, f4, hB, hK5⟩ := fin σ3 c3 hK3
    simp (disch := first | assumption | omega) only [zn0, zn1, Option.bind_some, zm_ai, zm_al, zm_av, zm_opt, zm_fw, zE_l, zE_r, nI_add, pk_mul, pk_sub, pk_div, pk_rem, zrem, zpm1, zB_i0, zB_i1, zB_ok, zB_T, zB_F, nI_toInt, zT_sub, zT_neg, zT_le, zT_lt, nI_eq, zne1, zne2, zne9, ite_not, or_true, true_or, if_true, if_false, if_pos, if_neg, zw_R, zw_RL, zw_I, zF_R, zw_same, zw_cell, zw_ne, zF_at, zF_ne, zi_0, zi_1, zi_10, zi_17, zi_19, zi_20, zi_30, zi_48, zi_50, zi_52, zi_57, zi_59, zi_80, zi_93, zi_106, zi_110, zi_114, zx_0_0, zx_0_1, zx_0_2, zx_0_3, zx_0_4, zx_0_5, zx_0_6, zx_0_7, zx_0_8, zx_0_9, zx_0_10, zx_1_0, zx_1_1, zx_2_0, zx_2_1, zx_2_2, zx_2_3, zx_2_4, zx_2_5, zx_10_0, zx_10_1, zx_11_0, zx_11_1, zx_11_2, zx_11_3, zx_17_0, zx_19_0, zx_19_1, zx_19_2, zx_20_0, zx_20_1, zx_20_3, zx_20_4, zx_20_5, zx_20_6, zx_20_7, zx_20_8, zx_20_9, zx_30_0, zx_30_1, zx_30_4, zx_30_5, zx_48_0, zx_50_0, zx_52_0, zx_52_1, zx_52_2, zx_56_0, zx_56_1, zx_56_2, zx_57_0, zx_59_0, zx_80_3, zx_80_4, zx_80_5, zx_81_0, zx_81_1, zx_81_2, zx_81_3, zx_81_4, zx_81_5, zx_88_0, zx_88_1, zx_88_2, zx_93_3, zx_93_4, zx_93_5, zx_94_0, zx_94_1, zx_94_2, zx_94_3, zx_94_4, zx_94_5, zx_101_0, zx_101_1, zx_101_2, zx_106_0, zx_106_1, zx_106_2, zx_110_0, zx_110_1, zx_110_2, zx_114_0, zx_114_1, zx_114_2, zgI_9, zsI_9, zgI_16, zsI_16, zgI_18, zsI_18, zgI_21, zsI_21, zgI_22, zsI_22, zgI_23, zsI_23, zgI_24, zsI_24, zgI_25, zsI_25, zgI_26, zsI_26, zgI_27, zsI_27, zgI_28, zsI_28, zgI_29, zsI_29, zgI_47, zsI_47, zgI_49, zsI_49, zgI_51, zsI_51, zgI_53, zsI_53, zgI_54, zsI_54, zgI_55, zsI_55, zgI_58, zsI_58, zgI_76, zsI_76, zgI_79, zsI_79, zb_51_0, h4, e2, not_false, not_true, h42, e3, f2, e4, f4, e5]
    exact ⟨σ5, rfl, hB, hK5⟩
  · obtain ⟨σ3, e3, c3, hK3⟩ := c_growDeep hF2 ha (keepG hK2') hk hC2
    obtain ⟨σ4, σ5, e4, e5, f1, f2, f3, f4, hB, hK5⟩ := fin σ3 c3 hK3
    simp (disch := first | assumption | omega) only [zn0, zn1, Option.bind_some, zm_ai, zm_al, zm_av, zm_opt, zm_fw, zE_l, zE_r, nI_add, pk_mul, pk_sub, pk_div, pk_rem, zrem, zpm1, zB_i0, zB_i1, zB_ok, zB_T, zB_F, nI_toInt, zT_sub, zT_neg, zT_le, zT_lt, nI_eq, zne1, zne2, zne9, ite_not, or_true, true_or, if_true, if_false, if_pos, if_neg, zw_R, zw_RL, zw_I, zF_R, zw_same, zw_cell, zw_ne, zF_at, zF_ne, zi_0, zi_1, zi_10, zi_17, zi_19, zi_20, zi_30, zi_48, zi_50, zi_52, zi_57, zi_59, zi_80, zi_93, zi_106, zi_110, zi_114, zx_0_0, zx_0_1, zx_0_2, zx_0_3, zx_0_4, zx_0_5, zx_0_6, zx_0_7, zx_0_8, zx_0_9, zx_0_10, zx_1_0, zx_1_1, zx_2_0, zx_2_1, zx_2_2, zx_2_3, zx_2_4, zx_2_5, zx_10_0, zx_10_1, zx_11_0, zx_11_1, zx_11_2, zx_11_3, zx_17_0, zx_19_0, zx_19_1, zx_19_2, zx_20_0, zx_20_1, zx_20_3, zx_20_4, zx_20_5, zx_20_6, zx_20_7, zx_20_8, zx_20_9, zx_30_0, zx_30_1, zx_30_4, zx_30_5, zx_48_0, zx_50_0, zx_52_0, zx_52_1, zx_52_2, zx_56_0, zx_56_1, zx_56_2, zx_57_0, zx_59_0, zx_80_3, zx_80_4, zx_80_5, zx_81_0, zx_81_1, zx_81_2, zx_81_3, zx_81_4, zx_81_5, zx_88_0, zx_88_1, zx_88_2, zx_93_3, zx_93_4, zx_93_5, zx_94_0, zx_94_1, zx_94_2, zx_94_3, zx_94_4, zx_94_5, zx_101_0, zx_101_1, zx_101_2, zx_106_0, zx_106_1, zx_106_2, zx_110_0, zx_110_1, zx_110_2, zx_114_0, zx_114_1, zx_114_2, zgI_9, zsI_9, zgI_16, zsI_16, zgI_18, zsI_18, zgI_21, zsI_21, zgI_22, zsI_22, zgI_23, zsI_23, zgI_24, zsI_24, zgI_25, zsI_25, zgI_26, zsI_26, zgI_27, zsI_27, zgI_28, zsI_28, zgI_29, zsI_29, zgI_47, zsI_47, zgI_49, zsI_49, zgI_51, zsI_51, zgI_53, zsI_53, zgI_54, zsI_54, zgI_55, zsI_55, zgI_58, zsI_58, zgI_76, zsI_76, zgI_79, zsI_79, zb_51_0, h4, e2, not_false, not_true, h42, e3, f2, e4, f4, e5]
    exact ⟨σ5, rfl, hB, hK5⟩
end ZAR
