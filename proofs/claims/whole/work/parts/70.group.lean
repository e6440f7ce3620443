/-! the calls fault and group -/
theorem zpg_lt {l : List Int32} {n : Nat} (hn : n ≤ 5) (hn1 : 1 ≤ n) : ∀ (j x p : Nat) (P : Nat → Nat), p ≤ l.length → ∀ {q : Nat}, zpg l n j x p P = .inl q → q ≤ l.length + 6
  | 0, x, p, P, hp, q, e => by rw [zpg] at e; cases e
  | j + 1, x, p, P, hp, q, e => by
    have hs := zsk_le hp
    by_cases h1 : zych l (zsk l p) = 97 + x
    · by_cases h2 : zfg l n (zsk l p + 1) = n
      · rw [zpg, zif_t h1, zif_t h2] at e
        exact zpg_lt hn hn1 j (x + 1) _ _ (zfg_end h2 hn1) e
      · rw [zpg, zif_t h1, zif_f h2] at e
        cases e
        have : zfg l n (zsk l p + 1) ≤ n := (zft_go (P := zygd l n (zsk l p + 1)) (Nat.zero_le n)).2.1
        omega
    · rw [zpg, zif_f h1] at e
      cases e
theorem zpr_lt {l : List Int32} {G : zG} : ∀ (j p : Nat) (rs : List (List Int32)), p ≤ l.length → (∀ {q : Nat}, zpr l G j p rs = .inl q → q ≤ l.length + 9) ∧ ∀ {q : Nat} {rs' : List (List Int32)}, zpr l G j p rs = .inr (q, rs') → q ≤ l.length
  | 0, p, rs, hp => by
    rw [zpr]
    exact ⟨fun e => (by cases e), fun e => by cases e; exact hp⟩
  | j + 1, p, rs, hp => by
    have hs := zsk_le hp
    have hk := zylc_ok (l := l) (g := G.2.1) (q := zsk l p + 1)
    by_cases h1 : zych l (zsk l p) = 61
    · have hlt : zsk l p < l.length := zych_lt (by omega)
      have hend := zylc_end (l := l) (g := G.2.1) (q := zsk l p + 1) (by omega)
      rw [zpr, zif_t h1]
      by_cases h2 : zil l (zsk l p + 1 + zylc l G.2.1 (zsk l p + 1)) ∨ zylc l G.2.1 (zsk l p + 1) = 0
      · rw [zif_t h2]
        exact ⟨fun e => by cases e; omega, fun e => (by cases e)⟩
      · rw [zif_f h2]
        by_cases h3 : zylv G (zwd l (zsk l p + 1) (zylc l G.2.1 (zsk l p + 1)))
        · rw [zif_t h3]
          exact zpr_lt j _ _ hend
        · rw [zif_f h3]
          exact ⟨fun e => by cases e; omega, fun e => (by cases e)⟩
    · rw [zpr, zif_f h1]
      exact ⟨fun e => (by cases e), fun e => by cases e; exact hs.2⟩
theorem zpe_lt {l : List Int32} {n g : Nat} {P : Nat → Nat} {p : Nat} {rs : List (List Int32)} (hp : p ≤ l.length) {q : Nat} (e : zpe l n g P p rs = .inl q) : q ≤ l.length := by
  have hs := zsk_le hp
  by_cases h1 : zsk l p < l.length
  · rw [zpe, zif_t h1] at e
    cases e
    exact hs.2
  · by_cases h2 : zTr (zgr l n g P rs)
    · rw [zpe, zif_f h1, zif_t h2] at e
      cases e
    · rw [zpe, zif_f h1, zif_f h2] at e
      cases e
      exact Nat.le_refl _
theorem zpa_lt {l : List Int32} (hl : l.length ≤ 60) {q : Nat} (e : zpa l = .inl q) : q < 1000 := by
  have hs := zsk_le (l := l) (p := 0) (Nat.zero_le _)
  by_cases h1 : zych l (zsk l 0) = 97
  · have hc : zcnt l (zsk l 0 + 1) ≤ 5 := (zft_go (Nat.zero_le 5)).2.1
    by_cases h2 : zcnt l (zsk l 0 + 1) < 2
    · rw [zpa, zif_t h1, zif_t h2] at e
      cases e
      omega
    · rw [zpa, zif_t h1, zif_f h2] at e
      cases e1 : zpg l (zcnt l (zsk l 0 + 1)) 3 0 (zsk l 0) (fun _ => 0) with
      | inl q' =>
        rw [e1] at e
        cases e
        have := zpg_lt hc (by omega) _ _ _ _ hs.2 e1
        omega
      | inr t =>
        obtain ⟨p, g, P⟩ := t
        rw [e1] at e
        have hp := (zpg_ok 3 0 _ _ (by omega) hs.2 (fun y hy => by omega) e1).2.2.1
        have e' : zypt l (zcnt l (zsk l 0 + 1)) g P (zpr l (zgr l (zcnt l (zsk l 0 + 1)) g P []) 3 p []) = .inl q := e
        have hz := zpr_lt (l := l) (G := zgr l (zcnt l (zsk l 0 + 1)) g P []) 3 p [] hp
        cases e2 : zpr l (zgr l (zcnt l (zsk l 0 + 1)) g P []) 3 p [] with
        | inl q' =>
          rw [e2] at e'
          cases e'
          have := hz.1 e2
          omega
        | inr t =>
          obtain ⟨p', rs⟩ := t
          rw [e2] at e'
          have := zpe_lt (hz.2 e2) e'
          omega
  · rw [zpa, zif_f h1] at e
    cases e
    omega
section ZGP
variable {σ σ' : zm_Sig} {a b : Nat} {G : zG} {ds : List zDd} {ks : zKs} {R T : zRo} {K : zK}
theorem zGo.other (ha : zGo a) : zGo (173 - a) := by
  unfold zGo at ha ⊢
  omega
theorem zF33_cls (hb : zGo b) (hK : zKeep (zF33 b) σ σ') : zKeep zCls σ σ' := hK.mo fun x k q => by
  have := zF33_t q
  have hb' : b = 80 ∨ b = 93 := hb
  simp only [zCls, decide_eq_true_eq]
  omega
theorem zC.spare (h : zC σ a R T K G ds ks) (hV : zVk G ds ks) (hK : zKeep (zF33 (173 - a)) σ σ') : zC σ' a R T K G ds ks := by
  have ha := h.2.2.2.2.1
  refine h.keep hV hK (zF33_fix ha.other h.1 hK) fun x k q => ?_
  have := zF33_t q
  unfold zGo at ha
  omega
theorem zF90_msc (hK : zKeep zF90 σ σ') : zKeep zMsc σ σ' := hK.mo fun x k q => by
  simp only [zF90, Bool.or_eq_true, Bool.and_eq_true, decide_eq_true_eq, beq_iff_eq] at q
  simp only [zMsc, Bool.or_eq_true, Bool.and_eq_true, decide_eq_true_eq, beq_iff_eq]
  omega
theorem k_fault (r : Int32) (h : zInv σ) : zCallV 32 189 [.int r] σ := by
  obtain ⟨a, R, T, K, G, ds, ks, hC, hM, hV⟩ := h
  obtain ⟨hF, -, hR, -⟩ := id hC
  rcases z_c4 r with hb | ⟨r, hr, rfl⟩
  · refine zCallV.of hV hV hM (v := .int (-nI 1)) (zCo.same hC (zS_eq (zS_of ze_32 ?_))) fun σ1 hM1 => zMo.same hM1 (zS_eq (zS_of ze_189 ?_))
    · simp (disch := first | assumption | omega) only [zn0, zn1, Option.bind_some, zm_ai, zm_al, zm_av, zm_opt, zm_fw, zE_l, zE_r, nI_add, pk_mul, pk_sub, pk_div, pk_rem, zrem, zpm1, zB_i0, zB_i1, zB_ok, zB_T, zB_F, nI_toInt, zT_sub, zT_neg, zT_le, zT_lt, nI_eq, zne1, zne2, zne9, ite_not, or_true, true_or, if_true, if_false, if_pos, if_neg, zw_R, zw_RL, zw_I, zF_R, zw_same, zw_cell, zw_ne, zF_at, zF_ne, ↓zib_0, ↓zib_1, ↓zib_10, ↓zib_17, ↓zib_19, ↓zib_20, ↓zib_30, ↓zib_48, ↓zib_50, ↓zib_52, ↓zib_57, ↓zib_59, ↓zib_80, ↓zib_93, ↓zib_106, ↓zib_110, ↓zib_114, ↓zxb_0_0, ↓zxb_0_1, ↓zxb_0_2, ↓zxb_0_3, ↓zxb_0_4, ↓zxb_0_5, ↓zxb_0_6, ↓zxb_0_7, ↓zxb_0_8, ↓zxb_0_9, ↓zxb_0_10, ↓zxb_1_0, ↓zxb_1_1, ↓zxb_2_0, ↓zxb_2_1, ↓zxb_2_2, ↓zxb_2_3, ↓zxb_2_4, ↓zxb_2_5, ↓zxb_10_0, ↓zxb_10_1, ↓zxb_11_0, ↓zxb_11_1, ↓zxb_11_2, ↓zxb_11_3, ↓zxb_17_0, ↓zxb_19_0, ↓zxb_19_1, ↓zxb_19_2, ↓zxb_20_0, ↓zxb_20_1, ↓zxb_20_3, ↓zxb_20_4, ↓zxb_20_5, ↓zxb_20_6, ↓zxb_20_7, ↓zxb_20_8, ↓zxb_20_9, ↓zxb_30_0, ↓zxb_30_1, ↓zxb_30_4, ↓zxb_30_5, ↓zxb_48_0, ↓zxb_50_0, ↓zxb_52_0, ↓zxb_52_1, ↓zxb_52_2, ↓zxb_56_0, ↓zxb_56_1, ↓zxb_56_2, ↓zxb_57_0, ↓zxb_59_0, ↓zxb_80_3, ↓zxb_80_4, ↓zxb_80_5, ↓zxb_81_0, ↓zxb_81_1, ↓zxb_81_2, ↓zxb_81_3, ↓zxb_81_4, ↓zxb_81_5, ↓zxb_88_0, ↓zxb_88_1, ↓zxb_88_2, ↓zxb_93_3, ↓zxb_93_4, ↓zxb_93_5, ↓zxb_94_0, ↓zxb_94_1, ↓zxb_94_2, ↓zxb_94_3, ↓zxb_94_4, ↓zxb_94_5, ↓zxb_101_0, ↓zxb_101_1, ↓zxb_101_2, ↓zxb_106_0, ↓zxb_106_1, ↓zxb_106_2, ↓zxb_110_0, ↓zxb_110_1, ↓zxb_110_2, ↓zxb_114_0, ↓zxb_114_1, ↓zxb_114_2, ↓zgb_9, ↓zsb_9, ↓zgb_16, ↓zsb_16, ↓zgb_18, ↓zsb_18, ↓zgb_21, ↓zsb_21, ↓zgb_22, ↓zsb_22, ↓zgb_23, ↓zsb_23, ↓zgb_24, ↓zsb_24, ↓zgb_25, ↓zsb_25, ↓zgb_26, ↓zsb_26, ↓zgb_27, ↓zsb_27, ↓zgb_28, ↓zsb_28, ↓zgb_29, ↓zsb_29, ↓zgb_47, ↓zsb_47, ↓zgb_49, ↓zsb_49, ↓zgb_51, ↓zsb_51, ↓zgb_53, ↓zsb_53, ↓zgb_54, ↓zsb_54, ↓zgb_55, ↓zsb_55, ↓zgb_58, ↓zsb_58, ↓zgb_76, ↓zsb_76, ↓zgb_79, ↓zsb_79, zi_0, zi_1, zi_10, zi_17, zi_19, zi_20, zi_30, zi_48, zi_50, zi_52, zi_57, zi_59, zi_80, zi_93, zi_106, zi_110, zi_114, zx_0_0, zx_0_1, zx_0_2, zx_0_3, zx_0_4, zx_0_5, zx_0_6, zx_0_7, zx_0_8, zx_0_9, zx_0_10, zx_1_0, zx_1_1, zx_2_0, zx_2_1, zx_2_2, zx_2_3, zx_2_4, zx_2_5, zx_10_0, zx_10_1, zx_11_0, zx_11_1, zx_11_2, zx_11_3, zx_17_0, zx_19_0, zx_19_1, zx_19_2, zx_20_0, zx_20_1, zx_20_3, zx_20_4, zx_20_5, zx_20_6, zx_20_7, zx_20_8, zx_20_9, zx_30_0, zx_30_1, zx_30_4, zx_30_5, zx_48_0, zx_50_0, zx_52_0, zx_52_1, zx_52_2, zx_56_0, zx_56_1, zx_56_2, zx_57_0, zx_59_0, zx_80_3, zx_80_4, zx_80_5, zx_81_0, zx_81_1, zx_81_2, zx_81_3, zx_81_4, zx_81_5, zx_88_0, zx_88_1, zx_88_2, zx_93_3, zx_93_4, zx_93_5, zx_94_0, zx_94_1, zx_94_2, zx_94_3, zx_94_4, zx_94_5, zx_101_0, zx_101_1, zx_101_2, zx_106_0, zx_106_1, zx_106_2, zx_110_0, zx_110_1, zx_110_2, zx_114_0, zx_114_1, zx_114_2, zgI_9, zsI_9, zgI_16, zsI_16, zgI_18, zsI_18, zgI_21, zsI_21, zgI_22, zsI_22, zgI_23, zsI_23, zgI_24, zsI_24, zgI_25, zsI_25, zgI_26, zsI_26, zgI_27, zsI_27, zgI_28, zsI_28, zgI_29, zsI_29, zgI_47, zsI_47, zgI_49, zsI_49, zgI_51, zsI_51, zgI_53, zsI_53, zgI_54, zsI_54, zgI_55, zsI_55, zgI_58, zsI_58, zgI_76, zsI_76, zgI_79, zsI_79, zb_32_0, c_no_f zS2, not_true]
    · simp (disch := first | assumption | omega) only [zn0, zn1, Option.bind_some, zm_ai, zm_al, zm_av, zm_opt, zm_fw, zE_l, zE_r, nI_add, pk_mul, pk_sub, pk_div, pk_rem, zrem, zpm1, zB_i0, zB_i1, zB_ok, zB_T, zB_F, nI_toInt, zT_sub, zT_neg, zT_le, zT_lt, nI_eq, zne1, zne2, zne9, ite_not, or_true, true_or, if_true, if_false, if_pos, if_neg, zw_R, zw_RL, zw_I, zF_R, zw_same, zw_cell, zw_ne, zF_at, zF_ne, ↓zib_118, ↓zxb_118_0, ↓zxb_118_1, ↓zxb_118_2, ↓zxb_118_3, ↓zxb_118_7, ↓zxb_118_8, ↓zxb_118_9, ↓zxb_118_10, ↓zxb_118_11, ↓zxb_118_12, ↓zxb_118_13, ↓zxb_118_14, ↓zxb_118_15, ↓zxb_118_17, ↓zxb_118_18, ↓zxb_118_19, ↓zxb_118_21, ↓zxb_118_22, ↓zxb_118_24, ↓zxb_118_25, ↓zxb_118_30, ↓zxb_118_35, ↓zxb_118_36, ↓zxb_118_37, ↓zxb_118_38, ↓zxb_118_39, ↓zxb_118_41, ↓zxb_118_42, ↓zxb_118_44, ↓zxb_118_45, ↓zxb_118_46, ↓zgb_119, ↓zsb_119, ↓zgb_120, ↓zsb_120, ↓zgb_121, ↓zsb_121, ↓zgb_122, ↓zsb_122, ↓zgb_123, ↓zsb_123, ↓zgb_124, ↓zsb_124, ↓zgb_125, ↓zsb_125, ↓zgb_126, ↓zsb_126, ↓zgb_127, ↓zsb_127, ↓zgb_128, ↓zsb_128, ↓zgb_129, ↓zsb_129, ↓zgb_130, ↓zsb_130, ↓zgb_131, ↓zsb_131, ↓zgb_132, ↓zsb_132, ↓zgb_133, ↓zsb_133, ↓zgb_134, ↓zsb_134, ↓zgb_135, ↓zsb_135, ↓zgb_136, ↓zsb_136, ↓zgb_137, ↓zsb_137, ↓zgb_139, ↓zsb_139, ↓zgb_140, ↓zsb_140, ↓zgb_141, ↓zsb_141, ↓zgb_142, ↓zsb_142, ↓zgb_143, ↓zsb_143, ↓zgb_144, ↓zsb_144, ↓zgb_145, ↓zsb_145, ↓zgb_146, ↓zsb_146, ↓zgb_147, ↓zsb_147, zi_118, zx_118_0, zx_118_1, zx_118_2, zx_118_3, zx_118_7, zx_118_8, zx_118_9, zx_118_10, zx_118_11, zx_118_12, zx_118_13, zx_118_14, zx_118_15, zx_118_17, zx_118_18, zx_118_19, zx_118_21, zx_118_22, zx_118_24, zx_118_25, zx_118_30, zx_118_35, zx_118_36, zx_118_37, zx_118_38, zx_118_39, zx_118_41, zx_118_42, zx_118_44, zx_118_45, zx_118_46, zgI_119, zsI_119, zgI_120, zsI_120, zgI_121, zsI_121, zgI_122, zsI_122, zgI_123, zsI_123, zgI_124, zsI_124, zgI_125, zsI_125, zgI_126, zsI_126, zgI_127, zsI_127, zgI_128, zsI_128, zgI_129, zsI_129, zgI_130, zsI_130, zgI_131, zsI_131, zgI_132, zsI_132, zgI_133, zsI_133, zgI_134, zsI_134, zgI_135, zsI_135, zgI_136, zsI_136, zgI_137, zsI_137, zgI_139, zsI_139, zgI_140, zsI_140, zgI_141, zsI_141, zgI_142, zsI_142, zgI_143, zsI_143, zgI_144, zsI_144, zgI_145, zsI_145, zgI_146, zsI_146, zgI_147, zsI_147, zb_189_0, m_it_f, not_true]
  · cases e : T r with
    | none =>
      refine zCallV.of hV hV hM (v := .int (-3)) (zCo.found hC hV (f := 1) (by decide) (zS_eq (zS_of ze_32 ?_))) fun σ1 hM1 => zMo.found hM1 hV (by decide) (zS_eq (zS_of ze_189 ?_))
      · have e1 := c_found hF (f := 1) (by decide)
        simp (disch := first | assumption | omega) only [zn0, zn1, Option.bind_some, zm_ai, zm_al, zm_av, zm_opt, zm_fw, zE_l, zE_r, nI_add, pk_mul, pk_sub, pk_div, pk_rem, zrem, zpm1, zB_i0, zB_i1, zB_ok, zB_T, zB_F, nI_toInt, zT_sub, zT_neg, zT_le, zT_lt, nI_eq, zne1, zne2, zne9, ite_not, or_true, true_or, if_true, if_false, if_pos, if_neg, zw_R, zw_RL, zw_I, zF_R, zw_same, zw_cell, zw_ne, zF_at, zF_ne, ↓zib_0, ↓zib_1, ↓zib_10, ↓zib_17, ↓zib_19, ↓zib_20, ↓zib_30, ↓zib_48, ↓zib_50, ↓zib_52, ↓zib_57, ↓zib_59, ↓zib_80, ↓zib_93, ↓zib_106, ↓zib_110, ↓zib_114, ↓zxb_0_0, ↓zxb_0_1, ↓zxb_0_2, ↓zxb_0_3, ↓zxb_0_4, ↓zxb_0_5, ↓zxb_0_6, ↓zxb_0_7, ↓zxb_0_8, ↓zxb_0_9, ↓zxb_0_10, ↓zxb_1_0, ↓zxb_1_1, ↓zxb_2_0, ↓zxb_2_1, ↓zxb_2_2, ↓zxb_2_3, ↓zxb_2_4, ↓zxb_2_5, ↓zxb_10_0, ↓zxb_10_1, ↓zxb_11_0, ↓zxb_11_1, ↓zxb_11_2, ↓zxb_11_3, ↓zxb_17_0, ↓zxb_19_0, ↓zxb_19_1, ↓zxb_19_2, ↓zxb_20_0, ↓zxb_20_1, ↓zxb_20_3, ↓zxb_20_4, ↓zxb_20_5, ↓zxb_20_6, ↓zxb_20_7, ↓zxb_20_8, ↓zxb_20_9, ↓zxb_30_0, ↓zxb_30_1, ↓zxb_30_4, ↓zxb_30_5, ↓zxb_48_0, ↓zxb_50_0, ↓zxb_52_0, ↓zxb_52_1, ↓zxb_52_2, ↓zxb_56_0, ↓zxb_56_1, ↓zxb_56_2, ↓zxb_57_0, ↓zxb_59_0, ↓zxb_80_3, ↓zxb_80_4, ↓zxb_80_5, ↓zxb_81_0, ↓zxb_81_1, ↓zxb_81_2, ↓zxb_81_3, ↓zxb_81_4, ↓zxb_81_5, ↓zxb_88_0, ↓zxb_88_1, ↓zxb_88_2, ↓zxb_93_3, ↓zxb_93_4, ↓zxb_93_5, ↓zxb_94_0, ↓zxb_94_1, ↓zxb_94_2, ↓zxb_94_3, ↓zxb_94_4, ↓zxb_94_5, ↓zxb_101_0, ↓zxb_101_1, ↓zxb_101_2, ↓zxb_106_0, ↓zxb_106_1, ↓zxb_106_2, ↓zxb_110_0, ↓zxb_110_1, ↓zxb_110_2, ↓zxb_114_0, ↓zxb_114_1, ↓zxb_114_2, ↓zgb_9, ↓zsb_9, ↓zgb_16, ↓zsb_16, ↓zgb_18, ↓zsb_18, ↓zgb_21, ↓zsb_21, ↓zgb_22, ↓zsb_22, ↓zgb_23, ↓zsb_23, ↓zgb_24, ↓zsb_24, ↓zgb_25, ↓zsb_25, ↓zgb_26, ↓zsb_26, ↓zgb_27, ↓zsb_27, ↓zgb_28, ↓zsb_28, ↓zgb_29, ↓zsb_29, ↓zgb_47, ↓zsb_47, ↓zgb_49, ↓zsb_49, ↓zgb_51, ↓zsb_51, ↓zgb_53, ↓zsb_53, ↓zgb_54, ↓zsb_54, ↓zgb_55, ↓zsb_55, ↓zgb_58, ↓zsb_58, ↓zgb_76, ↓zsb_76, ↓zgb_79, ↓zsb_79, zi_0, zi_1, zi_10, zi_17, zi_19, zi_20, zi_30, zi_48, zi_50, zi_52, zi_57, zi_59, zi_80, zi_93, zi_106, zi_110, zi_114, zx_0_0, zx_0_1, zx_0_2, zx_0_3, zx_0_4, zx_0_5, zx_0_6, zx_0_7, zx_0_8, zx_0_9, zx_0_10, zx_1_0, zx_1_1, zx_2_0, zx_2_1, zx_2_2, zx_2_3, zx_2_4, zx_2_5, zx_10_0, zx_10_1, zx_11_0, zx_11_1, zx_11_2, zx_11_3, zx_17_0, zx_19_0, zx_19_1, zx_19_2, zx_20_0, zx_20_1, zx_20_3, zx_20_4, zx_20_5, zx_20_6, zx_20_7, zx_20_8, zx_20_9, zx_30_0, zx_30_1, zx_30_4, zx_30_5, zx_48_0, zx_50_0, zx_52_0, zx_52_1, zx_52_2, zx_56_0, zx_56_1, zx_56_2, zx_57_0, zx_59_0, zx_80_3, zx_80_4, zx_80_5, zx_81_0, zx_81_1, zx_81_2, zx_81_3, zx_81_4, zx_81_5, zx_88_0, zx_88_1, zx_88_2, zx_93_3, zx_93_4, zx_93_5, zx_94_0, zx_94_1, zx_94_2, zx_94_3, zx_94_4, zx_94_5, zx_101_0, zx_101_1, zx_101_2, zx_106_0, zx_106_1, zx_106_2, zx_110_0, zx_110_1, zx_110_2, zx_114_0, zx_114_1, zx_114_2, zgI_9, zsI_9, zgI_16, zsI_16, zgI_18, zsI_18, zgI_21, zsI_21, zgI_22, zsI_22, zgI_23, zsI_23, zgI_24, zsI_24, zgI_25, zsI_25, zgI_26, zsI_26, zgI_27, zsI_27, zgI_28, zsI_28, zgI_29, zsI_29, zgI_47, zsI_47, zgI_49, zsI_49, zgI_51, zsI_51, zgI_53, zsI_53, zgI_54, zsI_54, zgI_55, zsI_55, zgI_58, zsI_58, zgI_76, zsI_76, zgI_79, zsI_79, zb_32_0, c_no_t zS2, not_false, c_ms_t zS2 hF hR hr e, e1]
      · have hF1 := hM1.1
        have h1 := (hM1.2.2.1 r hr).1 e
        have e1 := m_found hF1 (f := 1) (by decide)
        simp (disch := first | assumption | omega) only [zn0, zn1, Option.bind_some, zm_ai, zm_al, zm_av, zm_opt, zm_fw, zE_l, zE_r, nI_add, pk_mul, pk_sub, pk_div, pk_rem, zrem, zpm1, zB_i0, zB_i1, zB_ok, zB_T, zB_F, nI_toInt, zT_sub, zT_neg, zT_le, zT_lt, nI_eq, zne1, zne2, zne9, ite_not, or_true, true_or, if_true, if_false, if_pos, if_neg, zw_R, zw_RL, zw_I, zF_R, zw_same, zw_cell, zw_ne, zF_at, zF_ne, ↓zib_118, ↓zxb_118_0, ↓zxb_118_1, ↓zxb_118_2, ↓zxb_118_3, ↓zxb_118_7, ↓zxb_118_8, ↓zxb_118_9, ↓zxb_118_10, ↓zxb_118_11, ↓zxb_118_12, ↓zxb_118_13, ↓zxb_118_14, ↓zxb_118_15, ↓zxb_118_17, ↓zxb_118_18, ↓zxb_118_19, ↓zxb_118_21, ↓zxb_118_22, ↓zxb_118_24, ↓zxb_118_25, ↓zxb_118_30, ↓zxb_118_35, ↓zxb_118_36, ↓zxb_118_37, ↓zxb_118_38, ↓zxb_118_39, ↓zxb_118_41, ↓zxb_118_42, ↓zxb_118_44, ↓zxb_118_45, ↓zxb_118_46, ↓zgb_119, ↓zsb_119, ↓zgb_120, ↓zsb_120, ↓zgb_121, ↓zsb_121, ↓zgb_122, ↓zsb_122, ↓zgb_123, ↓zsb_123, ↓zgb_124, ↓zsb_124, ↓zgb_125, ↓zsb_125, ↓zgb_126, ↓zsb_126, ↓zgb_127, ↓zsb_127, ↓zgb_128, ↓zsb_128, ↓zgb_129, ↓zsb_129, ↓zgb_130, ↓zsb_130, ↓zgb_131, ↓zsb_131, ↓zgb_132, ↓zsb_132, ↓zgb_133, ↓zsb_133, ↓zgb_134, ↓zsb_134, ↓zgb_135, ↓zsb_135, ↓zgb_136, ↓zsb_136, ↓zgb_137, ↓zsb_137, ↓zgb_139, ↓zsb_139, ↓zgb_140, ↓zsb_140, ↓zgb_141, ↓zsb_141, ↓zgb_142, ↓zsb_142, ↓zgb_143, ↓zsb_143, ↓zgb_144, ↓zsb_144, ↓zgb_145, ↓zsb_145, ↓zgb_146, ↓zsb_146, ↓zgb_147, ↓zsb_147, zi_118, zx_118_0, zx_118_1, zx_118_2, zx_118_3, zx_118_7, zx_118_8, zx_118_9, zx_118_10, zx_118_11, zx_118_12, zx_118_13, zx_118_14, zx_118_15, zx_118_17, zx_118_18, zx_118_19, zx_118_21, zx_118_22, zx_118_24, zx_118_25, zx_118_30, zx_118_35, zx_118_36, zx_118_37, zx_118_38, zx_118_39, zx_118_41, zx_118_42, zx_118_44, zx_118_45, zx_118_46, zgI_119, zsI_119, zgI_120, zsI_120, zgI_121, zsI_121, zgI_122, zsI_122, zgI_123, zsI_123, zgI_124, zsI_124, zgI_125, zsI_125, zgI_126, zsI_126, zgI_127, zsI_127, zgI_128, zsI_128, zgI_129, zsI_129, zgI_130, zsI_130, zgI_131, zsI_131, zgI_132, zsI_132, zgI_133, zsI_133, zgI_134, zsI_134, zgI_135, zsI_135, zgI_136, zsI_136, zgI_137, zsI_137, zgI_139, zsI_139, zgI_140, zsI_140, zgI_141, zsI_141, zgI_142, zsI_142, zgI_143, zsI_143, zgI_144, zsI_144, zgI_145, zsI_145, zgI_146, zsI_146, zgI_147, zsI_147, zb_189_0, m_it_t, not_false, h1, e1]
    | some l =>
      have hl60 := ((hR r hr).2 l e).1
      refine zCallV.of hV hV hM (v := .int (zypv (zpa l))) (a' := a) (R' := R) (T' := T) (K' := K) ?_ fun σ1 hM1 => ?_
      · obtain ⟨ha, hcu, hsp, -⟩ := id hC.2.2.2.2
        obtain ⟨σ1, e1, -, hK1⟩ := c_readGroup hF hR hr e ha.other
        refine ⟨σ1, zS_eq (zS_of ze_32 ?_), hC.spare hV hK1, zF33_cls ha.other hK1⟩
        simp (maxSteps := 500000) (disch := first | assumption | omega) only [zn0, zn1, Option.bind_some, zm_ai, zm_al, zm_av, zm_opt, zm_fw, zE_l, zE_r, nI_add, pk_mul, pk_sub, pk_div, pk_rem, zrem, zpm1, zB_i0, zB_i1, zB_ok, zB_T, zB_F, nI_toInt, zT_sub, zT_neg, if_true, if_false, zw_R, zw_RL, zw_I, zF_R, zw_same, zw_cell, zw_ne, zF_at, zF_ne, ↓reduceIte, zd_leT, zd_leF, zd_ltT, zd_ltF, zd_eqF, zd_n1, zd_n2, eq_self, not_true_eq_false, not_false_eq_true, ↓zib_0, ↓zib_1, ↓zib_10, ↓zib_17, ↓zib_19, ↓zib_20, ↓zib_30, ↓zib_48, ↓zib_50, ↓zib_52, ↓zib_57, ↓zib_59, ↓zib_80, ↓zib_93, ↓zib_106, ↓zib_110, ↓zib_114, ↓zxb_0_0, ↓zxb_0_1, ↓zxb_0_2, ↓zxb_0_3, ↓zxb_0_4, ↓zxb_0_5, ↓zxb_0_6, ↓zxb_0_7, ↓zxb_0_8, ↓zxb_0_9, ↓zxb_0_10, ↓zxb_1_0, ↓zxb_1_1, ↓zxb_2_0, ↓zxb_2_1, ↓zxb_2_2, ↓zxb_2_3, ↓zxb_2_4, ↓zxb_2_5, ↓zxb_10_0, ↓zxb_10_1, ↓zxb_11_0, ↓zxb_11_1, ↓zxb_11_2, ↓zxb_11_3, ↓zxb_17_0, ↓zxb_19_0, ↓zxb_19_1, ↓zxb_19_2, ↓zxb_20_0, ↓zxb_20_1, ↓zxb_20_3, ↓zxb_20_4, ↓zxb_20_5, ↓zxb_20_6, ↓zxb_20_7, ↓zxb_20_8, ↓zxb_20_9, ↓zxb_30_0, ↓zxb_30_1, ↓zxb_30_4, ↓zxb_30_5, ↓zxb_48_0, ↓zxb_50_0, ↓zxb_52_0, ↓zxb_52_1, ↓zxb_52_2, ↓zxb_56_0, ↓zxb_56_1, ↓zxb_56_2, ↓zxb_57_0, ↓zxb_59_0, ↓zxb_80_3, ↓zxb_80_4, ↓zxb_80_5, ↓zxb_81_0, ↓zxb_81_1, ↓zxb_81_2, ↓zxb_81_3, ↓zxb_81_4, ↓zxb_81_5, ↓zxb_88_0, ↓zxb_88_1, ↓zxb_88_2, ↓zxb_93_3, ↓zxb_93_4, ↓zxb_93_5, ↓zxb_94_0, ↓zxb_94_1, ↓zxb_94_2, ↓zxb_94_3, ↓zxb_94_4, ↓zxb_94_5, ↓zxb_101_0, ↓zxb_101_1, ↓zxb_101_2, ↓zxb_106_0, ↓zxb_106_1, ↓zxb_106_2, ↓zxb_110_0, ↓zxb_110_1, ↓zxb_110_2, ↓zxb_114_0, ↓zxb_114_1, ↓zxb_114_2, ↓zgb_9, ↓zsb_9, ↓zgb_16, ↓zsb_16, ↓zgb_18, ↓zsb_18, ↓zgb_21, ↓zsb_21, ↓zgb_22, ↓zsb_22, ↓zgb_23, ↓zsb_23, ↓zgb_24, ↓zsb_24, ↓zgb_25, ↓zsb_25, ↓zgb_26, ↓zsb_26, ↓zgb_27, ↓zsb_27, ↓zgb_28, ↓zsb_28, ↓zgb_29, ↓zsb_29, ↓zgb_47, ↓zsb_47, ↓zgb_49, ↓zsb_49, ↓zgb_51, ↓zsb_51, ↓zgb_53, ↓zsb_53, ↓zgb_54, ↓zsb_54, ↓zgb_55, ↓zsb_55, ↓zgb_58, ↓zsb_58, ↓zgb_76, ↓zsb_76, ↓zgb_79, ↓zsb_79, zi_0, zi_1, zi_10, zi_17, zi_19, zi_20, zi_30, zi_48, zi_50, zi_52, zi_57, zi_59, zi_80, zi_93, zi_106, zi_110, zi_114, zx_0_0, zx_0_1, zx_0_2, zx_0_3, zx_0_4, zx_0_5, zx_0_6, zx_0_7, zx_0_8, zx_0_9, zx_0_10, zx_1_0, zx_1_1, zx_2_0, zx_2_1, zx_2_2, zx_2_3, zx_2_4, zx_2_5, zx_10_0, zx_10_1, zx_11_0, zx_11_1, zx_11_2, zx_11_3, zx_17_0, zx_19_0, zx_19_1, zx_19_2, zx_20_0, zx_20_1, zx_20_3, zx_20_4, zx_20_5, zx_20_6, zx_20_7, zx_20_8, zx_20_9, zx_30_0, zx_30_1, zx_30_4, zx_30_5, zx_48_0, zx_50_0, zx_52_0, zx_52_1, zx_52_2, zx_56_0, zx_56_1, zx_56_2, zx_57_0, zx_59_0, zx_80_3, zx_80_4, zx_80_5, zx_81_0, zx_81_1, zx_81_2, zx_81_3, zx_81_4, zx_81_5, zx_88_0, zx_88_1, zx_88_2, zx_93_3, zx_93_4, zx_93_5, zx_94_0, zx_94_1, zx_94_2, zx_94_3, zx_94_4, zx_94_5, zx_101_0, zx_101_1, zx_101_2, zx_106_0, zx_106_1, zx_106_2, zx_110_0, zx_110_1, zx_110_2, zx_114_0, zx_114_1, zx_114_2, zgI_9, zsI_9, zgI_16, zsI_16, zgI_18, zsI_18, zgI_21, zsI_21, zgI_22, zsI_22, zgI_23, zsI_23, zgI_24, zsI_24, zgI_25, zsI_25, zgI_26, zsI_26, zgI_27, zsI_27, zgI_28, zsI_28, zgI_29, zsI_29, zgI_47, zsI_47, zgI_49, zsI_49, zgI_51, zsI_51, zgI_53, zsI_53, zgI_54, zsI_54, zgI_55, zsI_55, zgI_58, zsI_58, zgI_76, zsI_76, zgI_79, zsI_79, zb_32_0, c_no_t zS2, c_ms_f zS2 hF hR hr e, hsp, e1]
      · have hF1 := hM1.1
        obtain ⟨g1, g2, g3⟩ := (hM1.2.2.1 r hr).2 l e
        obtain ⟨σ2, e1, -, hK1⟩ := m_reading hF1 hl60 hr g2 g3
        refine ⟨σ2, zS_eq (zS_of ze_189 ?_), hM1.scr hV (zF90_msc hK1), zMsc_rfs (zF90_msc hK1)⟩
        simp (maxSteps := 500000) (disch := first | assumption | omega) only [zn0, zn1, Option.bind_some, zm_ai, zm_al, zm_av, zm_opt, zm_fw, zE_l, zE_r, nI_add, pk_mul, pk_sub, pk_div, pk_rem, zrem, zpm1, zB_i0, zB_i1, zB_ok, zB_T, zB_F, nI_toInt, zT_sub, zT_neg, if_true, if_false, zw_R, zw_RL, zw_I, zF_R, zw_same, zw_cell, zw_ne, zF_at, zF_ne, ↓reduceIte, zd_leT, zd_leF, zd_ltT, zd_ltF, zd_eqF, zd_n1, zd_n2, eq_self, not_true_eq_false, not_false_eq_true, ↓zib_118, ↓zxb_118_0, ↓zxb_118_1, ↓zxb_118_2, ↓zxb_118_3, ↓zxb_118_7, ↓zxb_118_8, ↓zxb_118_9, ↓zxb_118_10, ↓zxb_118_11, ↓zxb_118_12, ↓zxb_118_13, ↓zxb_118_14, ↓zxb_118_15, ↓zxb_118_17, ↓zxb_118_18, ↓zxb_118_19, ↓zxb_118_21, ↓zxb_118_22, ↓zxb_118_24, ↓zxb_118_25, ↓zxb_118_30, ↓zxb_118_35, ↓zxb_118_36, ↓zxb_118_37, ↓zxb_118_38, ↓zxb_118_39, ↓zxb_118_41, ↓zxb_118_42, ↓zxb_118_44, ↓zxb_118_45, ↓zxb_118_46, ↓zgb_119, ↓zsb_119, ↓zgb_120, ↓zsb_120, ↓zgb_121, ↓zsb_121, ↓zgb_122, ↓zsb_122, ↓zgb_123, ↓zsb_123, ↓zgb_124, ↓zsb_124, ↓zgb_125, ↓zsb_125, ↓zgb_126, ↓zsb_126, ↓zgb_127, ↓zsb_127, ↓zgb_128, ↓zsb_128, ↓zgb_129, ↓zsb_129, ↓zgb_130, ↓zsb_130, ↓zgb_131, ↓zsb_131, ↓zgb_132, ↓zsb_132, ↓zgb_133, ↓zsb_133, ↓zgb_134, ↓zsb_134, ↓zgb_135, ↓zsb_135, ↓zgb_136, ↓zsb_136, ↓zgb_137, ↓zsb_137, ↓zgb_139, ↓zsb_139, ↓zgb_140, ↓zsb_140, ↓zgb_141, ↓zsb_141, ↓zgb_142, ↓zsb_142, ↓zgb_143, ↓zsb_143, ↓zgb_144, ↓zsb_144, ↓zgb_145, ↓zsb_145, ↓zgb_146, ↓zsb_146, ↓zgb_147, ↓zsb_147, zi_118, zx_118_0, zx_118_1, zx_118_2, zx_118_3, zx_118_7, zx_118_8, zx_118_9, zx_118_10, zx_118_11, zx_118_12, zx_118_13, zx_118_14, zx_118_15, zx_118_17, zx_118_18, zx_118_19, zx_118_21, zx_118_22, zx_118_24, zx_118_25, zx_118_30, zx_118_35, zx_118_36, zx_118_37, zx_118_38, zx_118_39, zx_118_41, zx_118_42, zx_118_44, zx_118_45, zx_118_46, zgI_119, zsI_119, zgI_120, zsI_120, zgI_121, zsI_121, zgI_122, zsI_122, zgI_123, zsI_123, zgI_124, zsI_124, zgI_125, zsI_125, zgI_126, zsI_126, zgI_127, zsI_127, zgI_128, zsI_128, zgI_129, zsI_129, zgI_130, zsI_130, zgI_131, zsI_131, zgI_132, zsI_132, zgI_133, zsI_133, zgI_134, zsI_134, zgI_135, zsI_135, zgI_136, zsI_136, zgI_137, zsI_137, zgI_139, zsI_139, zgI_140, zsI_140, zgI_141, zsI_141, zgI_142, zsI_142, zgI_143, zsI_143, zgI_144, zsI_144, zgI_145, zsI_145, zgI_146, zsI_146, zgI_147, zsI_147, zb_189_0, m_it_t, g2, e1]
/-- a new group in the class -/
def zFo (x k : Nat) : Bool := zFA x k || (x == 19 && k == 4) || (x == 52 && k == 3)
theorem zFA_t {x k : Nat} (h : zFA x k = true) : (x = 19 ∧ k = 3) ∨ (x = 20 ∧ (k = 2 ∨ k = 10)) ∨ (21 ≤ x ∧ x ≤ 28) ∨ (x = 30 ∧ (k = 2 ∨ k = 3)) ∨ (32 ≤ x ∧ x ≤ 51) := by
  simp only [zFA, zFK, zFD, zFR, zFN, zFT, zFW, Bool.or_eq_true, Bool.and_eq_true, decide_eq_true_eq, beq_iff_eq] at h
  omega
theorem zFo_t {x k : Nat} (h : zFo x k = true) : (x = 19 ∧ (k = 3 ∨ k = 4)) ∨ (x = 20 ∧ (k = 2 ∨ k = 10)) ∨ (21 ≤ x ∧ x ≤ 28) ∨ (x = 30 ∧ (k = 2 ∨ k = 3)) ∨ (32 ≤ x ∧ x ≤ 51) ∨ (x = 52 ∧ k = 3) := by
  simp only [zFo, Bool.or_eq_true, Bool.and_eq_true, beq_iff_eq] at h
  rcases h with (h | h) | h
  · have := zFA_t h
    omega
  · omega
  · omega
theorem zFo_f {x k : Nat} (h : ¬ ((x = 19 ∧ (k = 3 ∨ k = 4)) ∨ (x = 20 ∧ (k = 2 ∨ k = 10)) ∨ (21 ≤ x ∧ x ≤ 28) ∨ (x = 30 ∧ (k = 2 ∨ k = 3)) ∨ (32 ≤ x ∧ x ≤ 51) ∨ (x = 52 ∧ k = 3))) : zFo x k = false := zff fun q => h (zFo_t q)
theorem c_open {π : Nat → Nat} (hF : zFix σ) (hb : zGo b) (hG : zCG σ b G) (hk : zGk G) (hp : zPi σ π) : ∃ σ', zM 50 [.ref 19, .ref b] zL σ = some (none, zL, σ') ∧ (zCB σ' G (zarr G 0) ∧ σ'.1 52 3 = nI 0 ∧ σ'.2.2 19 4 = some b ∧ zKeep zFo σ σ') := by
  have hb' : b = 80 ∨ b = 93 := hb
  have k1 : zKeep (fun x k => (x == 19 && k == 4) || (x == 52 && k == 3)) σ (zm_wI (zm_wR σ 19 4 (some b)) 52 3 (nI 0)) := ((zKeep.rf _ _).wR rfl).wI rfl
  have k1o : zKeep zFo σ (zm_wI (zm_wR σ 19 4 (some b)) 52 3 (nI 0)) := k1.mo fun x k q => by
    simp only [Bool.or_eq_true, Bool.and_eq_true, beq_iff_eq] at q
    simp only [zFo, Bool.or_eq_true, Bool.and_eq_true, beq_iff_eq]
    omega
  have hF1 : zFix (zm_wI (zm_wR σ 19 4 (some b)) 52 3 (nI 0)) := k1.fix hF rfl
  have hF0 : zFix (zm_wR σ 19 4 (some b)) := ((zKeep.rf (fun x k => (x == 19 && k == 4) || (x == 52 && k == 3)) σ).wR rfl).fix hF rfl
  have h4 : (zm_wI (zm_wR σ 19 4 (some b)) 52 3 (nI 0)).2.2 19 4 = some b := zR_same _ _ _ _
  obtain ⟨σ2, e2, B2, k2⟩ := c_arrange hF1 hb h4 (hG.keep hk.1 k1 (fun k _ => by simp; omega) (fun y k _ _ => by simp; omega)) hk (hp.keep k1 (fun k => rfl)) (o := 0) (by decide)
  refine ⟨σ2, zS_eq (zS_of ze_50 ?_), B2, ?_, ?_, k1o.tr (k2.mo fun x k q => by simp only [zFo, q, Bool.true_or])⟩
  · simp (disch := first | assumption | omega) only [zn0, zn1, Option.bind_some, zm_ai, zm_al, zm_av, zm_opt, zm_fw, zE_l, zE_r, nI_add, pk_mul, pk_sub, pk_div, pk_rem, zrem, zpm1, zB_i0, zB_i1, zB_ok, zB_T, zB_F, nI_toInt, zT_sub, zT_neg, zT_le, zT_lt, nI_eq, zne1, zne2, zne9, ite_not, or_true, true_or, if_true, if_false, if_pos, if_neg, zw_R, zw_RL, zw_I, zF_R, zw_same, zw_cell, zw_ne, zF_at, zF_ne, ↓zib_0, ↓zib_1, ↓zib_10, ↓zib_17, ↓zib_19, ↓zib_20, ↓zib_30, ↓zib_48, ↓zib_50, ↓zib_52, ↓zib_57, ↓zib_59, ↓zib_80, ↓zib_93, ↓zib_106, ↓zib_110, ↓zib_114, ↓zxb_0_0, ↓zxb_0_1, ↓zxb_0_2, ↓zxb_0_3, ↓zxb_0_4, ↓zxb_0_5, ↓zxb_0_6, ↓zxb_0_7, ↓zxb_0_8, ↓zxb_0_9, ↓zxb_0_10, ↓zxb_1_0, ↓zxb_1_1, ↓zxb_2_0, ↓zxb_2_1, ↓zxb_2_2, ↓zxb_2_3, ↓zxb_2_4, ↓zxb_2_5, ↓zxb_10_0, ↓zxb_10_1, ↓zxb_11_0, ↓zxb_11_1, ↓zxb_11_2, ↓zxb_11_3, ↓zxb_17_0, ↓zxb_19_0, ↓zxb_19_1, ↓zxb_19_2, ↓zxb_20_0, ↓zxb_20_1, ↓zxb_20_3, ↓zxb_20_4, ↓zxb_20_5, ↓zxb_20_6, ↓zxb_20_7, ↓zxb_20_8, ↓zxb_20_9, ↓zxb_30_0, ↓zxb_30_1, ↓zxb_30_4, ↓zxb_30_5, ↓zxb_48_0, ↓zxb_50_0, ↓zxb_52_0, ↓zxb_52_1, ↓zxb_52_2, ↓zxb_56_0, ↓zxb_56_1, ↓zxb_56_2, ↓zxb_57_0, ↓zxb_59_0, ↓zxb_80_3, ↓zxb_80_4, ↓zxb_80_5, ↓zxb_81_0, ↓zxb_81_1, ↓zxb_81_2, ↓zxb_81_3, ↓zxb_81_4, ↓zxb_81_5, ↓zxb_88_0, ↓zxb_88_1, ↓zxb_88_2, ↓zxb_93_3, ↓zxb_93_4, ↓zxb_93_5, ↓zxb_94_0, ↓zxb_94_1, ↓zxb_94_2, ↓zxb_94_3, ↓zxb_94_4, ↓zxb_94_5, ↓zxb_101_0, ↓zxb_101_1, ↓zxb_101_2, ↓zxb_106_0, ↓zxb_106_1, ↓zxb_106_2, ↓zxb_110_0, ↓zxb_110_1, ↓zxb_110_2, ↓zxb_114_0, ↓zxb_114_1, ↓zxb_114_2, ↓zgb_9, ↓zsb_9, ↓zgb_16, ↓zsb_16, ↓zgb_18, ↓zsb_18, ↓zgb_21, ↓zsb_21, ↓zgb_22, ↓zsb_22, ↓zgb_23, ↓zsb_23, ↓zgb_24, ↓zsb_24, ↓zgb_25, ↓zsb_25, ↓zgb_26, ↓zsb_26, ↓zgb_27, ↓zsb_27, ↓zgb_28, ↓zsb_28, ↓zgb_29, ↓zsb_29, ↓zgb_47, ↓zsb_47, ↓zgb_49, ↓zsb_49, ↓zgb_51, ↓zsb_51, ↓zgb_53, ↓zsb_53, ↓zgb_54, ↓zsb_54, ↓zgb_55, ↓zsb_55, ↓zgb_58, ↓zsb_58, ↓zgb_76, ↓zsb_76, ↓zgb_79, ↓zsb_79, zi_0, zi_1, zi_10, zi_17, zi_19, zi_20, zi_30, zi_48, zi_50, zi_52, zi_57, zi_59, zi_80, zi_93, zi_106, zi_110, zi_114, zx_0_0, zx_0_1, zx_0_2, zx_0_3, zx_0_4, zx_0_5, zx_0_6, zx_0_7, zx_0_8, zx_0_9, zx_0_10, zx_1_0, zx_1_1, zx_2_0, zx_2_1, zx_2_2, zx_2_3, zx_2_4, zx_2_5, zx_10_0, zx_10_1, zx_11_0, zx_11_1, zx_11_2, zx_11_3, zx_17_0, zx_19_0, zx_19_1, zx_19_2, zx_20_0, zx_20_1, zx_20_3, zx_20_4, zx_20_5, zx_20_6, zx_20_7, zx_20_8, zx_20_9, zx_30_0, zx_30_1, zx_30_4, zx_30_5, zx_48_0, zx_50_0, zx_52_0, zx_52_1, zx_52_2, zx_56_0, zx_56_1, zx_56_2, zx_57_0, zx_59_0, zx_80_3, zx_80_4, zx_80_5, zx_81_0, zx_81_1, zx_81_2, zx_81_3, zx_81_4, zx_81_5, zx_88_0, zx_88_1, zx_88_2, zx_93_3, zx_93_4, zx_93_5, zx_94_0, zx_94_1, zx_94_2, zx_94_3, zx_94_4, zx_94_5, zx_101_0, zx_101_1, zx_101_2, zx_106_0, zx_106_1, zx_106_2, zx_110_0, zx_110_1, zx_110_2, zx_114_0, zx_114_1, zx_114_2, zgI_9, zsI_9, zgI_16, zsI_16, zgI_18, zsI_18, zgI_21, zsI_21, zgI_22, zsI_22, zgI_23, zsI_23, zgI_24, zsI_24, zgI_25, zsI_25, zgI_26, zsI_26, zgI_27, zsI_27, zgI_28, zsI_28, zgI_29, zsI_29, zgI_47, zsI_47, zgI_49, zsI_49, zgI_51, zsI_51, zgI_53, zsI_53, zgI_54, zsI_54, zgI_55, zsI_55, zgI_58, zsI_58, zgI_76, zsI_76, zgI_79, zsI_79, zb_50_0, e2]
  · rw [k2.i (zff fun q => by have := zFA_t q; omega)]
    exact zw_same _ _ _ _
  · rw [k2.r (zff fun q => by have := zFA_t q; omega)]
    exact h4
theorem zgood_nil (G : zG) : zgood G [] := ⟨by decide, fun k hk => absurd hk (Nat.not_lt_zero _)⟩
theorem zVk_new (hk : zGk G) : zVk G [] (fun _ => none) := ⟨hk.1, Or.inr ⟨hk, zgood_nil G, fun k l q => by cases q⟩⟩
/-- what the class writes when a group is taken -/
def zFg (x k : Nat) : Bool := zFo x k || (x == 0 && (k == 11 || k == 12)) || ((x == 106 || x == 110 || x == 114) && k == 3)
theorem zFg_t {x k : Nat} (h : zFg x k = true) : (x = 19 ∧ (k = 3 ∨ k = 4)) ∨ (x = 20 ∧ (k = 2 ∨ k = 10)) ∨ (21 ≤ x ∧ x ≤ 28) ∨ (x = 30 ∧ (k = 2 ∨ k = 3)) ∨ (32 ≤ x ∧ x ≤ 51) ∨ (x = 52 ∧ k = 3) ∨ (x = 0 ∧ (k = 11 ∨ k = 12)) ∨ ((x = 106 ∨ x = 110 ∨ x = 114) ∧ k = 3) := by
  simp only [zFg, Bool.or_eq_true, Bool.and_eq_true, beq_iff_eq] at h
  rcases h with (h | h) | h
  · have := zFo_t h
    omega
  · omega
  · omega
theorem zFg_f {x k : Nat} (h : ¬ ((x = 19 ∧ (k = 3 ∨ k = 4)) ∨ (x = 20 ∧ (k = 2 ∨ k = 10)) ∨ (21 ≤ x ∧ x ≤ 28) ∨ (x = 30 ∧ (k = 2 ∨ k = 3)) ∨ (32 ≤ x ∧ x ≤ 51) ∨ (x = 52 ∧ k = 3) ∨ (x = 0 ∧ (k = 11 ∨ k = 12)) ∨ ((x = 106 ∨ x = 110 ∨ x = 114) ∧ k = 3))) : zFg x k = false := zff fun q => h (zFg_t q)
theorem zFo_fix (hF : zFix σ) (hK : zKeep zFo σ σ') : zFix σ' := hK.fix hF (by decide +kernel)
theorem zFg_fix (hF : zFix σ) (hK : zKeep zFg σ σ') : zFix σ' := hK.fix hF (by decide +kernel)
theorem c_group {l : List Int32} {r : Nat} (hr : r < 4) (e : T r = some l) {G' : zG} (eG : zpa l = .inr G') (hC : zC σ a R T K G ds ks) (hV : zVk G ds ks) : zCo 49 [.int (nI r)] σ (.int (nI G'.1)) (173 - a) R T K G' [] (fun _ => none) := by
  obtain ⟨hF, hR, hT, hKc, ha, hcu, hsp, hG, hN, ⟨π, hCR⟩, hL, hO, hTl, hks, hpos, hzero, ρ, hρ⟩ := id hC
  have ha' : a = 80 ∨ a = 93 := ha
  have hb := ha.other
  obtain ⟨σ1, e1, h1, k1⟩ := c_readGroup hF hT hr e hb
  obtain ⟨hG1, hgk⟩ := h1 G' eG
  have hF1 := zF33_fix hb hF k1
  have ev : zypv (zpa l) = -9 := by rw [eG]; rfl
  rw [ev] at e1
  have hs1 : σ1.2.2 0 12 = some (173 - a) := (k1.r (zF33_f (by omega))).trans hsp
  have hc1 : σ1.2.2 0 11 = some a := (k1.r (zF33_f (by omega))).trans hcu
  generalize hbb : 173 - a = b at *
  have hb' : b = 80 ∨ b = 93 := hb
  have k2 : zKeep (fun x k => x == 0 && (k == 11 || k == 12)) σ1 (zm_wR (zm_wR σ1 0 11 (some b)) 0 12 (some a)) := ((zKeep.rf _ _).wR rfl).wR rfl
  have hF2 : zFix (zm_wR (zm_wR σ1 0 11 (some b)) 0 12 (some a)) := k2.fix hF1 rfl
  have hF1' : zFix (zm_wR σ1 0 11 (some b)) := ((zKeep.rf (fun x k => x == 0 && (k == 11 || k == 12)) σ1).wR rfl).fix hF1 rfl
  have c2 : (zm_wR (zm_wR σ1 0 11 (some b)) 0 12 (some a)).2.2 0 11 = some b := by rw [zR_ne _ _ (Or.inr (by decide)), zR_same]
  have s2 : (zm_wR (zm_wR σ1 0 11 (some b)) 0 12 (some a)).2.2 0 12 = some a := zR_same _ _ _ _
  have p2 : zPi (zm_wR (zm_wR σ1 0 11 (some b)) 0 12 (some a)) π := (hCR.1.keep k1 (fun k => zF33_f (by omega))).keep k2 (fun k => rfl)
  have G2 : zCG (zm_wR (zm_wR σ1 0 11 (some b)) 0 12 (some a)) b G' := hG1.keep hgk.1 k2 (fun k _ => by simp; omega) (fun y k _ _ => by simp; omega)
  generalize hs2 : zm_wR (zm_wR σ1 0 11 (some b)) 0 12 (some a) = σ2 at *
  obtain ⟨σ3, e3, B3, t3, o3, k3⟩ := c_open hF2 hb G2 hgk p2
  have hF3 := zFo_fix hF2 k3
  have k23 : zKeep zFg σ1 σ3 := (k2.mo fun x k q => by
    simp only [Bool.or_eq_true, Bool.and_eq_true, beq_iff_eq] at q
    simp only [zFg, Bool.or_eq_true, Bool.and_eq_true, beq_iff_eq]
    omega).tr (k3.mo fun x k q => by simp only [zFg, q, Bool.true_or])
  have c3 : σ3.2.2 0 11 = some b := (k3.r (zFo_f (by omega))).trans c2
  have s3 : σ3.2.2 0 12 = some a := (k3.r (zFo_f (by omega))).trans s2
  have G3 : zCG σ3 b G' := G2.keep hgk.1 k3 (fun k _ => zFo_f (by omega)) (fun y k _ _ => zFo_f (by omega))
  have key : ∃ σ', zM 49 [.ref 0, .int (nI r)] zL σ = some (some (.int (nI G'.1)), zL, σ') ∧ ((∀ k, k < 3 → σ'.1 (106 + 4 * k) 3 = -nI 1) ∧ zKeep (fun x k => (x == 106 || x == 110 || x == 114) && k == 3) σ3 σ') := by
    refine zS_ex (zS_of ze_49 ?_)
    simp (maxSteps := 500000) (disch := first | assumption | omega) only [zn0, zn1, Option.bind_some, zm_ai, zm_al, zm_av, zm_opt, zm_fw, zE_l, zE_r, nI_add, pk_mul, pk_sub, pk_div, pk_rem, zrem, zpm1, zB_i0, zB_i1, zB_ok, zB_T, zB_F, nI_toInt, zT_sub, zT_neg, if_true, if_false, zw_R, zw_RL, zw_I, zF_R, zw_same, zw_cell, zw_ne, zF_at, zF_ne, ↓reduceIte, zd_leT, zd_leF, zd_ltT, zd_ltF, zd_eqF, zd_n1, zd_n2, eq_self, not_true_eq_false, not_false_eq_true, ↓zib_0, ↓zib_1, ↓zib_10, ↓zib_17, ↓zib_19, ↓zib_20, ↓zib_30, ↓zib_48, ↓zib_50, ↓zib_52, ↓zib_57, ↓zib_59, ↓zib_80, ↓zib_93, ↓zib_106, ↓zib_110, ↓zib_114, ↓zxb_0_0, ↓zxb_0_1, ↓zxb_0_2, ↓zxb_0_3, ↓zxb_0_4, ↓zxb_0_5, ↓zxb_0_6, ↓zxb_0_7, ↓zxb_0_8, ↓zxb_0_9, ↓zxb_0_10, ↓zxb_1_0, ↓zxb_1_1, ↓zxb_2_0, ↓zxb_2_1, ↓zxb_2_2, ↓zxb_2_3, ↓zxb_2_4, ↓zxb_2_5, ↓zxb_10_0, ↓zxb_10_1, ↓zxb_11_0, ↓zxb_11_1, ↓zxb_11_2, ↓zxb_11_3, ↓zxb_17_0, ↓zxb_19_0, ↓zxb_19_1, ↓zxb_19_2, ↓zxb_20_0, ↓zxb_20_1, ↓zxb_20_3, ↓zxb_20_4, ↓zxb_20_5, ↓zxb_20_6, ↓zxb_20_7, ↓zxb_20_8, ↓zxb_20_9, ↓zxb_30_0, ↓zxb_30_1, ↓zxb_30_4, ↓zxb_30_5, ↓zxb_48_0, ↓zxb_50_0, ↓zxb_52_0, ↓zxb_52_1, ↓zxb_52_2, ↓zxb_56_0, ↓zxb_56_1, ↓zxb_56_2, ↓zxb_57_0, ↓zxb_59_0, ↓zxb_80_3, ↓zxb_80_4, ↓zxb_80_5, ↓zxb_81_0, ↓zxb_81_1, ↓zxb_81_2, ↓zxb_81_3, ↓zxb_81_4, ↓zxb_81_5, ↓zxb_88_0, ↓zxb_88_1, ↓zxb_88_2, ↓zxb_93_3, ↓zxb_93_4, ↓zxb_93_5, ↓zxb_94_0, ↓zxb_94_1, ↓zxb_94_2, ↓zxb_94_3, ↓zxb_94_4, ↓zxb_94_5, ↓zxb_101_0, ↓zxb_101_1, ↓zxb_101_2, ↓zxb_106_0, ↓zxb_106_1, ↓zxb_106_2, ↓zxb_110_0, ↓zxb_110_1, ↓zxb_110_2, ↓zxb_114_0, ↓zxb_114_1, ↓zxb_114_2, ↓zgb_9, ↓zsb_9, ↓zgb_16, ↓zsb_16, ↓zgb_18, ↓zsb_18, ↓zgb_21, ↓zsb_21, ↓zgb_22, ↓zsb_22, ↓zgb_23, ↓zsb_23, ↓zgb_24, ↓zsb_24, ↓zgb_25, ↓zsb_25, ↓zgb_26, ↓zsb_26, ↓zgb_27, ↓zsb_27, ↓zgb_28, ↓zsb_28, ↓zgb_29, ↓zsb_29, ↓zgb_47, ↓zsb_47, ↓zgb_49, ↓zsb_49, ↓zgb_51, ↓zsb_51, ↓zgb_53, ↓zsb_53, ↓zgb_54, ↓zsb_54, ↓zgb_55, ↓zsb_55, ↓zgb_58, ↓zsb_58, ↓zgb_76, ↓zsb_76, ↓zgb_79, ↓zsb_79, zi_0, zi_1, zi_10, zi_17, zi_19, zi_20, zi_30, zi_48, zi_50, zi_52, zi_57, zi_59, zi_80, zi_93, zi_106, zi_110, zi_114, zx_0_0, zx_0_1, zx_0_2, zx_0_3, zx_0_4, zx_0_5, zx_0_6, zx_0_7, zx_0_8, zx_0_9, zx_0_10, zx_1_0, zx_1_1, zx_2_0, zx_2_1, zx_2_2, zx_2_3, zx_2_4, zx_2_5, zx_10_0, zx_10_1, zx_11_0, zx_11_1, zx_11_2, zx_11_3, zx_17_0, zx_19_0, zx_19_1, zx_19_2, zx_20_0, zx_20_1, zx_20_3, zx_20_4, zx_20_5, zx_20_6, zx_20_7, zx_20_8, zx_20_9, zx_30_0, zx_30_1, zx_30_4, zx_30_5, zx_48_0, zx_50_0, zx_52_0, zx_52_1, zx_52_2, zx_56_0, zx_56_1, zx_56_2, zx_57_0, zx_59_0, zx_80_3, zx_80_4, zx_80_5, zx_81_0, zx_81_1, zx_81_2, zx_81_3, zx_81_4, zx_81_5, zx_88_0, zx_88_1, zx_88_2, zx_93_3, zx_93_4, zx_93_5, zx_94_0, zx_94_1, zx_94_2, zx_94_3, zx_94_4, zx_94_5, zx_101_0, zx_101_1, zx_101_2, zx_106_0, zx_106_1, zx_106_2, zx_110_0, zx_110_1, zx_110_2, zx_114_0, zx_114_1, zx_114_2, zgI_9, zsI_9, zgI_16, zsI_16, zgI_18, zsI_18, zgI_21, zsI_21, zgI_22, zsI_22, zgI_23, zsI_23, zgI_24, zsI_24, zgI_25, zsI_25, zgI_26, zsI_26, zgI_27, zsI_27, zgI_28, zsI_28, zgI_29, zsI_29, zgI_47, zsI_47, zgI_49, zsI_49, zgI_51, zsI_51, zgI_53, zsI_53, zgI_54, zsI_54, zgI_55, zsI_55, zgI_58, zsI_58, zgI_76, zsI_76, zgI_79, zsI_79, zb_49_0, c_no_t zS2, c_ms_f zS2 hF hT hr e, hsp, e1, hs1, hc1, hs2, c2, e3]
    refine zloop (fun i σ4 => (85, [(0, .ref 0), (3, .int (nI i))], [], zL, σ4, 0, 0)) (fun i σ4 => (∀ k, k < i → σ4.1 (106 + 4 * k) 3 = -nI 1) ∧ zKeep (fun x k => (x == 106 || x == 110 || x == 114) && k == 3) σ3 σ4) 3 (fun i σ4 hi hI ih => ?_) (fun σ4 hI => ?_) 0 _ (by omega) ⟨fun k hk => by omega, zKeep.rf _ _⟩
    · obtain ⟨i1, hK⟩ := hI
      have hF4 := hK.fix hF3 rfl
      have i6 : zm_is zL (106 + 4 * i) 6 = some () := (show ∀ i, i < 3 → zm_is zL (106 + 4 * i) 6 = some () by intro i hi; exact (show i = 0 ∨ i = 1 ∨ i = 2 by omega).elim (fun q => by rw [q]; rfl) (fun q => q.elim (fun q => by rw [q]; rfl) (fun q => by rw [q]; rfl))) i hi
      refine zW_of zg_49_85 ?_
      simp (maxSteps := 500000) (disch := first | assumption | omega) only [zn0, zn1, Option.bind_some, zm_ai, zm_al, zm_av, zm_opt, zm_fw, zE_l, zE_r, nI_add, pk_mul, pk_sub, pk_div, pk_rem, zrem, zpm1, zB_i0, zB_i1, zB_ok, zB_T, zB_F, nI_toInt, zT_sub, zT_neg, if_true, if_false, zw_R, zw_RL, zw_I, zF_R, zw_same, zw_cell, zw_ne, zF_at, zF_ne, ↓reduceIte, zd_leT, zd_leF, zd_ltT, zd_ltF, zd_eqF, zd_n1, zd_n2, eq_self, not_true_eq_false, not_false_eq_true, ↓zib_0, ↓zib_1, ↓zib_10, ↓zib_17, ↓zib_19, ↓zib_20, ↓zib_30, ↓zib_48, ↓zib_50, ↓zib_52, ↓zib_57, ↓zib_59, ↓zib_80, ↓zib_93, ↓zib_106, ↓zib_110, ↓zib_114, ↓zxb_0_0, ↓zxb_0_1, ↓zxb_0_2, ↓zxb_0_3, ↓zxb_0_4, ↓zxb_0_5, ↓zxb_0_6, ↓zxb_0_7, ↓zxb_0_8, ↓zxb_0_9, ↓zxb_0_10, ↓zxb_1_0, ↓zxb_1_1, ↓zxb_2_0, ↓zxb_2_1, ↓zxb_2_2, ↓zxb_2_3, ↓zxb_2_4, ↓zxb_2_5, ↓zxb_10_0, ↓zxb_10_1, ↓zxb_11_0, ↓zxb_11_1, ↓zxb_11_2, ↓zxb_11_3, ↓zxb_17_0, ↓zxb_19_0, ↓zxb_19_1, ↓zxb_19_2, ↓zxb_20_0, ↓zxb_20_1, ↓zxb_20_3, ↓zxb_20_4, ↓zxb_20_5, ↓zxb_20_6, ↓zxb_20_7, ↓zxb_20_8, ↓zxb_20_9, ↓zxb_30_0, ↓zxb_30_1, ↓zxb_30_4, ↓zxb_30_5, ↓zxb_48_0, ↓zxb_50_0, ↓zxb_52_0, ↓zxb_52_1, ↓zxb_52_2, ↓zxb_56_0, ↓zxb_56_1, ↓zxb_56_2, ↓zxb_57_0, ↓zxb_59_0, ↓zxb_80_3, ↓zxb_80_4, ↓zxb_80_5, ↓zxb_81_0, ↓zxb_81_1, ↓zxb_81_2, ↓zxb_81_3, ↓zxb_81_4, ↓zxb_81_5, ↓zxb_88_0, ↓zxb_88_1, ↓zxb_88_2, ↓zxb_93_3, ↓zxb_93_4, ↓zxb_93_5, ↓zxb_94_0, ↓zxb_94_1, ↓zxb_94_2, ↓zxb_94_3, ↓zxb_94_4, ↓zxb_94_5, ↓zxb_101_0, ↓zxb_101_1, ↓zxb_101_2, ↓zxb_106_0, ↓zxb_106_1, ↓zxb_106_2, ↓zxb_110_0, ↓zxb_110_1, ↓zxb_110_2, ↓zxb_114_0, ↓zxb_114_1, ↓zxb_114_2, ↓zgb_9, ↓zsb_9, ↓zgb_16, ↓zsb_16, ↓zgb_18, ↓zsb_18, ↓zgb_21, ↓zsb_21, ↓zgb_22, ↓zsb_22, ↓zgb_23, ↓zsb_23, ↓zgb_24, ↓zsb_24, ↓zgb_25, ↓zsb_25, ↓zgb_26, ↓zsb_26, ↓zgb_27, ↓zsb_27, ↓zgb_28, ↓zsb_28, ↓zgb_29, ↓zsb_29, ↓zgb_47, ↓zsb_47, ↓zgb_49, ↓zsb_49, ↓zgb_51, ↓zsb_51, ↓zgb_53, ↓zsb_53, ↓zgb_54, ↓zsb_54, ↓zgb_55, ↓zsb_55, ↓zgb_58, ↓zsb_58, ↓zgb_76, ↓zsb_76, ↓zgb_79, ↓zsb_79, zi_0, zi_1, zi_10, zi_17, zi_19, zi_20, zi_30, zi_48, zi_50, zi_52, zi_57, zi_59, zi_80, zi_93, zi_106, zi_110, zi_114, zx_0_0, zx_0_1, zx_0_2, zx_0_3, zx_0_4, zx_0_5, zx_0_6, zx_0_7, zx_0_8, zx_0_9, zx_0_10, zx_1_0, zx_1_1, zx_2_0, zx_2_1, zx_2_2, zx_2_3, zx_2_4, zx_2_5, zx_10_0, zx_10_1, zx_11_0, zx_11_1, zx_11_2, zx_11_3, zx_17_0, zx_19_0, zx_19_1, zx_19_2, zx_20_0, zx_20_1, zx_20_3, zx_20_4, zx_20_5, zx_20_6, zx_20_7, zx_20_8, zx_20_9, zx_30_0, zx_30_1, zx_30_4, zx_30_5, zx_48_0, zx_50_0, zx_52_0, zx_52_1, zx_52_2, zx_56_0, zx_56_1, zx_56_2, zx_57_0, zx_59_0, zx_80_3, zx_80_4, zx_80_5, zx_81_0, zx_81_1, zx_81_2, zx_81_3, zx_81_4, zx_81_5, zx_88_0, zx_88_1, zx_88_2, zx_93_3, zx_93_4, zx_93_5, zx_94_0, zx_94_1, zx_94_2, zx_94_3, zx_94_4, zx_94_5, zx_101_0, zx_101_1, zx_101_2, zx_106_0, zx_106_1, zx_106_2, zx_110_0, zx_110_1, zx_110_2, zx_114_0, zx_114_1, zx_114_2, zgI_9, zsI_9, zgI_16, zsI_16, zgI_18, zsI_18, zgI_21, zsI_21, zgI_22, zsI_22, zgI_23, zsI_23, zgI_24, zsI_24, zgI_25, zsI_25, zgI_26, zsI_26, zgI_27, zsI_27, zgI_28, zsI_28, zgI_29, zsI_29, zgI_47, zsI_47, zgI_49, zsI_49, zgI_51, zsI_51, zgI_53, zsI_53, zgI_54, zsI_54, zgI_55, zsI_55, zgI_58, zsI_58, zgI_76, zsI_76, zgI_79, zsI_79, zb_49_85, zgR_56, i6]
      refine ih _ ⟨fun k hk => ?_, hK.wI (by simp; omega)⟩
      by_cases ek : k = i
      · subst ek
        exact zw_same _ _ _ _
      · rw [zw_cell _ _ (by omega)]
        exact i1 k (by omega)
    · obtain ⟨i1, hK⟩ := hI
      have hF4 := hK.fix hF3 rfl
      have c4 : σ4.2.2 0 11 = some b := (hK.r rfl).trans c3
      have g4 : σ4.1 b 0 = nI G'.1 := (hK.i (by simp <;> omega)).trans G3.1
      have ib := zGo_i hb
      refine zW_of zg_49_85 ?_
      simp (maxSteps := 500000) (disch := first | assumption | omega) only [zn0, zn1, Option.bind_some, zm_ai, zm_al, zm_av, zm_opt, zm_fw, zE_l, zE_r, nI_add, pk_mul, pk_sub, pk_div, pk_rem, zrem, zpm1, zB_i0, zB_i1, zB_ok, zB_T, zB_F, nI_toInt, zT_sub, zT_neg, if_true, if_false, zw_R, zw_RL, zw_I, zF_R, zw_same, zw_cell, zw_ne, zF_at, zF_ne, ↓reduceIte, zd_leT, zd_leF, zd_ltT, zd_ltF, zd_eqF, zd_n1, zd_n2, eq_self, not_true_eq_false, not_false_eq_true, ↓zib_0, ↓zib_1, ↓zib_10, ↓zib_17, ↓zib_19, ↓zib_20, ↓zib_30, ↓zib_48, ↓zib_50, ↓zib_52, ↓zib_57, ↓zib_59, ↓zib_80, ↓zib_93, ↓zib_106, ↓zib_110, ↓zib_114, ↓zxb_0_0, ↓zxb_0_1, ↓zxb_0_2, ↓zxb_0_3, ↓zxb_0_4, ↓zxb_0_5, ↓zxb_0_6, ↓zxb_0_7, ↓zxb_0_8, ↓zxb_0_9, ↓zxb_0_10, ↓zxb_1_0, ↓zxb_1_1, ↓zxb_2_0, ↓zxb_2_1, ↓zxb_2_2, ↓zxb_2_3, ↓zxb_2_4, ↓zxb_2_5, ↓zxb_10_0, ↓zxb_10_1, ↓zxb_11_0, ↓zxb_11_1, ↓zxb_11_2, ↓zxb_11_3, ↓zxb_17_0, ↓zxb_19_0, ↓zxb_19_1, ↓zxb_19_2, ↓zxb_20_0, ↓zxb_20_1, ↓zxb_20_3, ↓zxb_20_4, ↓zxb_20_5, ↓zxb_20_6, ↓zxb_20_7, ↓zxb_20_8, ↓zxb_20_9, ↓zxb_30_0, ↓zxb_30_1, ↓zxb_30_4, ↓zxb_30_5, ↓zxb_48_0, ↓zxb_50_0, ↓zxb_52_0, ↓zxb_52_1, ↓zxb_52_2, ↓zxb_56_0, ↓zxb_56_1, ↓zxb_56_2, ↓zxb_57_0, ↓zxb_59_0, ↓zxb_80_3, ↓zxb_80_4, ↓zxb_80_5, ↓zxb_81_0, ↓zxb_81_1, ↓zxb_81_2, ↓zxb_81_3, ↓zxb_81_4, ↓zxb_81_5, ↓zxb_88_0, ↓zxb_88_1, ↓zxb_88_2, ↓zxb_93_3, ↓zxb_93_4, ↓zxb_93_5, ↓zxb_94_0, ↓zxb_94_1, ↓zxb_94_2, ↓zxb_94_3, ↓zxb_94_4, ↓zxb_94_5, ↓zxb_101_0, ↓zxb_101_1, ↓zxb_101_2, ↓zxb_106_0, ↓zxb_106_1, ↓zxb_106_2, ↓zxb_110_0, ↓zxb_110_1, ↓zxb_110_2, ↓zxb_114_0, ↓zxb_114_1, ↓zxb_114_2, ↓zgb_9, ↓zsb_9, ↓zgb_16, ↓zsb_16, ↓zgb_18, ↓zsb_18, ↓zgb_21, ↓zsb_21, ↓zgb_22, ↓zsb_22, ↓zgb_23, ↓zsb_23, ↓zgb_24, ↓zsb_24, ↓zgb_25, ↓zsb_25, ↓zgb_26, ↓zsb_26, ↓zgb_27, ↓zsb_27, ↓zgb_28, ↓zsb_28, ↓zgb_29, ↓zsb_29, ↓zgb_47, ↓zsb_47, ↓zgb_49, ↓zsb_49, ↓zgb_51, ↓zsb_51, ↓zgb_53, ↓zsb_53, ↓zgb_54, ↓zsb_54, ↓zgb_55, ↓zsb_55, ↓zgb_58, ↓zsb_58, ↓zgb_76, ↓zsb_76, ↓zgb_79, ↓zsb_79, zi_0, zi_1, zi_10, zi_17, zi_19, zi_20, zi_30, zi_48, zi_50, zi_52, zi_57, zi_59, zi_80, zi_93, zi_106, zi_110, zi_114, zx_0_0, zx_0_1, zx_0_2, zx_0_3, zx_0_4, zx_0_5, zx_0_6, zx_0_7, zx_0_8, zx_0_9, zx_0_10, zx_1_0, zx_1_1, zx_2_0, zx_2_1, zx_2_2, zx_2_3, zx_2_4, zx_2_5, zx_10_0, zx_10_1, zx_11_0, zx_11_1, zx_11_2, zx_11_3, zx_17_0, zx_19_0, zx_19_1, zx_19_2, zx_20_0, zx_20_1, zx_20_3, zx_20_4, zx_20_5, zx_20_6, zx_20_7, zx_20_8, zx_20_9, zx_30_0, zx_30_1, zx_30_4, zx_30_5, zx_48_0, zx_50_0, zx_52_0, zx_52_1, zx_52_2, zx_56_0, zx_56_1, zx_56_2, zx_57_0, zx_59_0, zx_80_3, zx_80_4, zx_80_5, zx_81_0, zx_81_1, zx_81_2, zx_81_3, zx_81_4, zx_81_5, zx_88_0, zx_88_1, zx_88_2, zx_93_3, zx_93_4, zx_93_5, zx_94_0, zx_94_1, zx_94_2, zx_94_3, zx_94_4, zx_94_5, zx_101_0, zx_101_1, zx_101_2, zx_106_0, zx_106_1, zx_106_2, zx_110_0, zx_110_1, zx_110_2, zx_114_0, zx_114_1, zx_114_2, zgI_9, zsI_9, zgI_16, zsI_16, zgI_18, zsI_18, zgI_21, zsI_21, zgI_22, zsI_22, zgI_23, zsI_23, zgI_24, zsI_24, zgI_25, zsI_25, zgI_26, zsI_26, zgI_27, zsI_27, zgI_28, zsI_28, zgI_29, zsI_29, zgI_47, zsI_47, zgI_49, zsI_49, zgI_51, zsI_51, zgI_53, zsI_53, zgI_54, zsI_54, zgI_55, zsI_55, zgI_58, zsI_58, zgI_76, zsI_76, zgI_79, zsI_79, zb_49_85, c4, g4, ib]
      exact ⟨σ4, rfl, i1, hK⟩
  obtain ⟨σ', e', kept, k4⟩ := key
  have kg : zKeep zFg σ1 σ' := k23.tr (k4.mo fun x k q => by
    simp only [Bool.or_eq_true, Bool.and_eq_true, beq_iff_eq] at q
    simp only [zFg, Bool.or_eq_true, Bool.and_eq_true, beq_iff_eq]
    omega)
  have f4 : ∀ {x k : Nat}, ¬ ((x = 106 ∨ x = 110 ∨ x = 114) ∧ k = 3) → (fun x k => (x == 106 || x == 110 || x == 114) && k == 3) x k = false := fun h => zff fun q => h (by
    simp only [Bool.or_eq_true, Bool.and_eq_true, beq_iff_eq] at q
    omega)
  have hF' := zFg_fix hF1 kg
  obtain ⟨b1, b2, ⟨π', b3⟩, b4, b5⟩ := B3
  refine ⟨σ', e', ⟨hF', (hR.keep k1 (fun k => zF33_f (by omega)) (fun r k hr => zF33_f (by omega))).keep kg (fun k => zFg_f (by omega)) (fun r k hr => zFg_f (by omega)), (hT.keep k1 (fun k => zF33_f (by omega)) (fun r k hr => zF33_f (by omega))).keep kg (fun k => zFg_f (by omega)) (fun r k hr => zFg_f (by omega)), (hKc.keep k1 ⟨zF33_f (by omega), zF33_f (by omega), zF33_f (by omega), zF33_f (by omega)⟩ (fun k => zF33_f (by omega))).keep kg ⟨zFg_f (by omega), zFg_f (by omega), zFg_f (by omega), zFg_f (by omega)⟩ (fun k => zFg_f (by omega)), hb, (k4.r (f4 (by omega))).trans c3, ?_, G3.keep hgk.1 k4 (fun k _ => f4 (by omega)) (fun y k _ _ => f4 (by omega)), b2.keep k4 (f4 (by omega)) (fun k => ⟨f4 (by omega), f4 (by omega), f4 (by omega)⟩), ⟨π', ?_⟩, (k4.i (f4 (by omega))).trans b4, (k4.i (f4 (by omega))).trans b5, ⟨?_, fun k hk => absurd hk (Nat.not_lt_zero _)⟩, fun k hk => ⟨fun _ => kept k hk, fun l q => by cases q⟩, fun _ => ⟨b1.keep k4 (f4 (by omega)) (fun k => ⟨f4 (by omega), f4 (by omega), f4 (by omega), f4 (by omega), f4 (by omega)⟩), (k4.r (f4 (by omega))).trans o3⟩, fun q => ?_, ρ, fun i hi => ?_, hρ.2⟩, (zF33_cls hb k1).tr (kg.mo fun x k q => ?_)⟩
  · rw [k4.r (f4 (by omega)), s3]
    exact congrArg some (by omega)
  · exact b3.keep ((zarr_ok hgk (o := 0) (by decide)).2.1.1) k4 (fun x k _ _ => f4 (by omega)) (f4 (by omega))
  · rw [k4.i (f4 (by omega))]; exact t3
  · have := hgk.2.2.1
    omega
  · rw [kg.r (zFg_f (by omega)), k1.r (zF33_f (by omega))]
    exact hρ.1 i hi
  · have := zFg_t q
    simp only [zCls, decide_eq_true_eq]
    omega
end ZGP
