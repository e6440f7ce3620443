/-! deeds as calls: what class and reference do around them -/
theorem zcg {α : Type} {f : Nat → α} {a b : Nat} (h : a = b) : f a = f b := congrArg f h
def zScr (x k : Nat) : Bool := (x == 48 && k == 1) || x == 49 || (x == 50 && k == 1) || x == 51 || (x == 57 && k == 1) || x == 58 || (x == 59 && (k == 1 || k == 2)) || (61 ≤ x && x ≤ 75) || (77 ≤ x && x ≤ 79) || (x == 17 && (k == 1 || k == 2)) || x == 18 || x == 29
def zMsc (x k : Nat) : Bool := (140 ≤ x && x ≤ 149) || (x == 118 && (k == 31 || k == 32 || k == 33 || k == 34 || k == 40 || k == 43))
theorem zScr_t {x k : Nat} (h : zScr x k = true) : (x = 48 ∧ k = 1) ∨ x = 49 ∨ (x = 50 ∧ k = 1) ∨ x = 51 ∨ (x = 57 ∧ k = 1) ∨ x = 58 ∨ (x = 59 ∧ (k = 1 ∨ k = 2)) ∨ (61 ≤ x ∧ x ≤ 75) ∨ (77 ≤ x ∧ x ≤ 79) ∨ (x = 17 ∧ (k = 1 ∨ k = 2)) ∨ x = 18 ∨ x = 29 := by
  simp only [zScr, Bool.or_eq_true, Bool.and_eq_true, decide_eq_true_eq, beq_iff_eq] at h
  omega
theorem zMsc_t {x k : Nat} (h : zMsc x k = true) : (140 ≤ x ∧ x ≤ 149) ∨ (x = 118 ∧ (k = 31 ∨ k = 32 ∨ k = 33 ∨ k = 34 ∨ k = 40 ∨ k = 43)) := by
  simp only [zMsc, Bool.or_eq_true, Bool.and_eq_true, decide_eq_true_eq, beq_iff_eq] at h
  omega
theorem zff {b : Bool} (h : ¬ b = true) : b = false := by cases b <;> simp at h ⊢
section ZPF
variable {σ σ' : zm_Sig} {a : Nat} {G : zG} {ds : List zDd} {ks : zKs} {R T : zRo} {K : zK} {S : Nat → Nat → Bool} {d : zDd}
theorem zC.keep (h : zC σ a R T K G ds ks) (hV : zVk G ds ks) (hK : zKeep S σ σ') (hF : zFix σ') (hS : ∀ x k, S x k = true → ¬ (3 ≤ x ∧ x ≤ 9) ∧ ¬ (12 ≤ x ∧ x ≤ 16) ∧ ¬ (x = 0 ∧ 11 ≤ k) ∧ x ≠ 76 ∧ ¬ (19 ≤ x ∧ x ≤ 28) ∧ ¬ (30 ≤ x ∧ x ≤ 47) ∧ ¬ (52 ≤ x ∧ x ≤ 56) ∧ ¬ (a ≤ x ∧ x ≤ a + 12) ∧ ¬ (106 ≤ x ∧ x ≤ 117) ∧ x ≠ 60) : zC σ' a R T K G ds ks := by
  have hs : ∀ x k, ((3 ≤ x ∧ x ≤ 9) ∨ (12 ≤ x ∧ x ≤ 16) ∨ (x = 0 ∧ 11 ≤ k) ∨ x = 76 ∨ (19 ≤ x ∧ x ≤ 28) ∨ (30 ≤ x ∧ x ≤ 47) ∨ (52 ≤ x ∧ x ≤ 56) ∨ (a ≤ x ∧ x ≤ a + 12) ∨ (106 ≤ x ∧ x ≤ 117) ∨ x = 60) → S x k = false := fun x k q => zff fun q2 => by
    have := hS x k q2
    omega
  exact ⟨hF, h.2.1.keep hK (fun k => hs _ _ (by omega)) (fun r k hr => hs _ _ (by omega)), h.2.2.1.keep hK (fun k => hs _ _ (by omega)) (fun r k hr => hs _ _ (by omega)), h.2.2.2.1.keep hK ⟨hs _ _ (by omega), hs _ _ (by omega), hs _ _ (by omega), hs _ _ (by omega)⟩ (fun k => hs _ _ (by omega)), h.2.2.2.2.keep hV hK fun x k q => hs _ _ (by have := zCi_f q; omega)⟩
theorem zC.scr (h : zC σ a R T K G ds ks) (hV : zVk G ds ks) (hK : zKeep zScr σ σ') : zC σ' a R T K G ds ks := h.keep hV hK (hK.fix h.1 rfl) fun x k q => by
  have := zScr_t q
  have := h.2.2.2.2.1
  unfold zGo at this
  omega
theorem zScr_cls (hK : zKeep zScr σ σ') : zKeep zCls σ σ' := hK.mo fun x k q => by
  have := zScr_t q
  simp only [zCls, decide_eq_true_eq]
  omega
theorem zFDS_scr (hK : zKeep zFDS σ σ') : zKeep zScr σ σ' := hK.mo fun x k q => by
  simp only [zFDS, zFW, Bool.or_eq_true, Bool.and_eq_true, beq_iff_eq] at q
  simp only [zScr, Bool.or_eq_true, Bool.and_eq_true, decide_eq_true_eq, beq_iff_eq]
  omega
theorem zFW_scr {o : Nat} (ho : zWo o) (hK : zKeep (zFW o) σ σ') : zKeep zScr σ σ' := hK.mo fun x k q => by
  simp only [zFW, Bool.or_eq_true, Bool.and_eq_true, beq_iff_eq] at q
  simp only [zScr, Bool.or_eq_true, Bool.and_eq_true, decide_eq_true_eq, beq_iff_eq]
  unfold zWo at ho
  omega
theorem zMm.keep (h : zMm σ R T K G ds ks) (hV : zVk G ds ks) (hK : zKeep S σ σ') (hF : zFix σ') (hS : ∀ x k, S x k = true → ¬ (119 ≤ x ∧ x ≤ 139) ∧ ¬ (x = 118 ∧ (k = 26 ∨ k = 27 ∨ k = 28 ∨ k = 29 ∨ k = 4 ∨ k = 5 ∨ k = 6 ∨ k = 16 ∨ k = 20 ∨ k = 23))) : zMm σ' R T K G ds ks := by
  have hs : ∀ x k, ((119 ≤ x ∧ x ≤ 139) ∨ (x = 118 ∧ (k = 26 ∨ k = 27 ∨ k = 28 ∨ k = 29 ∨ k = 4 ∨ k = 5 ∨ k = 6 ∨ k = 16 ∨ k = 20 ∨ k = 23))) → S x k = false := fun x k q => zff fun q2 => by
    have := hS x k q2
    omega
  exact ⟨hF, h.2.1.keep hK (fun k => hs _ _ (by omega)) (fun k => hs _ _ (by omega)), h.2.2.1.keep hK (fun k => hs _ _ (by omega)) (fun k => hs _ _ (by omega)), h.2.2.2.1.keep hK ⟨hs _ _ (by omega), hs _ _ (by omega), hs _ _ (by omega), hs _ _ (by omega)⟩ (fun k => hs _ _ (by omega)), h.2.2.2.2.keep hV hK fun x k q => hs _ _ (by have := zMi_f q; omega)⟩
theorem zMm.scr (h : zMm σ R T K G ds ks) (hV : zVk G ds ks) (hK : zKeep zMsc σ σ') : zMm σ' R T K G ds ks := h.keep hV hK (hK.fix h.1 rfl) fun x k q => by
  have := zMsc_t q
  omega
theorem zMsc_rfs (hK : zKeep zMsc σ σ') : zKeep zRfs σ σ' := hK.mo fun x k q => by
  have := zMsc_t q
  simp only [zRfs, decide_eq_true_eq]
  omega
theorem zFMs_msc (hK : zKeep zFMs σ σ') : zKeep zMsc σ σ' := hK.mo fun x k q => by
  simp only [zFMs, zFI, zFM, Bool.or_eq_true, Bool.and_eq_true, beq_iff_eq] at q
  simp only [zMsc, Bool.or_eq_true, Bool.and_eq_true, decide_eq_true_eq, beq_iff_eq]
  omega
theorem zFM_msc (hK : zKeep zFM σ σ') : zKeep zMsc σ σ' := hK.mo fun x k q => by
  simp only [zFM, Bool.or_eq_true, Bool.and_eq_true, beq_iff_eq] at q
  simp only [zMsc, Bool.or_eq_true, Bool.and_eq_true, decide_eq_true_eq, beq_iff_eq]
  omega
theorem zFP_t {x k : Nat} (h : zFP x k = true) : (x = 19 ∧ k = 3) ∨ (x = 20 ∧ (k = 2 ∨ k = 10)) ∨ (21 ≤ x ∧ x ≤ 28) ∨ (x = 30 ∧ (k = 2 ∨ k = 3)) ∨ (31 ≤ x ∧ x ≤ 55) := by
  simp only [zFP, zFB, zFC, zFDS, zFW, zFL, Bool.or_eq_true, Bool.and_eq_true, decide_eq_true_eq, beq_iff_eq] at h
  omega
theorem zFP_f {x k : Nat} (h : ¬ ((x = 19 ∧ k = 3) ∨ (x = 20 ∧ (k = 2 ∨ k = 10)) ∨ (21 ≤ x ∧ x ≤ 28) ∨ (x = 30 ∧ (k = 2 ∨ k = 3)) ∨ (31 ≤ x ∧ x ≤ 55))) : zFP x k = false := zff fun q => h (zFP_t q)
theorem zFP_cls (hK : zKeep zFP σ σ') : zKeep zCls σ σ' := hK.mo fun x k q => by
  have := zFP_t q
  simp only [zCls, decide_eq_true_eq]
  omega
/-- another book of the same group -/
theorem zC.book {ds' : List zDd} (h : zC σ a R T K G ds ks) (hV : zVk G ds ks) (h0 : 0 < G.1) (hK : zKeep zFP σ σ') (hB : zCB σ' G (zrun G ds')) (hT : zTl σ' 52 ds') : zC σ' a R T K G ds' ks := by
  obtain ⟨hF, hR, hTx, hKc, ha, hcu, hsp, hG, hN, ⟨π, hCR⟩, hL, hO, hTl, hks, hpos, hzero, ρ, hρ⟩ := h
  have hge := ha.ge
  obtain ⟨b1, b2, b3, b4, b5⟩ := hB
  exact ⟨hK.fix hF rfl, hR.keep hK (fun k => zFP_f (by omega)) (fun r k hr => zFP_f (by omega)), hTx.keep hK (fun k => zFP_f (by omega)) (fun r k hr => zFP_f (by omega)), hKc.keep hK ⟨zFP_f (by omega), zFP_f (by omega), zFP_f (by omega), zFP_f (by omega)⟩ (fun k => zFP_f (by omega)), ha, (hK.r (zFP_f (by omega))).trans hcu, (hK.r (zFP_f (by omega))).trans hsp, hG.keep hV.1 hK (fun k _ => zFP_f (by omega)) (fun b k _ _ => zFP_f (by omega)), b2, b3, b4, b5, hT, fun k hk => ⟨fun q => (hK.i (zFP_f (by omega))).trans ((hks k hk).1 q), fun l q => ((hks k hk).2 l q).keep hK (zFP_f (by omega)) (fun b k _ _ => zFP_f (by omega))⟩, fun _ => ⟨b1, (hK.r (zFP_f (by omega))).trans (hpos h0).2⟩, fun q => by omega, ρ, fun i hi => (hK.r (zFP_f (by omega))).trans (hρ.1 i hi), hρ.2⟩
theorem zC.cb (h : zC σ a R T K G ds ks) (h0 : 0 < G.1) : zCB σ G (zrun G ds) := by
  obtain ⟨hF, hR, hTx, hKc, ha, hcu, hsp, hG, hN, hCR, hL, hO, hTl, hks, hpos, -⟩ := h
  exact ⟨(hpos h0).1, hN, hCR, hL, hO⟩
theorem zC.perf (h : zC σ a R T K G ds ks) (hV : zVk G ds ks) (h0 : 0 < G.1) (hl : ds.length < 20) (hd : zva d (zrun G ds)) :
    ∃ σ', zM 104 [.ref 19, .int (nI d.1), .int (nI d.2.1), .int (nI d.2.2)] zL σ = some (none, zL, σ') ∧ zC σ' a R T K G (ds ++ [d]) ks ∧ zKeep zFP σ σ' := by
  have hcb := h.cb h0
  obtain ⟨hF, hR, hTx, hKc, ha, hcu, hsp, hG, hN, ⟨π, hCR⟩, hL, hO, hTl, hks, hpos, hzero⟩ := id h
  obtain ⟨σ', e1, hB, hT', hK⟩ := c_perform hF ha (hpos h0).2 hG (hV.pos h0).1 hcb hV.bok hd hTl hl
  exact ⟨σ', e1, h.book hV h0 hK (by rw [zrun_snoc]; exact hB) hT', hK⟩
theorem zVk.snoc (hV : zVk G ds ks) (h0 : 0 < G.1) (hl : ds.length < 20) (hd : zva d (zrun G ds)) : zVk G (ds ++ [d]) ks := by
  obtain ⟨h1, h2, h3⟩ := hV.pos h0
  exact ⟨hV.1, Or.inr ⟨h1, h2.snoc hl hd, h3⟩⟩
theorem c_isFull (hF : zFix σ) (h : zTl σ 52 ds) (hl : ds.length ≤ 20) {m : Nat} (hm : m ≤ 100) : zM 103 [.ref 19, .int (nI m)] zL σ = some (some (.int (zB (20 < ds.length + m))), zL, σ) := by
  have h1 := h.1
  refine zS_eq (zS_of ze_103 ?_)
  by_cases q : 20 < ds.length + m
  · rw [zB_t q]
    simp (disch := first | assumption | omega) only [zn0, zn1, Option.bind_some, zm_ai, zm_al, zm_av, zm_opt, zm_fw, zE_l, zE_r, nI_add, pk_mul, pk_sub, pk_div, pk_rem, zrem, zpm1, zB_i0, zB_i1, zB_ok, zB_T, zB_F, nI_toInt, zT_sub, zT_neg, zT_le, zT_lt, nI_eq, zne1, zne2, zne9, ite_not, or_true, true_or, if_true, if_false, if_pos, if_neg, zw_R, zw_RL, zw_I, zF_R, zw_same, zw_cell, zw_ne, zF_at, zF_ne, ↓zib_0, ↓zib_1, ↓zib_10, ↓zib_17, ↓zib_19, ↓zib_20, ↓zib_30, ↓zib_48, ↓zib_50, ↓zib_52, ↓zib_57, ↓zib_59, ↓zib_80, ↓zib_93, ↓zib_106, ↓zib_110, ↓zib_114, ↓zxb_0_0, ↓zxb_0_1, ↓zxb_0_2, ↓zxb_0_3, ↓zxb_0_4, ↓zxb_0_5, ↓zxb_0_6, ↓zxb_0_7, ↓zxb_0_8, ↓zxb_0_9, ↓zxb_0_10, ↓zxb_1_0, ↓zxb_1_1, ↓zxb_2_0, ↓zxb_2_1, ↓zxb_2_2, ↓zxb_2_3, ↓zxb_2_4, ↓zxb_2_5, ↓zxb_10_0, ↓zxb_10_1, ↓zxb_11_0, ↓zxb_11_1, ↓zxb_11_2, ↓zxb_11_3, ↓zxb_17_0, ↓zxb_19_0, ↓zxb_19_1, ↓zxb_19_2, ↓zxb_20_0, ↓zxb_20_1, ↓zxb_20_3, ↓zxb_20_4, ↓zxb_20_5, ↓zxb_20_6, ↓zxb_20_7, ↓zxb_20_8, ↓zxb_20_9, ↓zxb_30_0, ↓zxb_30_1, ↓zxb_30_4, ↓zxb_30_5, ↓zxb_48_0, ↓zxb_50_0, ↓zxb_52_0, ↓zxb_52_1, ↓zxb_52_2, ↓zxb_56_0, ↓zxb_56_1, ↓zxb_56_2, ↓zxb_57_0, ↓zxb_59_0, ↓zxb_80_3, ↓zxb_80_4, ↓zxb_80_5, ↓zxb_81_0, ↓zxb_81_1, ↓zxb_81_2, ↓zxb_81_3, ↓zxb_81_4, ↓zxb_81_5, ↓zxb_88_0, ↓zxb_88_1, ↓zxb_88_2, ↓zxb_93_3, ↓zxb_93_4, ↓zxb_93_5, ↓zxb_94_0, ↓zxb_94_1, ↓zxb_94_2, ↓zxb_94_3, ↓zxb_94_4, ↓zxb_94_5, ↓zxb_101_0, ↓zxb_101_1, ↓zxb_101_2, ↓zxb_106_0, ↓zxb_106_1, ↓zxb_106_2, ↓zxb_110_0, ↓zxb_110_1, ↓zxb_110_2, ↓zxb_114_0, ↓zxb_114_1, ↓zxb_114_2, ↓zgb_9, ↓zsb_9, ↓zgb_16, ↓zsb_16, ↓zgb_18, ↓zsb_18, ↓zgb_21, ↓zsb_21, ↓zgb_22, ↓zsb_22, ↓zgb_23, ↓zsb_23, ↓zgb_24, ↓zsb_24, ↓zgb_25, ↓zsb_25, ↓zgb_26, ↓zsb_26, ↓zgb_27, ↓zsb_27, ↓zgb_28, ↓zsb_28, ↓zgb_29, ↓zsb_29, ↓zgb_47, ↓zsb_47, ↓zgb_49, ↓zsb_49, ↓zgb_51, ↓zsb_51, ↓zgb_53, ↓zsb_53, ↓zgb_54, ↓zsb_54, ↓zgb_55, ↓zsb_55, ↓zgb_58, ↓zsb_58, ↓zgb_76, ↓zsb_76, ↓zgb_79, ↓zsb_79, zi_0, zi_1, zi_10, zi_17, zi_19, zi_20, zi_30, zi_48, zi_50, zi_52, zi_57, zi_59, zi_80, zi_93, zi_106, zi_110, zi_114, zx_0_0, zx_0_1, zx_0_2, zx_0_3, zx_0_4, zx_0_5, zx_0_6, zx_0_7, zx_0_8, zx_0_9, zx_0_10, zx_1_0, zx_1_1, zx_2_0, zx_2_1, zx_2_2, zx_2_3, zx_2_4, zx_2_5, zx_10_0, zx_10_1, zx_11_0, zx_11_1, zx_11_2, zx_11_3, zx_17_0, zx_19_0, zx_19_1, zx_19_2, zx_20_0, zx_20_1, zx_20_3, zx_20_4, zx_20_5, zx_20_6, zx_20_7, zx_20_8, zx_20_9, zx_30_0, zx_30_1, zx_30_4, zx_30_5, zx_48_0, zx_50_0, zx_52_0, zx_52_1, zx_52_2, zx_56_0, zx_56_1, zx_56_2, zx_57_0, zx_59_0, zx_80_3, zx_80_4, zx_80_5, zx_81_0, zx_81_1, zx_81_2, zx_81_3, zx_81_4, zx_81_5, zx_88_0, zx_88_1, zx_88_2, zx_93_3, zx_93_4, zx_93_5, zx_94_0, zx_94_1, zx_94_2, zx_94_3, zx_94_4, zx_94_5, zx_101_0, zx_101_1, zx_101_2, zx_106_0, zx_106_1, zx_106_2, zx_110_0, zx_110_1, zx_110_2, zx_114_0, zx_114_1, zx_114_2, zgI_9, zsI_9, zgI_16, zsI_16, zgI_18, zsI_18, zgI_21, zsI_21, zgI_22, zsI_22, zgI_23, zsI_23, zgI_24, zsI_24, zgI_25, zsI_25, zgI_26, zsI_26, zgI_27, zsI_27, zgI_28, zsI_28, zgI_29, zsI_29, zgI_47, zsI_47, zgI_49, zsI_49, zgI_51, zsI_51, zgI_53, zsI_53, zgI_54, zsI_54, zgI_55, zsI_55, zgI_58, zsI_58, zgI_76, zsI_76, zgI_79, zsI_79, zb_103_0, h1]
  · rw [zB_f q]
    simp (disch := first | assumption | omega) only [zn0, zn1, Option.bind_some, zm_ai, zm_al, zm_av, zm_opt, zm_fw, zE_l, zE_r, nI_add, pk_mul, pk_sub, pk_div, pk_rem, zrem, zpm1, zB_i0, zB_i1, zB_ok, zB_T, zB_F, nI_toInt, zT_sub, zT_neg, zT_le, zT_lt, nI_eq, zne1, zne2, zne9, ite_not, or_true, true_or, if_true, if_false, if_pos, if_neg, zw_R, zw_RL, zw_I, zF_R, zw_same, zw_cell, zw_ne, zF_at, zF_ne, ↓zib_0, ↓zib_1, ↓zib_10, ↓zib_17, ↓zib_19, ↓zib_20, ↓zib_30, ↓zib_48, ↓zib_50, ↓zib_52, ↓zib_57, ↓zib_59, ↓zib_80, ↓zib_93, ↓zib_106, ↓zib_110, ↓zib_114, ↓zxb_0_0, ↓zxb_0_1, ↓zxb_0_2, ↓zxb_0_3, ↓zxb_0_4, ↓zxb_0_5, ↓zxb_0_6, ↓zxb_0_7, ↓zxb_0_8, ↓zxb_0_9, ↓zxb_0_10, ↓zxb_1_0, ↓zxb_1_1, ↓zxb_2_0, ↓zxb_2_1, ↓zxb_2_2, ↓zxb_2_3, ↓zxb_2_4, ↓zxb_2_5, ↓zxb_10_0, ↓zxb_10_1, ↓zxb_11_0, ↓zxb_11_1, ↓zxb_11_2, ↓zxb_11_3, ↓zxb_17_0, ↓zxb_19_0, ↓zxb_19_1, ↓zxb_19_2, ↓zxb_20_0, ↓zxb_20_1, ↓zxb_20_3, ↓zxb_20_4, ↓zxb_20_5, ↓zxb_20_6, ↓zxb_20_7, ↓zxb_20_8, ↓zxb_20_9, ↓zxb_30_0, ↓zxb_30_1, ↓zxb_30_4, ↓zxb_30_5, ↓zxb_48_0, ↓zxb_50_0, ↓zxb_52_0, ↓zxb_52_1, ↓zxb_52_2, ↓zxb_56_0, ↓zxb_56_1, ↓zxb_56_2, ↓zxb_57_0, ↓zxb_59_0, ↓zxb_80_3, ↓zxb_80_4, ↓zxb_80_5, ↓zxb_81_0, ↓zxb_81_1, ↓zxb_81_2, ↓zxb_81_3, ↓zxb_81_4, ↓zxb_81_5, ↓zxb_88_0, ↓zxb_88_1, ↓zxb_88_2, ↓zxb_93_3, ↓zxb_93_4, ↓zxb_93_5, ↓zxb_94_0, ↓zxb_94_1, ↓zxb_94_2, ↓zxb_94_3, ↓zxb_94_4, ↓zxb_94_5, ↓zxb_101_0, ↓zxb_101_1, ↓zxb_101_2, ↓zxb_106_0, ↓zxb_106_1, ↓zxb_106_2, ↓zxb_110_0, ↓zxb_110_1, ↓zxb_110_2, ↓zxb_114_0, ↓zxb_114_1, ↓zxb_114_2, ↓zgb_9, ↓zsb_9, ↓zgb_16, ↓zsb_16, ↓zgb_18, ↓zsb_18, ↓zgb_21, ↓zsb_21, ↓zgb_22, ↓zsb_22, ↓zgb_23, ↓zsb_23, ↓zgb_24, ↓zsb_24, ↓zgb_25, ↓zsb_25, ↓zgb_26, ↓zsb_26, ↓zgb_27, ↓zsb_27, ↓zgb_28, ↓zsb_28, ↓zgb_29, ↓zsb_29, ↓zgb_47, ↓zsb_47, ↓zgb_49, ↓zsb_49, ↓zgb_51, ↓zsb_51, ↓zgb_53, ↓zsb_53, ↓zgb_54, ↓zsb_54, ↓zgb_55, ↓zsb_55, ↓zgb_58, ↓zsb_58, ↓zgb_76, ↓zsb_76, ↓zgb_79, ↓zsb_79, zi_0, zi_1, zi_10, zi_17, zi_19, zi_20, zi_30, zi_48, zi_50, zi_52, zi_57, zi_59, zi_80, zi_93, zi_106, zi_110, zi_114, zx_0_0, zx_0_1, zx_0_2, zx_0_3, zx_0_4, zx_0_5, zx_0_6, zx_0_7, zx_0_8, zx_0_9, zx_0_10, zx_1_0, zx_1_1, zx_2_0, zx_2_1, zx_2_2, zx_2_3, zx_2_4, zx_2_5, zx_10_0, zx_10_1, zx_11_0, zx_11_1, zx_11_2, zx_11_3, zx_17_0, zx_19_0, zx_19_1, zx_19_2, zx_20_0, zx_20_1, zx_20_3, zx_20_4, zx_20_5, zx_20_6, zx_20_7, zx_20_8, zx_20_9, zx_30_0, zx_30_1, zx_30_4, zx_30_5, zx_48_0, zx_50_0, zx_52_0, zx_52_1, zx_52_2, zx_56_0, zx_56_1, zx_56_2, zx_57_0, zx_59_0, zx_80_3, zx_80_4, zx_80_5, zx_81_0, zx_81_1, zx_81_2, zx_81_3, zx_81_4, zx_81_5, zx_88_0, zx_88_1, zx_88_2, zx_93_3, zx_93_4, zx_93_5, zx_94_0, zx_94_1, zx_94_2, zx_94_3, zx_94_4, zx_94_5, zx_101_0, zx_101_1, zx_101_2, zx_106_0, zx_106_1, zx_106_2, zx_110_0, zx_110_1, zx_110_2, zx_114_0, zx_114_1, zx_114_2, zgI_9, zsI_9, zgI_16, zsI_16, zgI_18, zsI_18, zgI_21, zsI_21, zgI_22, zsI_22, zgI_23, zsI_23, zgI_24, zsI_24, zgI_25, zsI_25, zgI_26, zsI_26, zgI_27, zsI_27, zgI_28, zsI_28, zgI_29, zsI_29, zgI_47, zsI_47, zgI_49, zsI_49, zgI_51, zsI_51, zgI_53, zsI_53, zgI_54, zsI_54, zgI_55, zsI_55, zgI_58, zsI_58, zgI_76, zsI_76, zgI_79, zsI_79, zb_103_0, h1]
/-- the reference: a deed is noted -/
def zFMe (x k : Nat) : Bool := (127 ≤ x && x ≤ 135) || x == 144 || x == 146 || (x == 118 && (k == 16 || k == 20 || k == 40 || k == 43))
theorem zFMe_f {x k : Nat} (h : ¬ ((127 ≤ x ∧ x ≤ 135) ∨ x = 144 ∨ x = 146 ∨ (x = 118 ∧ (k = 16 ∨ k = 20 ∨ k = 40 ∨ k = 43)))) : zFMe x k = false := zff fun q => h (by
  simp only [zFMe, Bool.or_eq_true, Bool.and_eq_true, decide_eq_true_eq, beq_iff_eq] at q
  omega)
def zFMn (x k : Nat) : Bool := x == 136 || (x == 118 && k == 23)
def zNt (σ : zm_Sig) (R T : zRo) (K : zK) (G : zG) (ds : List zDd) (ks : zKs) : Prop := zFix σ ∧ zSm σ 119 120 6 40 R ∧ zSm σ 121 122 4 60 T ∧ zKm σ K ∧ zMG σ G ∧ zMN σ G (ztree G (zrun G ds).1) ∧ zMB (σ.1 135) (zrun G ds) ∧ σ.1 118 23 = nI (ds.length + 1) ∧ (∀ j, j < ds.length + 1 → zMB (fun i => σ.1 136 (258 * j + i)) (zrun G (ds.take j))) ∧
  (∀ k, k < 3 → (ks k = none → σ.1 138 k = nI 0) ∧ ∀ l, ks k = some l → σ.1 138 k = nI 1 ∧ σ.1 137 (5419 * k) = nI l.length ∧ zMB (fun i => σ.1 137 (5419 * k + 1 + i)) (zrun G l) ∧ ∀ j, j < l.length → zMB (fun i => σ.1 137 (5419 * k + 259 + 258 * j + i)) (zrun G (l.take j))) ∧ (0 < G.1 → zMT σ (ztree G (zrun G ds).1))
theorem m_notes (h : zMm σ R T K G ds ks) (hV : zVk G ds ks) (hl : ds.length < 20) : ∃ σ', zM 246 [.ref 118] zL σ = some (none, zL, σ') ∧ zNt σ' R T K G ds ks ∧ zKeep zFMn σ σ' := by
  obtain ⟨hF, hR, hT, hKm, gG, gN, gB, gd, gb, gk, gp⟩ := h
  have e1 := m_bring (σ := σ) (s := 135) (d := 136) (ns := 258) (nd := 5160) rfl rfl (by decide) (by decide) (i := 0) (j := 258 * ds.length) (n := 258) (by omega) (by omega) (Or.inl (by decide))
  have hK : zKeep zFMn σ (zm_wI (zm_wF σ 136 (fun k => if 258 * ds.length ≤ k ∧ k < 258 * ds.length + 258 then σ.1 135 (0 + (k - 258 * ds.length)) else σ.1 136 k)) 118 23 (nI (ds.length + 1))) := ((zKeep.rf _ _).wF fun k => rfl).wI rfl
  have hb := hV.bok.b
  refine ⟨_, zS_eq (zS_of ze_246 ?_), ⟨hK.fix hF rfl, hR.keep hK (fun k => rfl) (fun k => rfl), hT.keep hK (fun k => rfl) (fun k => rfl), hKm.keep hK ⟨rfl, rfl, rfl, rfl⟩ (fun k => rfl), gG.keep hK ⟨rfl, rfl, rfl⟩ (fun k => ⟨rfl, rfl, rfl, rfl⟩), gN.keep hK rfl (fun k => ⟨rfl, rfl, rfl⟩), gB.eq hb.1 hb.2 (fun i _ => hK.i rfl), zw_same _ _ _ _, fun j hj => ?_, fun k hk => ⟨fun q => (hK.i rfl).trans ((gk k hk).1 q), fun l q => ?_⟩, fun q => (gp q).keep hK rfl (fun k => ⟨rfl, rfl, rfl, rfl, rfl⟩)⟩, hK⟩
  · simp (disch := first | assumption | omega) only [zn0, zn1, Option.bind_some, zm_ai, zm_al, zm_av, zm_opt, zm_fw, zE_l, zE_r, nI_add, pk_mul, pk_sub, pk_div, pk_rem, zrem, zpm1, zB_i0, zB_i1, zB_ok, zB_T, zB_F, nI_toInt, zT_sub, zT_neg, zT_le, zT_lt, nI_eq, zne1, zne2, zne9, ite_not, or_true, true_or, if_true, if_false, if_pos, if_neg, zw_R, zw_RL, zw_I, zF_R, zw_same, zw_cell, zw_ne, zF_at, zF_ne, ↓zib_118, ↓zxb_118_0, ↓zxb_118_1, ↓zxb_118_2, ↓zxb_118_3, ↓zxb_118_7, ↓zxb_118_8, ↓zxb_118_9, ↓zxb_118_10, ↓zxb_118_11, ↓zxb_118_12, ↓zxb_118_13, ↓zxb_118_14, ↓zxb_118_15, ↓zxb_118_17, ↓zxb_118_18, ↓zxb_118_19, ↓zxb_118_21, ↓zxb_118_22, ↓zxb_118_24, ↓zxb_118_25, ↓zxb_118_30, ↓zxb_118_35, ↓zxb_118_36, ↓zxb_118_37, ↓zxb_118_38, ↓zxb_118_39, ↓zxb_118_41, ↓zxb_118_42, ↓zxb_118_44, ↓zxb_118_45, ↓zxb_118_46, ↓zgb_119, ↓zsb_119, ↓zgb_120, ↓zsb_120, ↓zgb_121, ↓zsb_121, ↓zgb_122, ↓zsb_122, ↓zgb_123, ↓zsb_123, ↓zgb_124, ↓zsb_124, ↓zgb_125, ↓zsb_125, ↓zgb_126, ↓zsb_126, ↓zgb_127, ↓zsb_127, ↓zgb_128, ↓zsb_128, ↓zgb_129, ↓zsb_129, ↓zgb_130, ↓zsb_130, ↓zgb_131, ↓zsb_131, ↓zgb_132, ↓zsb_132, ↓zgb_133, ↓zsb_133, ↓zgb_134, ↓zsb_134, ↓zgb_135, ↓zsb_135, ↓zgb_136, ↓zsb_136, ↓zgb_137, ↓zsb_137, ↓zgb_139, ↓zsb_139, ↓zgb_140, ↓zsb_140, ↓zgb_141, ↓zsb_141, ↓zgb_142, ↓zsb_142, ↓zgb_143, ↓zsb_143, ↓zgb_144, ↓zsb_144, ↓zgb_145, ↓zsb_145, ↓zgb_146, ↓zsb_146, ↓zgb_147, ↓zsb_147, zi_118, zx_118_0, zx_118_1, zx_118_2, zx_118_3, zx_118_7, zx_118_8, zx_118_9, zx_118_10, zx_118_11, zx_118_12, zx_118_13, zx_118_14, zx_118_15, zx_118_17, zx_118_18, zx_118_19, zx_118_21, zx_118_22, zx_118_24, zx_118_25, zx_118_30, zx_118_35, zx_118_36, zx_118_37, zx_118_38, zx_118_39, zx_118_41, zx_118_42, zx_118_44, zx_118_45, zx_118_46, zgI_119, zsI_119, zgI_120, zsI_120, zgI_121, zsI_121, zgI_122, zsI_122, zgI_123, zsI_123, zgI_124, zsI_124, zgI_125, zsI_125, zgI_126, zsI_126, zgI_127, zsI_127, zgI_128, zsI_128, zgI_129, zsI_129, zgI_130, zsI_130, zgI_131, zsI_131, zgI_132, zsI_132, zgI_133, zsI_133, zgI_134, zsI_134, zgI_135, zsI_135, zgI_136, zsI_136, zgI_137, zsI_137, zgI_139, zsI_139, zgI_140, zsI_140, zgI_141, zsI_141, zgI_142, zsI_142, zgI_143, zsI_143, zgI_144, zsI_144, zgI_145, zsI_145, zgI_146, zsI_146, zgI_147, zsI_147, zb_246_0, gd, e1]
  · have hbj := (hV.tk (j := j) (by omega)).b
    by_cases e : j = ds.length
    · subst e
      rw [List.take_length] at hbj ⊢
      refine gB.eq hbj.1 hbj.2 fun i hi => ?_
      show (zm_wI _ 118 23 _).1 136 (258 * ds.length + i) = _
      rw [zw_cell _ _ (by decide), zF_at]
      have : 258 * ds.length ≤ 258 * ds.length + i ∧ 258 * ds.length + i < 258 * ds.length + 258 := by omega
      show (if _ then _ else _) = _
      rw [if_pos this]
      exact zcg (by omega)
    · refine (gb j (by omega)).eq hbj.1 hbj.2 fun i hi => ?_
      show (zm_wI _ 118 23 _).1 136 (258 * j + i) = _
      rw [zw_cell _ _ (by decide), zF_at]
      have : ¬ (258 * ds.length ≤ 258 * j + i ∧ 258 * j + i < 258 * ds.length + 258) := by omega
      show (if _ then _ else _) = _
      rw [if_neg this]
  · obtain ⟨g1, g2, g3, g4⟩ := (gk k hk).2 l q
    obtain ⟨hg, hl'⟩ := hV.kp q
    have hb := (hl'.full hg).b
    refine ⟨(hK.i rfl).trans g1, (hK.i rfl).trans g2, g3.eq hb.1 hb.2 (fun i _ => hK.i rfl), fun j hj => ?_⟩
    have hb := (hl'.ok hg j (by omega)).b
    exact (g4 j hj).eq hb.1 hb.2 (fun i _ => hK.i rfl)
theorem zNt.done (h : zNt σ R T K G ds ks) (hV : zVk G ds ks) (hK : zKeep zFMe σ σ') (hB : zMBk σ' G (zen G d (zrun G ds))) : zMm σ' R T K G (ds ++ [d]) ks := by
  obtain ⟨hF, hR, hT, hKm, gG, gN, gB, gd, gb, gk, gp⟩ := h
  obtain ⟨b1, b2, b3⟩ := hB
  rw [← zrun_snoc] at b1 b2 b3
  refine ⟨hK.fix hF rfl, hR.keep hK (fun k => rfl) (fun k => rfl), hT.keep hK (fun k => rfl) (fun k => rfl), hKm.keep hK ⟨rfl, rfl, rfl, rfl⟩ (fun k => rfl), gG.keep hK ⟨rfl, rfl, rfl⟩ (fun k => ⟨rfl, rfl, rfl, rfl⟩), b2, b3, (hK.i rfl).trans (by rw [gd, List.length_append]; rfl), fun j hj => ?_, fun k hk => ⟨fun q => (hK.i rfl).trans ((gk k hk).1 q), fun l q => ?_⟩, fun _ => b1⟩
  · rw [List.length_append, List.length_singleton] at hj
    have hbj := (hV.tk (j := j) (by omega)).b
    rw [List.take_append_of_le_length (by omega)]
    exact (gb j hj).eq hbj.1 hbj.2 fun i _ => hK.i rfl
  · obtain ⟨g1, g2, g3, g4⟩ := (gk k hk).2 l q
    obtain ⟨hg, hl'⟩ := hV.kp q
    have hb := (hl'.full hg).b
    refine ⟨(hK.i rfl).trans g1, (hK.i rfl).trans g2, g3.eq hb.1 hb.2 (fun i _ => hK.i rfl), fun j hj => ?_⟩
    have hb := (hl'.ok hg j (by omega)).b
    exact (g4 j hj).eq hb.1 hb.2 (fun i _ => hK.i rfl)
theorem zFMe_of {x k : Nat} (h : zFMd x k = true ∨ zFMp x k = true ∨ zFMS x k = true ∨ zFMO x k = true ∨ zFMs x k = true ∨ zFM x k = true) : zFMe x k = true := by
  simp only [zFMe, zFMd, zFMp, zFMS, zFMO, zFML, zFMs, zFI, zFM, Bool.or_eq_true, Bool.and_eq_true, decide_eq_true_eq, beq_iff_eq] at h ⊢
  omega
theorem zFMe_rfs (hK : zKeep zFMe σ σ') : zKeep zRfs σ σ' := hK.mo fun x k q => by
  simp only [zFMe, Bool.or_eq_true, Bool.and_eq_true, decide_eq_true_eq, beq_iff_eq] at q
  simp only [zRfs, decide_eq_true_eq]
  omega
theorem zFMn_rfs (hK : zKeep zFMn σ σ') : zKeep zRfs σ σ' := hK.mo fun x k q => by
  simp only [zFMn, Bool.or_eq_true, Bool.and_eq_true, beq_iff_eq] at q
  simp only [zRfs, decide_eq_true_eq]
  omega
/-- only rules have changed -/
def zFMr (x k : Nat) : Bool := x == 135 || x == 144 || x == 146 || (x == 118 && (k == 40 || k == 43))
theorem zFMr_of {x k : Nat} (h : zFMd x k = true ∨ zFMp x k = true ∨ zFMS x k = true ∨ zFMs x k = true ∨ zFM x k = true) : zFMr x k = true := by
  simp only [zFMr, zFMd, zFMp, zFMS, zFMs, zFI, zFM, Bool.or_eq_true, Bool.and_eq_true, beq_iff_eq] at h ⊢
  omega
theorem zFMr_e (hK : zKeep zFMr σ σ') : zKeep zFMe σ σ' := hK.mo fun x k q => by
  simp only [zFMr, zFMe, Bool.or_eq_true, Bool.and_eq_true, decide_eq_true_eq, beq_iff_eq] at q ⊢
  omega
theorem zNt.rules {rs : List (List Int32)} {L : Int32} (h : zNt σ R T K G ds ks) (h0 : 0 < G.1) (hK : zKeep zFMr σ σ') (hR : zMR (σ'.1 135) rs) (hO : σ'.1 135 0 = σ.1 135 0) (hL : σ'.1 135 2 = L) : zMBk σ' G ((zrun G ds).1, L, rs) := by
  obtain ⟨hF, hRo, hT, hKm, gG, gN, gB, gd, gb, gk, gp⟩ := h
  exact ⟨(gp h0).keep hK rfl (fun k => ⟨rfl, rfl, rfl, rfl, rfl⟩), gN.keep hK rfl (fun k => ⟨rfl, rfl, rfl⟩), hO.trans gB.1, hL, hR⟩
end ZPF
