/-! deeds, as values; the class does them -/
abbrev zDd : Type := Nat × Nat × Nat
noncomputable def zen (G : zG) (d : zDd) (B : zBk) : zBk := match d with
  | (0, i, _) => (B.1, B.2.1, B.2.2.set i (zturn (zr B.2.2 i)))
  | (1, i, _) => (B.1, B.2.1, B.2.2.set i (zover (zr B.2.2 i)))
  | (2, i, j) => (B.1, B.2.1, B.2.2.set i (zred (zr B.2.2 i ++ zr B.2.2 j)))
  | (3, i, _) => (B.1, B.2.1, B.2.2.eraseIdx i)
  | (4, i, b) => (B.1, zclr B.2.1 b, zsolve B.2.2 i b)
  | (5, o, _) => zarr G o
  | (6, _, _) => (B.1, (zshort 20 (B.2.2, B.2.1)).2, (zshort 20 (B.2.2, B.2.1)).1)
  | _ => B
def zva (d : zDd) (B : zBk) : Prop := match d with
  | (0, i, _) => i < B.2.2.length ∧ 0 < (zr B.2.2 i).length
  | (1, i, _) => i < B.2.2.length ∧ 0 < (zr B.2.2 i).length
  | (2, i, j) => i < B.2.2.length ∧ j < B.2.2.length ∧ i ≠ j ∧ (zred (zr B.2.2 i ++ zr B.2.2 j)).length ≤ 16
  | (3, i, _) => i < B.2.2.length
  | (4, i, b) => i < B.2.2.length ∧ 1 ≤ b ∧ b ≤ 15 ∧ ztm (zr B.2.2 i) (nI b) = 1 ∧ zfits B.2.2 i b
  | (5, o, _) => o < 3
  | (k, _, _) => k < 8
theorem zk8 {d : zDd} {B : zBk} (h : zva d B) : d.1 = 0 ∨ d.1 = 1 ∨ d.1 = 2 ∨ d.1 = 3 ∨ d.1 = 4 ∨ d.1 = 5 ∨ d.1 = 6 ∨ d.1 = 7 := by
  obtain ⟨k, i, j⟩ := d
  match k, h with
  | 0, _ | 1, _ | 2, _ | 3, _ | 4, _ | 5, _ | 6, _ | 7, _ => simp
  | k + 8, h =>
    have : k + 8 < 8 := h
    omega
theorem zshort_bit : ∀ (n : Nat) (B : List (List Int32) × Int32) (k : Nat), k < 15 → zbit (zshort n B).2 k → zbit B.2 k
  | 0, B, k, hk, h => h
  | n + 1, B, k, hk, h => by
    unfold zshort at h
    split at h
    · next i hi => exact zshort_bit n (B.1.eraseIdx i, B.2) k hk h
    · split at h
      · next q hq =>
        obtain ⟨l, g, a1, a2, a3, -⟩ := zns_sp hq
        exact ((zbit_clr a2 a3 hk).mp (zshort_bit n (zsolve B.1 q.1 q.2, zclr B.2 q.2) k hk h)).1
      · exact h
theorem zen_ok {G : zG} {d : zDd} {B : zBk} (hk : zGk G) (hB : zBok G B) (hv : zva d B) : zBok G (zen G d B) := by
  obtain ⟨b1, b2, b3⟩ := hB
  obtain ⟨k, i, j⟩ := d
  match k, hv with
  | 0, hv => exact ⟨b1, b2.turn hv.1, b3⟩
  | 1, hv => exact ⟨b1, b2.over hv.1, b3⟩
  | 2, hv => exact ⟨b1, b2.join hv.1 hv.2.1 hv.2.2.2, b3⟩
  | 3, hv => exact ⟨b1, b2.erase i, b3⟩
  | 4, hv =>
    obtain ⟨c1, c2, c3, c4, c5⟩ := hv
    exact ⟨b1, b2.solve c1 c2 c3 c4 c5, fun k hk hb => b3 k hk ((zbit_clr c2 c3 hk).mp hb).1⟩
  | 5, hv => exact zarr_ok hk hv
  | 6, hv => exact ⟨b1, zshort_ok 20 (B.2.2, B.2.1) b2, fun k hk hb => b3 k hk (zshort_bit 20 (B.2.2, B.2.1) k hk hb)⟩
  | k + 7, hv => exact ⟨b1, b2, b3⟩
noncomputable def zrun (G : zG) (ds : List zDd) : zBk := ds.foldl (fun B d => zen G d B) (zarr G 0)
def zdd (ds : List zDd) (k : Nat) : zDd := ds.getD k (7, 0, 0)
def zgood (G : zG) (ds : List zDd) : Prop := ds.length ≤ 20 ∧ ∀ k, k < ds.length → zva (zdd ds k) (zrun G (ds.take k))
theorem zrun_snoc (G : zG) (ds : List zDd) (d : zDd) : zrun G (ds ++ [d]) = zen G d (zrun G ds) := by
  unfold zrun
  rw [List.foldl_append]
  rfl
theorem zrun_take {G : zG} {ds : List zDd} {k : Nat} (h : k < ds.length) : zrun G (ds.take (k + 1)) = zen G (zdd ds k) (zrun G (ds.take k)) := by
  rw [ztake (7, 0, 0) h, zrun_snoc]
  rfl
theorem zgood.ok {G : zG} {ds : List zDd} (hk : zGk G) (h : zgood G ds) : ∀ k, k ≤ ds.length → zBok G (zrun G (ds.take k))
  | 0, _ => by rw [List.take_zero]; exact zarr_ok hk (by decide)
  | k + 1, hl => by
    rw [zrun_take (by omega)]
    exact zen_ok hk (h.ok hk k (by omega)) (h.2 k (by omega))
theorem zgood.full {G : zG} {ds : List zDd} (hk : zGk G) (h : zgood G ds) : zBok G (zrun G ds) := by
  have := h.ok hk ds.length (Nat.le_refl _)
  rw [List.take_length] at this
  exact this
theorem zgood.take {G : zG} {ds : List zDd} (h : zgood G ds) (n : Nat) : zgood G (ds.take n) := by
  obtain ⟨h1, h2⟩ := h
  refine ⟨by rw [List.length_take]; omega, fun k hk => ?_⟩
  rw [List.length_take] at hk
  have e1 : zdd (ds.take n) k = zdd ds k := by
    unfold zdd
    rw [List.getD_eq_getElem?_getD, List.getD_eq_getElem?_getD, List.getElem?_take_of_lt (by omega)]
  rw [e1, List.take_take, Nat.min_eq_left (by omega)]
  exact h2 k (by omega)
theorem zgood.nil (G : zG) : zgood G [] := ⟨by simp, fun k hk => by cases hk⟩
theorem zdd_snoc {ds : List zDd} {d : zDd} {k : Nat} (h : k < ds.length + 1) : zdd (ds ++ [d]) k = if k = ds.length then d else zdd ds k := by
  unfold zdd
  rw [List.getD_eq_getElem?_getD, List.getD_eq_getElem?_getD]
  by_cases e : k = ds.length
  · subst e
    rw [List.getElem?_append_right (Nat.le_refl _), Nat.sub_self, if_pos rfl]
    rfl
  · rw [List.getElem?_append_left (by omega), if_neg e]
theorem zgood.snoc {G : zG} {ds : List zDd} {d : zDd} (h : zgood G ds) (hl : ds.length < 20) (hd : zva d (zrun G ds)) : zgood G (ds ++ [d]) := by
  obtain ⟨h1, h2⟩ := h
  refine ⟨by simp; omega, fun k hk => ?_⟩
  rw [List.length_append, List.length_singleton] at hk
  rw [zdd_snoc hk, List.take_append_of_le_length (by omega)]
  by_cases e : k = ds.length
  · rw [if_pos e, e, List.take_length]; exact hd
  · rw [if_neg e]; exact h2 k (by omega)
/-- what a deed of the class may change -/
def zFB (a k : Nat) : Bool := zFC a k || (21 ≤ a && a ≤ 28) || (a == 20 && (k == 2 || k == 10)) || (a == 19 && k == 3)
theorem zFB_of {a k : Nat} (h : zFA a k = true ∨ zFC a k = true ∨ zFG a k = true ∨ zFD a k = true) : zFB a k = true := by
  simp only [zFB, zFA, zFK, zFN, zFT, zFC, zFDS, zFG, zFD, zFR, zFW, Bool.or_eq_true, Bool.and_eq_true, decide_eq_true_eq, beq_iff_eq] at h ⊢
  omega
theorem zFC_of {a k : Nat} (h : zFG a k = true ∨ zFD a k = true ∨ zFDS a k = true) : zFC a k = true := by
  simp only [zFC, zFDS, zFG, zFD, zFR, zFW, Bool.or_eq_true, Bool.and_eq_true, decide_eq_true_eq, beq_iff_eq] at h ⊢
  omega
theorem zFC_lo {b k : Nat} (hb : b ≤ 29 ∨ 52 ≤ b) : zFC b k = false := by
  simp only [zFC, zFDS, zFW, Bool.or_eq_false_iff, Bool.and_eq_false_iff, decide_eq_false_iff_not, beq_eq_false_iff_ne]
  omega
theorem zFB_hi {b k : Nat} (hb : b ≤ 18 ∨ 52 ≤ b) : zFB b k = false := by
  simp only [zFB, zFC, zFDS, zFW, Bool.or_eq_false_iff, Bool.and_eq_false_iff, decide_eq_false_iff_not, beq_eq_false_iff_ne]
  omega
section ZEN
variable {σ : zm_Sig} {a : Nat} {G : zG} {B : zBk}
/-- only rules change -/
theorem zCB.rules {σ' : zm_Sig} {L : Int32} {rs : List (List Int32)} (h : zCB σ G B) (hK : zKeep zFC σ σ') (hR : ∃ π, zCR σ' π rs) (hL : σ'.1 30 3 = L) : zCB σ' G (B.1, L, rs) :=
  ⟨h.1.keep hK rfl fun k => ⟨rfl, rfl, rfl, rfl, rfl⟩, h.2.1.keep hK rfl fun k => ⟨rfl, rfl, rfl⟩, hR, hL, (hK.i rfl).trans h.2.2.2.2⟩
theorem c_shortenAll {π : Nat → Nat} {rs : List (List Int32)} {L : Int32} (hF : zFix σ) (h : zCR σ π rs) (hL : σ.1 30 3 = L) (hok : zOK rs L) :
    ∃ σ', zM 115 [.ref 30] zL σ = some (none, zL, σ') ∧ (∃ π', zCR σ' π' (zshort 20 (rs, L)).1) ∧ σ'.1 30 3 = (zshort 20 (rs, L)).2 ∧ zKeep zFC σ σ' := by
  refine zS_ex (zS_of ze_115 ?_)
  generalize hZ : zshort 20 (rs, L) = Z
  simp (disch := first | assumption | omega) only [zn0, zn1, Option.bind_some, zm_ai, zm_al, zm_av, zm_opt, zm_fw, zE_l, zE_r, nI_add, pk_mul, pk_sub, pk_div, pk_rem, zrem, zpm1, zB_i0, zB_i1, zB_ok, zB_T, zB_F, nI_toInt, zT_sub, zT_neg, zT_le, zT_lt, nI_eq, zne1, zne2, zne9, ite_not, or_true, true_or, if_true, if_false, if_pos, if_neg, zw_R, zw_RL, zw_I, zF_R, zw_same, zw_cell, zw_ne, zF_at, zF_ne, zi_0, zi_1, zi_10, zi_17, zi_19, zi_20, zi_30, zi_48, zi_50, zi_52, zi_57, zi_59, zi_80, zi_93, zi_106, zi_110, zi_114, zx_0_0, zx_0_1, zx_0_2, zx_0_3, zx_0_4, zx_0_5, zx_0_6, zx_0_7, zx_0_8, zx_0_9, zx_0_10, zx_1_0, zx_1_1, zx_2_0, zx_2_1, zx_2_2, zx_2_3, zx_2_4, zx_2_5, zx_10_0, zx_10_1, zx_11_0, zx_11_1, zx_11_2, zx_11_3, zx_17_0, zx_19_0, zx_19_1, zx_19_2, zx_20_0, zx_20_1, zx_20_3, zx_20_4, zx_20_5, zx_20_6, zx_20_7, zx_20_8, zx_20_9, zx_30_0, zx_30_1, zx_30_4, zx_30_5, zx_48_0, zx_50_0, zx_52_0, zx_52_1, zx_52_2, zx_56_0, zx_56_1, zx_56_2, zx_57_0, zx_59_0, zx_80_3, zx_80_4, zx_80_5, zx_81_0, zx_81_1, zx_81_2, zx_81_3, zx_81_4, zx_81_5, zx_88_0, zx_88_1, zx_88_2, zx_93_3, zx_93_4, zx_93_5, zx_94_0, zx_94_1, zx_94_2, zx_94_3, zx_94_4, zx_94_5, zx_101_0, zx_101_1, zx_101_2, zx_106_0, zx_106_1, zx_106_2, zx_110_0, zx_110_1, zx_110_2, zx_114_0, zx_114_1, zx_114_2, zgI_9, zsI_9, zgI_16, zsI_16, zgI_18, zsI_18, zgI_21, zsI_21, zgI_22, zsI_22, zgI_23, zsI_23, zgI_24, zsI_24, zgI_25, zsI_25, zgI_26, zsI_26, zgI_27, zsI_27, zgI_28, zsI_28, zgI_29, zsI_29, zgI_47, zsI_47, zgI_49, zsI_49, zgI_51, zsI_51, zgI_53, zsI_53, zgI_54, zsI_54, zgI_55, zsI_55, zgI_58, zsI_58, zgI_76, zsI_76, zgI_79, zsI_79, zb_115_0]
  refine zloop (fun m σ1 => (2, [(0, .ref 30), (1, .int (nI m))], [], zL, σ1, 0, 0)) (fun m σ1 => ∃ π1 rs1 L1, zCR σ1 π1 rs1 ∧ σ1.1 30 3 = L1 ∧ zOK rs1 L1 ∧ zshort (20 - m) (rs1, L1) = Z ∧ zKeep zFC σ σ1) 20 (fun m σ1 hm hI ih => ?_) (fun σ1 hI => ?_) 0 σ (by omega) ⟨π, rs, L, h, hL, hok, hZ, zKeep.rf _ _⟩
  · obtain ⟨π1, rs1, L1, r1, r2, r3, r4, hK⟩ := hI
    have hF1 := hK.fix hF rfl
    have hcf := c_firstToCut hF1 r1 r3.w
    obtain ⟨σ2, e2, hK2⟩ := c_nextToSolve hF1 r1 r3.w
    have h15 := r3.1
    rw [show 20 - m = 20 - (m + 1) + 1 by omega] at r4
    unfold zshort at r4
    refine zW_of zg_115_2 ?_
    cases ec : zcf rs1 with
    | some i =>
      have hi := (zfirst_sp ec).1
      rw [ec] at hcf
      have hcf : zM 116 [.ref 30] zL σ1 = some (some (.int (nI i)), zL, σ1) := hcf
      obtain ⟨σ3, e3, hR3, hK3⟩ := c_gone hF1 r1 h15 hi
      obtain ⟨π3, hR3⟩ := hR3
      simp only [ec] at r4
      simp (disch := first | assumption | omega) only [zn0, zn1, Option.bind_some, zm_ai, zm_al, zm_av, zm_opt, zm_fw, zE_l, zE_r, nI_add, pk_mul, pk_sub, pk_div, pk_rem, zrem, zpm1, zB_i0, zB_i1, zB_ok, zB_T, zB_F, nI_toInt, zT_sub, zT_neg, zT_le, zT_lt, nI_eq, zne1, zne2, zne9, ite_not, or_true, true_or, if_true, if_false, if_pos, if_neg, zw_R, zw_RL, zw_I, zF_R, zw_same, zw_cell, zw_ne, zF_at, zF_ne, zi_0, zi_1, zi_10, zi_17, zi_19, zi_20, zi_30, zi_48, zi_50, zi_52, zi_57, zi_59, zi_80, zi_93, zi_106, zi_110, zi_114, zx_0_0, zx_0_1, zx_0_2, zx_0_3, zx_0_4, zx_0_5, zx_0_6, zx_0_7, zx_0_8, zx_0_9, zx_0_10, zx_1_0, zx_1_1, zx_2_0, zx_2_1, zx_2_2, zx_2_3, zx_2_4, zx_2_5, zx_10_0, zx_10_1, zx_11_0, zx_11_1, zx_11_2, zx_11_3, zx_17_0, zx_19_0, zx_19_1, zx_19_2, zx_20_0, zx_20_1, zx_20_3, zx_20_4, zx_20_5, zx_20_6, zx_20_7, zx_20_8, zx_20_9, zx_30_0, zx_30_1, zx_30_4, zx_30_5, zx_48_0, zx_50_0, zx_52_0, zx_52_1, zx_52_2, zx_56_0, zx_56_1, zx_56_2, zx_57_0, zx_59_0, zx_80_3, zx_80_4, zx_80_5, zx_81_0, zx_81_1, zx_81_2, zx_81_3, zx_81_4, zx_81_5, zx_88_0, zx_88_1, zx_88_2, zx_93_3, zx_93_4, zx_93_5, zx_94_0, zx_94_1, zx_94_2, zx_94_3, zx_94_4, zx_94_5, zx_101_0, zx_101_1, zx_101_2, zx_106_0, zx_106_1, zx_106_2, zx_110_0, zx_110_1, zx_110_2, zx_114_0, zx_114_1, zx_114_2, zgI_9, zsI_9, zgI_16, zsI_16, zgI_18, zsI_18, zgI_21, zsI_21, zgI_22, zsI_22, zgI_23, zsI_23, zgI_24, zsI_24, zgI_25, zsI_25, zgI_26, zsI_26, zgI_27, zsI_27, zgI_28, zsI_28, zgI_29, zsI_29, zgI_47, zsI_47, zgI_49, zsI_49, zgI_51, zsI_51, zgI_53, zsI_53, zgI_54, zsI_54, zgI_55, zsI_55, zgI_58, zsI_58, zgI_76, zsI_76, zgI_79, zsI_79, zb_115_2, hcf, e3]
      refine ih σ3 ⟨π3, _, L1, hR3, ?_, r3.erase i, r4, hK.tr (hK3.mo fun x k q => zFC_of (Or.inl q))⟩
      rw [hK3.i rfl]; exact r2
    | none =>
      rw [ec] at hcf
      have hcf : zM 116 [.ref 30] zL σ1 = some (some (.int (-nI 1)), zL, σ1) := hcf
      have hK2' : zKeep zFC σ σ2 := hK.tr (hK2.mo fun x k q => zFC_of (Or.inr (Or.inr q)))
      have r1' := r1.keep h15 hK2 (fun a k h1 h2 => zFDS_rules a k h1 h2) rfl
      simp only [ec] at r4
      cases en : zns rs1 with
      | some q =>
        obtain ⟨l, g, a1, a2, a3, -⟩ := zns_sp en
        rw [en] at e2
        have e2 : zM 118 [.ref 30] zL σ1 = some (some (.int (nI (q.1 * 16 + q.2))), zL, σ2) := e2
        have d1 : (q.1 * 16 + q.2) / 16 = q.1 := by omega
        have d2 : (q.1 * 16 + q.2) % 16 = q.2 := by omega
        obtain ⟨σ3, e3, hR3, hL3, hK3⟩ := c_solveFor (L := L1) (hK2'.fix hF rfl) r1' ((hK2.i rfl).trans r2) r3.w r3.red a1 a2 a3 (r3.left a1 a2 a3 (by rw [g.2.1]; decide)) g.2.1 g.2.2
        obtain ⟨π3, hR3⟩ := hR3
        simp only [en] at r4
        have hdv : nI (q.1 * 16 + q.2) / nI 16 = nI q.1 := by rw [pk_div (by omega) (by omega) (by omega), d1]
        have hrm : nI (q.1 * 16 + q.2) - nI q.1 * nI 16 = nI q.2 := by
          rw [pk_mul, pk_sub (by omega)]
          congr 1
          omega
        have hne : ¬ nI (q.1 * 16 + q.2) = -nI 1 := by rw [zne1 (by omega)]; exact id
        simp only [zb_115_2, zn1, if_neg (nI_ge (show m < 20 by omega) (by decide)), zi_30, Option.bind_some, hcf, zm_ai, if_pos rfl, e2, hne, not_false_eq_true, if_true, hdv, hrm, e3, zm_av, nI_add]
        exact ih σ3 ⟨π3, _, _, hR3, hL3, r3.solve a1 a2 a3 g.2.1 g.2.2, r4, hK2'.tr hK3⟩
      | none =>
        rw [en] at e2
        have e2 : zM 118 [.ref 30] zL σ1 = some (some (.int (-nI 1)), zL, σ2) := e2
        simp only [en] at r4
        simp (disch := first | assumption | omega) only [zn0, zn1, Option.bind_some, zm_ai, zm_al, zm_av, zm_opt, zm_fw, zE_l, zE_r, nI_add, pk_mul, pk_sub, pk_div, pk_rem, zrem, zpm1, zB_i0, zB_i1, zB_ok, zB_T, zB_F, nI_toInt, zT_sub, zT_neg, zT_le, zT_lt, nI_eq, zne1, zne2, zne9, ite_not, or_true, true_or, if_true, if_false, if_pos, if_neg, zw_R, zw_RL, zw_I, zF_R, zw_same, zw_cell, zw_ne, zF_at, zF_ne, zi_0, zi_1, zi_10, zi_17, zi_19, zi_20, zi_30, zi_48, zi_50, zi_52, zi_57, zi_59, zi_80, zi_93, zi_106, zi_110, zi_114, zx_0_0, zx_0_1, zx_0_2, zx_0_3, zx_0_4, zx_0_5, zx_0_6, zx_0_7, zx_0_8, zx_0_9, zx_0_10, zx_1_0, zx_1_1, zx_2_0, zx_2_1, zx_2_2, zx_2_3, zx_2_4, zx_2_5, zx_10_0, zx_10_1, zx_11_0, zx_11_1, zx_11_2, zx_11_3, zx_17_0, zx_19_0, zx_19_1, zx_19_2, zx_20_0, zx_20_1, zx_20_3, zx_20_4, zx_20_5, zx_20_6, zx_20_7, zx_20_8, zx_20_9, zx_30_0, zx_30_1, zx_30_4, zx_30_5, zx_48_0, zx_50_0, zx_52_0, zx_52_1, zx_52_2, zx_56_0, zx_56_1, zx_56_2, zx_57_0, zx_59_0, zx_80_3, zx_80_4, zx_80_5, zx_81_0, zx_81_1, zx_81_2, zx_81_3, zx_81_4, zx_81_5, zx_88_0, zx_88_1, zx_88_2, zx_93_3, zx_93_4, zx_93_5, zx_94_0, zx_94_1, zx_94_2, zx_94_3, zx_94_4, zx_94_5, zx_101_0, zx_101_1, zx_101_2, zx_106_0, zx_106_1, zx_106_2, zx_110_0, zx_110_1, zx_110_2, zx_114_0, zx_114_1, zx_114_2, zgI_9, zsI_9, zgI_16, zsI_16, zgI_18, zsI_18, zgI_21, zsI_21, zgI_22, zsI_22, zgI_23, zsI_23, zgI_24, zsI_24, zgI_25, zsI_25, zgI_26, zsI_26, zgI_27, zsI_27, zgI_28, zsI_28, zgI_29, zsI_29, zgI_47, zsI_47, zgI_49, zsI_49, zgI_51, zsI_51, zgI_53, zsI_53, zgI_54, zsI_54, zgI_55, zsI_55, zgI_58, zsI_58, zgI_76, zsI_76, zgI_79, zsI_79, zb_115_2, hcf, e2, not_true]
        exact ⟨σ2, rfl, ⟨π1, by rw [← r4]; exact r1'⟩, by rw [← r4, hK2.i rfl]; exact r2, hK2'⟩
  · obtain ⟨π1, rs1, L1, r1, r2, r3, r4, hK⟩ := hI
    rw [Nat.sub_self] at r4
    have r4 : (rs1, L1) = Z := r4
    refine zW_of zg_115_2 ?_
    simp (disch := first | assumption | omega) only [zn0, zn1, Option.bind_some, zm_ai, zm_al, zm_av, zm_opt, zm_fw, zE_l, zE_r, nI_add, pk_mul, pk_sub, pk_div, pk_rem, zrem, zpm1, zB_i0, zB_i1, zB_ok, zB_T, zB_F, nI_toInt, zT_sub, zT_neg, zT_le, zT_lt, nI_eq, zne1, zne2, zne9, ite_not, or_true, true_or, if_true, if_false, if_pos, if_neg, zw_R, zw_RL, zw_I, zF_R, zw_same, zw_cell, zw_ne, zF_at, zF_ne, zi_0, zi_1, zi_10, zi_17, zi_19, zi_20, zi_30, zi_48, zi_50, zi_52, zi_57, zi_59, zi_80, zi_93, zi_106, zi_110, zi_114, zx_0_0, zx_0_1, zx_0_2, zx_0_3, zx_0_4, zx_0_5, zx_0_6, zx_0_7, zx_0_8, zx_0_9, zx_0_10, zx_1_0, zx_1_1, zx_2_0, zx_2_1, zx_2_2, zx_2_3, zx_2_4, zx_2_5, zx_10_0, zx_10_1, zx_11_0, zx_11_1, zx_11_2, zx_11_3, zx_17_0, zx_19_0, zx_19_1, zx_19_2, zx_20_0, zx_20_1, zx_20_3, zx_20_4, zx_20_5, zx_20_6, zx_20_7, zx_20_8, zx_20_9, zx_30_0, zx_30_1, zx_30_4, zx_30_5, zx_48_0, zx_50_0, zx_52_0, zx_52_1, zx_52_2, zx_56_0, zx_56_1, zx_56_2, zx_57_0, zx_59_0, zx_80_3, zx_80_4, zx_80_5, zx_81_0, zx_81_1, zx_81_2, zx_81_3, zx_81_4, zx_81_5, zx_88_0, zx_88_1, zx_88_2, zx_93_3, zx_93_4, zx_93_5, zx_94_0, zx_94_1, zx_94_2, zx_94_3, zx_94_4, zx_94_5, zx_101_0, zx_101_1, zx_101_2, zx_106_0, zx_106_1, zx_106_2, zx_110_0, zx_110_1, zx_110_2, zx_114_0, zx_114_1, zx_114_2, zgI_9, zsI_9, zgI_16, zsI_16, zgI_18, zsI_18, zgI_21, zsI_21, zgI_22, zsI_22, zgI_23, zsI_23, zgI_24, zsI_24, zgI_25, zsI_25, zgI_26, zsI_26, zgI_27, zsI_27, zgI_28, zsI_28, zgI_29, zsI_29, zgI_47, zsI_47, zgI_49, zsI_49, zgI_51, zsI_51, zgI_53, zsI_53, zgI_54, zsI_54, zgI_55, zsI_55, zgI_58, zsI_58, zgI_76, zsI_76, zgI_79, zsI_79, zb_115_2]
    exact ⟨σ1, rfl, ⟨π1, by rw [← r4]; exact r1⟩, by rw [← r4]; exact r2, hK⟩
theorem c_enact {d : zDd} (hF : zFix σ) (ha : zGo a) (h4 : σ.2.2 19 4 = some a) (hG : zCG σ a G) (hk : zGk G) (hC : zCB σ G B) (hB : zBok G B) (hv : zva d B) :
    ∃ σ', zM 106 [.ref 19, .int (nI d.1), .int (nI d.2.1), .int (nI d.2.2)] zL σ = some (none, zL, σ') ∧ zCB σ' G (zen G d B) ∧ zKeep zFB σ σ' := by
  obtain ⟨b1, b2, b3⟩ := hB
  obtain ⟨c1, c2, ⟨π, c3⟩, c4, c5⟩ := id hC
  have h15 := b2.1
  have h8 := zk8 hv
  obtain ⟨k, i, j⟩ := d
  simp only at h8
  refine zS_ex (zS_of ze_106 ?_)
  simp only
  rcases h8 with rfl | rfl | rfl | rfl | rfl | rfl | rfl | rfl
  · obtain ⟨σ2, e2, hR2, hK2⟩ := c_turn hF c3 b2.w hv.1 hv.2
    simp (disch := first | assumption | omega) only [zn0, zn1, Option.bind_some, zm_ai, zm_al, zm_av, zm_opt, zm_fw, zE_l, zE_r, nI_add, pk_mul, pk_sub, pk_div, pk_rem, zrem, zpm1, zB_i0, zB_i1, zB_ok, zB_T, zB_F, nI_toInt, zT_sub, zT_neg, zT_le, zT_lt, nI_eq, zne1, zne2, zne9, ite_not, or_true, true_or, if_true, if_false, if_pos, if_neg, zw_R, zw_RL, zw_I, zF_R, zw_same, zw_cell, zw_ne, zF_at, zF_ne, zi_0, zi_1, zi_10, zi_17, zi_19, zi_20, zi_30, zi_48, zi_50, zi_52, zi_57, zi_59, zi_80, zi_93, zi_106, zi_110, zi_114, zx_0_0, zx_0_1, zx_0_2, zx_0_3, zx_0_4, zx_0_5, zx_0_6, zx_0_7, zx_0_8, zx_0_9, zx_0_10, zx_1_0, zx_1_1, zx_2_0, zx_2_1, zx_2_2, zx_2_3, zx_2_4, zx_2_5, zx_10_0, zx_10_1, zx_11_0, zx_11_1, zx_11_2, zx_11_3, zx_17_0, zx_19_0, zx_19_1, zx_19_2, zx_20_0, zx_20_1, zx_20_3, zx_20_4, zx_20_5, zx_20_6, zx_20_7, zx_20_8, zx_20_9, zx_30_0, zx_30_1, zx_30_4, zx_30_5, zx_48_0, zx_50_0, zx_52_0, zx_52_1, zx_52_2, zx_56_0, zx_56_1, zx_56_2, zx_57_0, zx_59_0, zx_80_3, zx_80_4, zx_80_5, zx_81_0, zx_81_1, zx_81_2, zx_81_3, zx_81_4, zx_81_5, zx_88_0, zx_88_1, zx_88_2, zx_93_3, zx_93_4, zx_93_5, zx_94_0, zx_94_1, zx_94_2, zx_94_3, zx_94_4, zx_94_5, zx_101_0, zx_101_1, zx_101_2, zx_106_0, zx_106_1, zx_106_2, zx_110_0, zx_110_1, zx_110_2, zx_114_0, zx_114_1, zx_114_2, zgI_9, zsI_9, zgI_16, zsI_16, zgI_18, zsI_18, zgI_21, zsI_21, zgI_22, zsI_22, zgI_23, zsI_23, zgI_24, zsI_24, zgI_25, zsI_25, zgI_26, zsI_26, zgI_27, zsI_27, zgI_28, zsI_28, zgI_29, zsI_29, zgI_47, zsI_47, zgI_49, zsI_49, zgI_51, zsI_51, zgI_53, zsI_53, zgI_54, zsI_54, zgI_55, zsI_55, zgI_58, zsI_58, zgI_76, zsI_76, zgI_79, zsI_79, zb_106_0, e2]
    exact ⟨σ2, rfl, hC.rules (hK2.mo fun x k q => zFC_of (Or.inr (Or.inl q))) ⟨π, hR2⟩ ((hK2.i rfl).trans c4), hK2.mo fun x k q => zFB_of (by simp [q])⟩
  · obtain ⟨σ2, e2, hR2, hK2⟩ := c_over hF c3 b2.w hv.1 hv.2
    simp (disch := first | assumption | omega) only [zn0, zn1, Option.bind_some, zm_ai, zm_al, zm_av, zm_opt, zm_fw, zE_l, zE_r, nI_add, pk_mul, pk_sub, pk_div, pk_rem, zrem, zpm1, zB_i0, zB_i1, zB_ok, zB_T, zB_F, nI_toInt, zT_sub, zT_neg, zT_le, zT_lt, nI_eq, zne1, zne2, zne9, ite_not, or_true, true_or, if_true, if_false, if_pos, if_neg, zw_R, zw_RL, zw_I, zF_R, zw_same, zw_cell, zw_ne, zF_at, zF_ne, zi_0, zi_1, zi_10, zi_17, zi_19, zi_20, zi_30, zi_48, zi_50, zi_52, zi_57, zi_59, zi_80, zi_93, zi_106, zi_110, zi_114, zx_0_0, zx_0_1, zx_0_2, zx_0_3, zx_0_4, zx_0_5, zx_0_6, zx_0_7, zx_0_8, zx_0_9, zx_0_10, zx_1_0, zx_1_1, zx_2_0, zx_2_1, zx_2_2, zx_2_3, zx_2_4, zx_2_5, zx_10_0, zx_10_1, zx_11_0, zx_11_1, zx_11_2, zx_11_3, zx_17_0, zx_19_0, zx_19_1, zx_19_2, zx_20_0, zx_20_1, zx_20_3, zx_20_4, zx_20_5, zx_20_6, zx_20_7, zx_20_8, zx_20_9, zx_30_0, zx_30_1, zx_30_4, zx_30_5, zx_48_0, zx_50_0, zx_52_0, zx_52_1, zx_52_2, zx_56_0, zx_56_1, zx_56_2, zx_57_0, zx_59_0, zx_80_3, zx_80_4, zx_80_5, zx_81_0, zx_81_1, zx_81_2, zx_81_3, zx_81_4, zx_81_5, zx_88_0, zx_88_1, zx_88_2, zx_93_3, zx_93_4, zx_93_5, zx_94_0, zx_94_1, zx_94_2, zx_94_3, zx_94_4, zx_94_5, zx_101_0, zx_101_1, zx_101_2, zx_106_0, zx_106_1, zx_106_2, zx_110_0, zx_110_1, zx_110_2, zx_114_0, zx_114_1, zx_114_2, zgI_9, zsI_9, zgI_16, zsI_16, zgI_18, zsI_18, zgI_21, zsI_21, zgI_22, zsI_22, zgI_23, zsI_23, zgI_24, zsI_24, zgI_25, zsI_25, zgI_26, zsI_26, zgI_27, zsI_27, zgI_28, zsI_28, zgI_29, zsI_29, zgI_47, zsI_47, zgI_49, zsI_49, zgI_51, zsI_51, zgI_53, zsI_53, zgI_54, zsI_54, zgI_55, zsI_55, zgI_58, zsI_58, zgI_76, zsI_76, zgI_79, zsI_79, zb_106_0, e2]
    exact ⟨σ2, rfl, hC.rules (hK2.mo fun x k q => zFC_of (Or.inr (Or.inl q))) ⟨π, hR2⟩ ((hK2.i rfl).trans c4), hK2.mo fun x k q => zFB_of (by simp [q])⟩
  · obtain ⟨σ2, e2, hR2, hK2⟩ := c_join hF c3 b2.w hv.1 hv.2.1 hv.2.2.1 hv.2.2.2
    simp (disch := first | assumption | omega) only [zn0, zn1, Option.bind_some, zm_ai, zm_al, zm_av, zm_opt, zm_fw, zE_l, zE_r, nI_add, pk_mul, pk_sub, pk_div, pk_rem, zrem, zpm1, zB_i0, zB_i1, zB_ok, zB_T, zB_F, nI_toInt, zT_sub, zT_neg, zT_le, zT_lt, nI_eq, zne1, zne2, zne9, ite_not, or_true, true_or, if_true, if_false, if_pos, if_neg, zw_R, zw_RL, zw_I, zF_R, zw_same, zw_cell, zw_ne, zF_at, zF_ne, zi_0, zi_1, zi_10, zi_17, zi_19, zi_20, zi_30, zi_48, zi_50, zi_52, zi_57, zi_59, zi_80, zi_93, zi_106, zi_110, zi_114, zx_0_0, zx_0_1, zx_0_2, zx_0_3, zx_0_4, zx_0_5, zx_0_6, zx_0_7, zx_0_8, zx_0_9, zx_0_10, zx_1_0, zx_1_1, zx_2_0, zx_2_1, zx_2_2, zx_2_3, zx_2_4, zx_2_5, zx_10_0, zx_10_1, zx_11_0, zx_11_1, zx_11_2, zx_11_3, zx_17_0, zx_19_0, zx_19_1, zx_19_2, zx_20_0, zx_20_1, zx_20_3, zx_20_4, zx_20_5, zx_20_6, zx_20_7, zx_20_8, zx_20_9, zx_30_0, zx_30_1, zx_30_4, zx_30_5, zx_48_0, zx_50_0, zx_52_0, zx_52_1, zx_52_2, zx_56_0, zx_56_1, zx_56_2, zx_57_0, zx_59_0, zx_80_3, zx_80_4, zx_80_5, zx_81_0, zx_81_1, zx_81_2, zx_81_3, zx_81_4, zx_81_5, zx_88_0, zx_88_1, zx_88_2, zx_93_3, zx_93_4, zx_93_5, zx_94_0, zx_94_1, zx_94_2, zx_94_3, zx_94_4, zx_94_5, zx_101_0, zx_101_1, zx_101_2, zx_106_0, zx_106_1, zx_106_2, zx_110_0, zx_110_1, zx_110_2, zx_114_0, zx_114_1, zx_114_2, zgI_9, zsI_9, zgI_16, zsI_16, zgI_18, zsI_18, zgI_21, zsI_21, zgI_22, zsI_22, zgI_23, zsI_23, zgI_24, zsI_24, zgI_25, zsI_25, zgI_26, zsI_26, zgI_27, zsI_27, zgI_28, zsI_28, zgI_29, zsI_29, zgI_47, zsI_47, zgI_49, zsI_49, zgI_51, zsI_51, zgI_53, zsI_53, zgI_54, zsI_54, zgI_55, zsI_55, zgI_58, zsI_58, zgI_76, zsI_76, zgI_79, zsI_79, zb_106_0, e2]
    exact ⟨σ2, rfl, hC.rules (hK2.mo fun x k q => zFC_of (Or.inr (Or.inl q))) ⟨π, hR2⟩ ((hK2.i rfl).trans c4), hK2.mo fun x k q => zFB_of (by simp [q])⟩
  · obtain ⟨σ2, e2, hR2, hK2⟩ := c_gone hF c3 h15 hv
    simp (disch := first | assumption | omega) only [zn0, zn1, Option.bind_some, zm_ai, zm_al, zm_av, zm_opt, zm_fw, zE_l, zE_r, nI_add, pk_mul, pk_sub, pk_div, pk_rem, zrem, zpm1, zB_i0, zB_i1, zB_ok, zB_T, zB_F, nI_toInt, zT_sub, zT_neg, zT_le, zT_lt, nI_eq, zne1, zne2, zne9, ite_not, or_true, true_or, if_true, if_false, if_pos, if_neg, zw_R, zw_RL, zw_I, zF_R, zw_same, zw_cell, zw_ne, zF_at, zF_ne, zi_0, zi_1, zi_10, zi_17, zi_19, zi_20, zi_30, zi_48, zi_50, zi_52, zi_57, zi_59, zi_80, zi_93, zi_106, zi_110, zi_114, zx_0_0, zx_0_1, zx_0_2, zx_0_3, zx_0_4, zx_0_5, zx_0_6, zx_0_7, zx_0_8, zx_0_9, zx_0_10, zx_1_0, zx_1_1, zx_2_0, zx_2_1, zx_2_2, zx_2_3, zx_2_4, zx_2_5, zx_10_0, zx_10_1, zx_11_0, zx_11_1, zx_11_2, zx_11_3, zx_17_0, zx_19_0, zx_19_1, zx_19_2, zx_20_0, zx_20_1, zx_20_3, zx_20_4, zx_20_5, zx_20_6, zx_20_7, zx_20_8, zx_20_9, zx_30_0, zx_30_1, zx_30_4, zx_30_5, zx_48_0, zx_50_0, zx_52_0, zx_52_1, zx_52_2, zx_56_0, zx_56_1, zx_56_2, zx_57_0, zx_59_0, zx_80_3, zx_80_4, zx_80_5, zx_81_0, zx_81_1, zx_81_2, zx_81_3, zx_81_4, zx_81_5, zx_88_0, zx_88_1, zx_88_2, zx_93_3, zx_93_4, zx_93_5, zx_94_0, zx_94_1, zx_94_2, zx_94_3, zx_94_4, zx_94_5, zx_101_0, zx_101_1, zx_101_2, zx_106_0, zx_106_1, zx_106_2, zx_110_0, zx_110_1, zx_110_2, zx_114_0, zx_114_1, zx_114_2, zgI_9, zsI_9, zgI_16, zsI_16, zgI_18, zsI_18, zgI_21, zsI_21, zgI_22, zsI_22, zgI_23, zsI_23, zgI_24, zsI_24, zgI_25, zsI_25, zgI_26, zsI_26, zgI_27, zsI_27, zgI_28, zsI_28, zgI_29, zsI_29, zgI_47, zsI_47, zgI_49, zsI_49, zgI_51, zsI_51, zgI_53, zsI_53, zgI_54, zsI_54, zgI_55, zsI_55, zgI_58, zsI_58, zgI_76, zsI_76, zgI_79, zsI_79, zb_106_0, e2]
    exact ⟨σ2, rfl, hC.rules (hK2.mo fun x k q => zFC_of (Or.inl q)) hR2 ((hK2.i rfl).trans c4), hK2.mo fun x k q => zFB_of (by simp [q])⟩
  · obtain ⟨v1, v2, v3, v4, v5⟩ := hv
    obtain ⟨σ2, e2, hR2, hL2, hK2⟩ := c_solveFor (L := B.2.1) hF c3 c4 b2.w b2.red v1 v2 v3 (b2.left v1 v2 v3 (by rw [v4]; decide)) v4 v5
    simp (disch := first | assumption | omega) only [zn0, zn1, Option.bind_some, zm_ai, zm_al, zm_av, zm_opt, zm_fw, zE_l, zE_r, nI_add, pk_mul, pk_sub, pk_div, pk_rem, zrem, zpm1, zB_i0, zB_i1, zB_ok, zB_T, zB_F, nI_toInt, zT_sub, zT_neg, zT_le, zT_lt, nI_eq, zne1, zne2, zne9, ite_not, or_true, true_or, if_true, if_false, if_pos, if_neg, zw_R, zw_RL, zw_I, zF_R, zw_same, zw_cell, zw_ne, zF_at, zF_ne, zi_0, zi_1, zi_10, zi_17, zi_19, zi_20, zi_30, zi_48, zi_50, zi_52, zi_57, zi_59, zi_80, zi_93, zi_106, zi_110, zi_114, zx_0_0, zx_0_1, zx_0_2, zx_0_3, zx_0_4, zx_0_5, zx_0_6, zx_0_7, zx_0_8, zx_0_9, zx_0_10, zx_1_0, zx_1_1, zx_2_0, zx_2_1, zx_2_2, zx_2_3, zx_2_4, zx_2_5, zx_10_0, zx_10_1, zx_11_0, zx_11_1, zx_11_2, zx_11_3, zx_17_0, zx_19_0, zx_19_1, zx_19_2, zx_20_0, zx_20_1, zx_20_3, zx_20_4, zx_20_5, zx_20_6, zx_20_7, zx_20_8, zx_20_9, zx_30_0, zx_30_1, zx_30_4, zx_30_5, zx_48_0, zx_50_0, zx_52_0, zx_52_1, zx_52_2, zx_56_0, zx_56_1, zx_56_2, zx_57_0, zx_59_0, zx_80_3, zx_80_4, zx_80_5, zx_81_0, zx_81_1, zx_81_2, zx_81_3, zx_81_4, zx_81_5, zx_88_0, zx_88_1, zx_88_2, zx_93_3, zx_93_4, zx_93_5, zx_94_0, zx_94_1, zx_94_2, zx_94_3, zx_94_4, zx_94_5, zx_101_0, zx_101_1, zx_101_2, zx_106_0, zx_106_1, zx_106_2, zx_110_0, zx_110_1, zx_110_2, zx_114_0, zx_114_1, zx_114_2, zgI_9, zsI_9, zgI_16, zsI_16, zgI_18, zsI_18, zgI_21, zsI_21, zgI_22, zsI_22, zgI_23, zsI_23, zgI_24, zsI_24, zgI_25, zsI_25, zgI_26, zsI_26, zgI_27, zsI_27, zgI_28, zsI_28, zgI_29, zsI_29, zgI_47, zsI_47, zgI_49, zsI_49, zgI_51, zsI_51, zgI_53, zsI_53, zgI_54, zsI_54, zgI_55, zsI_55, zgI_58, zsI_58, zgI_76, zsI_76, zgI_79, zsI_79, zb_106_0, e2]
    exact ⟨σ2, rfl, hC.rules hK2 hR2 hL2, hK2.mo fun x k q => zFB_of (by simp [q])⟩
  · obtain ⟨σ2, e2, hB2, hK2⟩ := c_arrange hF ha h4 hG hk c3.1 (o := i) hv
    simp (disch := first | assumption | omega) only [zn0, zn1, Option.bind_some, zm_ai, zm_al, zm_av, zm_opt, zm_fw, zE_l, zE_r, nI_add, pk_mul, pk_sub, pk_div, pk_rem, zrem, zpm1, zB_i0, zB_i1, zB_ok, zB_T, zB_F, nI_toInt, zT_sub, zT_neg, zT_le, zT_lt, nI_eq, zne1, zne2, zne9, ite_not, or_true, true_or, if_true, if_false, if_pos, if_neg, zw_R, zw_RL, zw_I, zF_R, zw_same, zw_cell, zw_ne, zF_at, zF_ne, zi_0, zi_1, zi_10, zi_17, zi_19, zi_20, zi_30, zi_48, zi_50, zi_52, zi_57, zi_59, zi_80, zi_93, zi_106, zi_110, zi_114, zx_0_0, zx_0_1, zx_0_2, zx_0_3, zx_0_4, zx_0_5, zx_0_6, zx_0_7, zx_0_8, zx_0_9, zx_0_10, zx_1_0, zx_1_1, zx_2_0, zx_2_1, zx_2_2, zx_2_3, zx_2_4, zx_2_5, zx_10_0, zx_10_1, zx_11_0, zx_11_1, zx_11_2, zx_11_3, zx_17_0, zx_19_0, zx_19_1, zx_19_2, zx_20_0, zx_20_1, zx_20_3, zx_20_4, zx_20_5, zx_20_6, zx_20_7, zx_20_8, zx_20_9, zx_30_0, zx_30_1, zx_30_4, zx_30_5, zx_48_0, zx_50_0, zx_52_0, zx_52_1, zx_52_2, zx_56_0, zx_56_1, zx_56_2, zx_57_0, zx_59_0, zx_80_3, zx_80_4, zx_80_5, zx_81_0, zx_81_1, zx_81_2, zx_81_3, zx_81_4, zx_81_5, zx_88_0, zx_88_1, zx_88_2, zx_93_3, zx_93_4, zx_93_5, zx_94_0, zx_94_1, zx_94_2, zx_94_3, zx_94_4, zx_94_5, zx_101_0, zx_101_1, zx_101_2, zx_106_0, zx_106_1, zx_106_2, zx_110_0, zx_110_1, zx_110_2, zx_114_0, zx_114_1, zx_114_2, zgI_9, zsI_9, zgI_16, zsI_16, zgI_18, zsI_18, zgI_21, zsI_21, zgI_22, zsI_22, zgI_23, zsI_23, zgI_24, zsI_24, zgI_25, zsI_25, zgI_26, zsI_26, zgI_27, zsI_27, zgI_28, zsI_28, zgI_29, zsI_29, zgI_47, zsI_47, zgI_49, zsI_49, zgI_51, zsI_51, zgI_53, zsI_53, zgI_54, zsI_54, zgI_55, zsI_55, zgI_58, zsI_58, zgI_76, zsI_76, zgI_79, zsI_79, zb_106_0, e2]
    exact ⟨σ2, rfl, hB2, hK2.mo fun x k q => zFB_of (by simp [q])⟩
  · obtain ⟨σ2, e2, hR2, hL2, hK2⟩ := c_shortenAll hF c3 c4 b2
    simp (disch := first | assumption | omega) only [zn0, zn1, Option.bind_some, zm_ai, zm_al, zm_av, zm_opt, zm_fw, zE_l, zE_r, nI_add, pk_mul, pk_sub, pk_div, pk_rem, zrem, zpm1, zB_i0, zB_i1, zB_ok, zB_T, zB_F, nI_toInt, zT_sub, zT_neg, zT_le, zT_lt, nI_eq, zne1, zne2, zne9, ite_not, or_true, true_or, if_true, if_false, if_pos, if_neg, zw_R, zw_RL, zw_I, zF_R, zw_same, zw_cell, zw_ne, zF_at, zF_ne, zi_0, zi_1, zi_10, zi_17, zi_19, zi_20, zi_30, zi_48, zi_50, zi_52, zi_57, zi_59, zi_80, zi_93, zi_106, zi_110, zi_114, zx_0_0, zx_0_1, zx_0_2, zx_0_3, zx_0_4, zx_0_5, zx_0_6, zx_0_7, zx_0_8, zx_0_9, zx_0_10, zx_1_0, zx_1_1, zx_2_0, zx_2_1, zx_2_2, zx_2_3, zx_2_4, zx_2_5, zx_10_0, zx_10_1, zx_11_0, zx_11_1, zx_11_2, zx_11_3, zx_17_0, zx_19_0, zx_19_1, zx_19_2, zx_20_0, zx_20_1, zx_20_3, zx_20_4, zx_20_5, zx_20_6, zx_20_7, zx_20_8, zx_20_9, zx_30_0, zx_30_1, zx_30_4, zx_30_5, zx_48_0, zx_50_0, zx_52_0, zx_52_1, zx_52_2, zx_56_0, zx_56_1, zx_56_2, zx_57_0, zx_59_0, zx_80_3, zx_80_4, zx_80_5, zx_81_0, zx_81_1, zx_81_2, zx_81_3, zx_81_4, zx_81_5, zx_88_0, zx_88_1, zx_88_2, zx_93_3, zx_93_4, zx_93_5, zx_94_0, zx_94_1, zx_94_2, zx_94_3, zx_94_4, zx_94_5, zx_101_0, zx_101_1, zx_101_2, zx_106_0, zx_106_1, zx_106_2, zx_110_0, zx_110_1, zx_110_2, zx_114_0, zx_114_1, zx_114_2, zgI_9, zsI_9, zgI_16, zsI_16, zgI_18, zsI_18, zgI_21, zsI_21, zgI_22, zsI_22, zgI_23, zsI_23, zgI_24, zsI_24, zgI_25, zsI_25, zgI_26, zsI_26, zgI_27, zsI_27, zgI_28, zsI_28, zgI_29, zsI_29, zgI_47, zsI_47, zgI_49, zsI_49, zgI_51, zsI_51, zgI_53, zsI_53, zgI_54, zsI_54, zgI_55, zsI_55, zgI_58, zsI_58, zgI_76, zsI_76, zgI_79, zsI_79, zb_106_0, e2]
    refine ⟨σ2, rfl, ?_, hK2.mo fun x k q => zFB_of (by simp [q])⟩
    show zCB σ2 G (B.1, (zshort 20 (B.2.2, B.2.1)).2, (zshort 20 (B.2.2, B.2.1)).1)
    exact hC.rules hK2 hR2 hL2
  · simp (disch := first | assumption | omega) only [zn0, zn1, Option.bind_some, zm_ai, zm_al, zm_av, zm_opt, zm_fw, zE_l, zE_r, nI_add, pk_mul, pk_sub, pk_div, pk_rem, zrem, zpm1, zB_i0, zB_i1, zB_ok, zB_T, zB_F, nI_toInt, zT_sub, zT_neg, zT_le, zT_lt, nI_eq, zne1, zne2, zne9, ite_not, or_true, true_or, if_true, if_false, if_pos, if_neg, zw_R, zw_RL, zw_I, zF_R, zw_same, zw_cell, zw_ne, zF_at, zF_ne, zi_0, zi_1, zi_10, zi_17, zi_19, zi_20, zi_30, zi_48, zi_50, zi_52, zi_57, zi_59, zi_80, zi_93, zi_106, zi_110, zi_114, zx_0_0, zx_0_1, zx_0_2, zx_0_3, zx_0_4, zx_0_5, zx_0_6, zx_0_7, zx_0_8, zx_0_9, zx_0_10, zx_1_0, zx_1_1, zx_2_0, zx_2_1, zx_2_2, zx_2_3, zx_2_4, zx_2_5, zx_10_0, zx_10_1, zx_11_0, zx_11_1, zx_11_2, zx_11_3, zx_17_0, zx_19_0, zx_19_1, zx_19_2, zx_20_0, zx_20_1, zx_20_3, zx_20_4, zx_20_5, zx_20_6, zx_20_7, zx_20_8, zx_20_9, zx_30_0, zx_30_1, zx_30_4, zx_30_5, zx_48_0, zx_50_0, zx_52_0, zx_52_1, zx_52_2, zx_56_0, zx_56_1, zx_56_2, zx_57_0, zx_59_0, zx_80_3, zx_80_4, zx_80_5, zx_81_0, zx_81_1, zx_81_2, zx_81_3, zx_81_4, zx_81_5, zx_88_0, zx_88_1, zx_88_2, zx_93_3, zx_93_4, zx_93_5, zx_94_0, zx_94_1, zx_94_2, zx_94_3, zx_94_4, zx_94_5, zx_101_0, zx_101_1, zx_101_2, zx_106_0, zx_106_1, zx_106_2, zx_110_0, zx_110_1, zx_110_2, zx_114_0, zx_114_1, zx_114_2, zgI_9, zsI_9, zgI_16, zsI_16, zgI_18, zsI_18, zgI_21, zsI_21, zgI_22, zsI_22, zgI_23, zsI_23, zgI_24, zsI_24, zgI_25, zsI_25, zgI_26, zsI_26, zgI_27, zsI_27, zgI_28, zsI_28, zgI_29, zsI_29, zgI_47, zsI_47, zgI_49, zsI_49, zgI_51, zsI_51, zgI_53, zsI_53, zgI_54, zsI_54, zgI_55, zsI_55, zgI_58, zsI_58, zgI_76, zsI_76, zgI_79, zsI_79, zb_106_0]
    exact ⟨σ, rfl, hC, zKeep.rf _ _⟩
/-- trails -/
def zTo (r : Nat) : Prop := r = 52 ∨ r = 106 ∨ r = 110 ∨ r = 114
def zTl (σ : zm_Sig) (r : Nat) (ds : List zDd) : Prop := σ.1 r 3 = nI ds.length ∧ ∀ k, k < ds.length → σ.1 (r + 1) k = nI (zdd ds k).1 ∧ σ.1 (r + 2) k = nI (zdd ds k).2.1 ∧ σ.1 (r + 3) k = nI (zdd ds k).2.2
def zFL (r a k : Nat) : Bool := (r + 1 ≤ a && a ≤ r + 3) || (a == r && k == 3)
theorem zTl.keep {S : Nat → Nat → Bool} {σ σ' : zm_Sig} {r : Nat} {ds : List zDd} (h : zTl σ r ds) (hk : zKeep S σ σ') (h0 : S r 3 = false) (hS : ∀ b k, r + 1 ≤ b → b ≤ r + 3 → S b k = false) : zTl σ' r ds :=
  ⟨(hk.i h0).trans h.1, fun k hk2 => ⟨(hk.i (hS _ _ (by omega) (by omega))).trans (h.2 k hk2).1, (hk.i (hS _ _ (by omega) (by omega))).trans (h.2 k hk2).2.1, (hk.i (hS _ _ (by omega) (by omega))).trans (h.2 k hk2).2.2⟩⟩
theorem c_add {ds : List zDd} (hF : zFix σ) (h : zTl σ 52 ds) (hl : ds.length < 20) (d : zDd) :
    ∃ σ', zM 105 [.ref 52, .int (nI d.1), .int (nI d.2.1), .int (nI d.2.2)] zL σ = some (none, zL, σ') ∧ zTl σ' 52 (ds ++ [d]) ∧ zKeep (zFL 52) σ σ' := by
  obtain ⟨h1, h2⟩ := h
  refine zS_ex (zS_of ze_105 ?_)
  simp (disch := first | assumption | omega) only [zn0, zn1, Option.bind_some, zm_ai, zm_al, zm_av, zm_opt, zm_fw, zE_l, zE_r, nI_add, pk_mul, pk_sub, pk_div, pk_rem, zrem, zpm1, zB_i0, zB_i1, zB_ok, zB_T, zB_F, nI_toInt, zT_sub, zT_neg, zT_le, zT_lt, nI_eq, zne1, zne2, zne9, ite_not, or_true, true_or, if_true, if_false, if_pos, if_neg, zw_R, zw_RL, zw_I, zF_R, zw_same, zw_cell, zw_ne, zF_at, zF_ne, zi_0, zi_1, zi_10, zi_17, zi_19, zi_20, zi_30, zi_48, zi_50, zi_52, zi_57, zi_59, zi_80, zi_93, zi_106, zi_110, zi_114, zx_0_0, zx_0_1, zx_0_2, zx_0_3, zx_0_4, zx_0_5, zx_0_6, zx_0_7, zx_0_8, zx_0_9, zx_0_10, zx_1_0, zx_1_1, zx_2_0, zx_2_1, zx_2_2, zx_2_3, zx_2_4, zx_2_5, zx_10_0, zx_10_1, zx_11_0, zx_11_1, zx_11_2, zx_11_3, zx_17_0, zx_19_0, zx_19_1, zx_19_2, zx_20_0, zx_20_1, zx_20_3, zx_20_4, zx_20_5, zx_20_6, zx_20_7, zx_20_8, zx_20_9, zx_30_0, zx_30_1, zx_30_4, zx_30_5, zx_48_0, zx_50_0, zx_52_0, zx_52_1, zx_52_2, zx_56_0, zx_56_1, zx_56_2, zx_57_0, zx_59_0, zx_80_3, zx_80_4, zx_80_5, zx_81_0, zx_81_1, zx_81_2, zx_81_3, zx_81_4, zx_81_5, zx_88_0, zx_88_1, zx_88_2, zx_93_3, zx_93_4, zx_93_5, zx_94_0, zx_94_1, zx_94_2, zx_94_3, zx_94_4, zx_94_5, zx_101_0, zx_101_1, zx_101_2, zx_106_0, zx_106_1, zx_106_2, zx_110_0, zx_110_1, zx_110_2, zx_114_0, zx_114_1, zx_114_2, zgI_9, zsI_9, zgI_16, zsI_16, zgI_18, zsI_18, zgI_21, zsI_21, zgI_22, zsI_22, zgI_23, zsI_23, zgI_24, zsI_24, zgI_25, zsI_25, zgI_26, zsI_26, zgI_27, zsI_27, zgI_28, zsI_28, zgI_29, zsI_29, zgI_47, zsI_47, zgI_49, zsI_49, zgI_51, zsI_51, zgI_53, zsI_53, zgI_54, zsI_54, zgI_55, zsI_55, zgI_58, zsI_58, zgI_76, zsI_76, zgI_79, zsI_79, zb_105_0, h1]
  refine ⟨_, rfl, ⟨?_, fun k hk => ?_⟩, ?_⟩
  · rw [zw_same, List.length_append]; rfl
  · rw [List.length_append, List.length_singleton] at hk
    rw [zdd_snoc hk]
    show (zm_wI (zm_wI (zm_wI (zm_wI σ 53 ds.length (nI d.1)) 54 ds.length (nI d.2.1)) 55 ds.length (nI d.2.2)) 52 3 (nI (ds.length + 1))).1 53 k = _ ∧ (zm_wI (zm_wI (zm_wI (zm_wI σ 53 ds.length (nI d.1)) 54 ds.length (nI d.2.1)) 55 ds.length (nI d.2.2)) 52 3 (nI (ds.length + 1))).1 54 k = _ ∧ (zm_wI (zm_wI (zm_wI (zm_wI σ 53 ds.length (nI d.1)) 54 ds.length (nI d.2.1)) 55 ds.length (nI d.2.2)) 52 3 (nI (ds.length + 1))).1 55 k = _
    rw [zw_cell _ _ (show (53 : Nat) ≠ 52 by decide), zw_cell _ _ (show (53 : Nat) ≠ 55 by decide), zw_cell _ _ (show (53 : Nat) ≠ 54 by decide), zwx, zw_cell _ _ (show (54 : Nat) ≠ 52 by decide), zw_cell _ _ (show (54 : Nat) ≠ 55 by decide), zwx, zw_cell _ _ (show (54 : Nat) ≠ 53 by decide), zw_cell _ _ (show (55 : Nat) ≠ 52 by decide), zwx, zw_cell _ _ (show (55 : Nat) ≠ 54 by decide), zw_cell _ _ (show (55 : Nat) ≠ 53 by decide)]
    by_cases e : k = ds.length
    · rw [if_pos e, if_pos e, if_pos e, if_pos e]; exact ⟨rfl, rfl, rfl⟩
    · rw [if_neg e, if_neg e, if_neg e, if_neg e]; exact h2 k (by omega)
  · exact (((((zKeep.rf (zFL 52) σ).wI rfl).wI rfl).wI rfl).wI rfl)
def zFP (a k : Nat) : Bool := zFB a k || zFL 52 a k
theorem c_perform {ds : List zDd} {d : zDd} (hF : zFix σ) (ha : zGo a) (h4 : σ.2.2 19 4 = some a) (hG : zCG σ a G) (hk : zGk G) (hC : zCB σ G B) (hB : zBok G B) (hv : zva d B) (hT : zTl σ 52 ds) (hl : ds.length < 20) :
    ∃ σ', zM 104 [.ref 19, .int (nI d.1), .int (nI d.2.1), .int (nI d.2.2)] zL σ = some (none, zL, σ') ∧ zCB σ' G (zen G d B) ∧ zTl σ' 52 (ds ++ [d]) ∧ zKeep zFP σ σ' := by
  have hge := ha.ge
  obtain ⟨σ1, e1, hT1, hK1⟩ := c_add hF hT hl d
  have hL : ∀ {b k}, (b ≤ 51 ∨ 56 ≤ b) → zFL 52 b k = false := fun {b k} hb => by
    simp only [zFL, Bool.or_eq_false_iff, Bool.and_eq_false_iff, decide_eq_false_iff_not, beq_eq_false_iff_ne]
    omega
  obtain ⟨c1, c2, ⟨π, c3⟩, c4, c5⟩ := id hC
  have hC1 : zCB σ1 G B := ⟨c1.keep hK1 rfl fun k => ⟨rfl, rfl, rfl, rfl, rfl⟩, c2.keep hK1 rfl fun k => ⟨rfl, rfl, rfl⟩, ⟨π, c3.keep hB.2.1.1 hK1 (fun a k h1 h2 => hL (by omega)) rfl⟩, (hK1.i rfl).trans c4, (hK1.i rfl).trans c5⟩
  obtain ⟨σ2, e2, hB2, hK2⟩ := c_enact (hK1.fix hF rfl) ha ((hK1.r rfl).trans h4) (hG.keep hk.1 hK1 (fun k _ => hL (by omega)) fun b k hb _ => hL (by omega)) hk hC1 hB hv
  refine zS_ex (zS_of ze_104 ?_)
  simp (disch := first | assumption | omega) only [zn0, zn1, Option.bind_some, zm_ai, zm_al, zm_av, zm_opt, zm_fw, zE_l, zE_r, nI_add, pk_mul, pk_sub, pk_div, pk_rem, zrem, zpm1, zB_i0, zB_i1, zB_ok, zB_T, zB_F, nI_toInt, zT_sub, zT_neg, zT_le, zT_lt, nI_eq, zne1, zne2, zne9, ite_not, or_true, true_or, if_true, if_false, if_pos, if_neg, zw_R, zw_RL, zw_I, zF_R, zw_same, zw_cell, zw_ne, zF_at, zF_ne, zi_0, zi_1, zi_10, zi_17, zi_19, zi_20, zi_30, zi_48, zi_50, zi_52, zi_57, zi_59, zi_80, zi_93, zi_106, zi_110, zi_114, zx_0_0, zx_0_1, zx_0_2, zx_0_3, zx_0_4, zx_0_5, zx_0_6, zx_0_7, zx_0_8, zx_0_9, zx_0_10, zx_1_0, zx_1_1, zx_2_0, zx_2_1, zx_2_2, zx_2_3, zx_2_4, zx_2_5, zx_10_0, zx_10_1, zx_11_0, zx_11_1, zx_11_2, zx_11_3, zx_17_0, zx_19_0, zx_19_1, zx_19_2, zx_20_0, zx_20_1, zx_20_3, zx_20_4, zx_20_5, zx_20_6, zx_20_7, zx_20_8, zx_20_9, zx_30_0, zx_30_1, zx_30_4, zx_30_5, zx_48_0, zx_50_0, zx_52_0, zx_52_1, zx_52_2, zx_56_0, zx_56_1, zx_56_2, zx_57_0, zx_59_0, zx_80_3, zx_80_4, zx_80_5, zx_81_0, zx_81_1, zx_81_2, zx_81_3, zx_81_4, zx_81_5, zx_88_0, zx_88_1, zx_88_2, zx_93_3, zx_93_4, zx_93_5, zx_94_0, zx_94_1, zx_94_2, zx_94_3, zx_94_4, zx_94_5, zx_101_0, zx_101_1, zx_101_2, zx_106_0, zx_106_1, zx_106_2, zx_110_0, zx_110_1, zx_110_2, zx_114_0, zx_114_1, zx_114_2, zgI_9, zsI_9, zgI_16, zsI_16, zgI_18, zsI_18, zgI_21, zsI_21, zgI_22, zsI_22, zgI_23, zsI_23, zgI_24, zsI_24, zgI_25, zsI_25, zgI_26, zsI_26, zgI_27, zsI_27, zgI_28, zsI_28, zgI_29, zsI_29, zgI_47, zsI_47, zgI_49, zsI_49, zgI_51, zsI_51, zgI_53, zsI_53, zgI_54, zsI_54, zgI_55, zsI_55, zgI_58, zsI_58, zgI_76, zsI_76, zgI_79, zsI_79, zb_104_0, e1, e2]
  exact ⟨σ2, rfl, hB2, hT1.keep hK2 rfl fun b k h1 h2 => zFB_hi (by omega), (hK1.mo fun x k q => by simp [zFP, q]).tr (hK2.mo fun x k q => by simp [zFP, q])⟩
theorem c_replay {π : Nat → Nat} {ds : List zDd} (hF : zFix σ) (ha : zGo a) (h4 : σ.2.2 19 4 = some a) (hG : zCG σ a G) (hk : zGk G) (hp : zPi σ π) (hT : zTl σ 52 ds) (hg : zgood G ds) :
    ∃ σ', zM 129 [.ref 19] zL σ = some (none, zL, σ') ∧ zCB σ' G (zrun G ds) ∧ zKeep zFB σ σ' := by
  have hge := ha.ge
  obtain ⟨σ1, e1, hB1, hK1⟩ := c_arrange hF ha h4 hG hk hp (o := 0) (by decide)
  refine zS_ex (zS_of ze_129 ?_)
  simp (disch := first | assumption | omega) only [zn0, zn1, Option.bind_some, zm_ai, zm_al, zm_av, zm_opt, zm_fw, zE_l, zE_r, nI_add, pk_mul, pk_sub, pk_div, pk_rem, zrem, zpm1, zB_i0, zB_i1, zB_ok, zB_T, zB_F, nI_toInt, zT_sub, zT_neg, zT_le, zT_lt, nI_eq, zne1, zne2, zne9, ite_not, or_true, true_or, if_true, if_false, if_pos, if_neg, zw_R, zw_RL, zw_I, zF_R, zw_same, zw_cell, zw_ne, zF_at, zF_ne, zi_0, zi_1, zi_10, zi_17, zi_19, zi_20, zi_30, zi_48, zi_50, zi_52, zi_57, zi_59, zi_80, zi_93, zi_106, zi_110, zi_114, zx_0_0, zx_0_1, zx_0_2, zx_0_3, zx_0_4, zx_0_5, zx_0_6, zx_0_7, zx_0_8, zx_0_9, zx_0_10, zx_1_0, zx_1_1, zx_2_0, zx_2_1, zx_2_2, zx_2_3, zx_2_4, zx_2_5, zx_10_0, zx_10_1, zx_11_0, zx_11_1, zx_11_2, zx_11_3, zx_17_0, zx_19_0, zx_19_1, zx_19_2, zx_20_0, zx_20_1, zx_20_3, zx_20_4, zx_20_5, zx_20_6, zx_20_7, zx_20_8, zx_20_9, zx_30_0, zx_30_1, zx_30_4, zx_30_5, zx_48_0, zx_50_0, zx_52_0, zx_52_1, zx_52_2, zx_56_0, zx_56_1, zx_56_2, zx_57_0, zx_59_0, zx_80_3, zx_80_4, zx_80_5, zx_81_0, zx_81_1, zx_81_2, zx_81_3, zx_81_4, zx_81_5, zx_88_0, zx_88_1, zx_88_2, zx_93_3, zx_93_4, zx_93_5, zx_94_0, zx_94_1, zx_94_2, zx_94_3, zx_94_4, zx_94_5, zx_101_0, zx_101_1, zx_101_2, zx_106_0, zx_106_1, zx_106_2, zx_110_0, zx_110_1, zx_110_2, zx_114_0, zx_114_1, zx_114_2, zgI_9, zsI_9, zgI_16, zsI_16, zgI_18, zsI_18, zgI_21, zsI_21, zgI_22, zsI_22, zgI_23, zsI_23, zgI_24, zsI_24, zgI_25, zsI_25, zgI_26, zsI_26, zgI_27, zsI_27, zgI_28, zsI_28, zgI_29, zsI_29, zgI_47, zsI_47, zgI_49, zsI_49, zgI_51, zsI_51, zgI_53, zsI_53, zgI_54, zsI_54, zgI_55, zsI_55, zgI_58, zsI_58, zgI_76, zsI_76, zgI_79, zsI_79, zb_129_0, e1]
  have h20 := hg.1
  refine zloop (fun m σ1 => (7, [(0, .ref 19), (1, .int (nI m))], [], zL, σ1, 0, 0)) (fun m σ1 => zCB σ1 G (zrun G (ds.take m)) ∧ zKeep zFB σ σ1) ds.length (fun m σ1 hm hI ih => ?_) (fun σ1 hI => ?_) 0 σ1 (by omega) ⟨hB1, hK1.mo fun x k q => zFB_of (by simp [q])⟩
  · obtain ⟨hC, hK⟩ := hI
    have hF1 := hK.fix hF rfl
    have hT1 := hT.keep hK rfl fun b k h1 h2 => zFB_hi (by omega)
    have t1 := hT1.1
    obtain ⟨t2, t3, t4⟩ := hT1.2 m hm
    have hG1 := hG.keep hk.1 hK (fun k _ => zFB_hi (by omega)) fun b k hb _ => zFB_hi (by omega)
    obtain ⟨σ2, e2, hB2, hK2⟩ := c_enact hF1 ha ((hK.r rfl).trans h4) hG1 hk hC (hg.ok hk m (by omega)) (hg.2 m hm)
    refine zW_of zg_129_7 ?_
    simp (disch := first | assumption | omega) only [zn0, zn1, Option.bind_some, zm_ai, zm_al, zm_av, zm_opt, zm_fw, zE_l, zE_r, nI_add, pk_mul, pk_sub, pk_div, pk_rem, zrem, zpm1, zB_i0, zB_i1, zB_ok, zB_T, zB_F, nI_toInt, zT_sub, zT_neg, zT_le, zT_lt, nI_eq, zne1, zne2, zne9, ite_not, or_true, true_or, if_true, if_false, if_pos, if_neg, zw_R, zw_RL, zw_I, zF_R, zw_same, zw_cell, zw_ne, zF_at, zF_ne, zi_0, zi_1, zi_10, zi_17, zi_19, zi_20, zi_30, zi_48, zi_50, zi_52, zi_57, zi_59, zi_80, zi_93, zi_106, zi_110, zi_114, zx_0_0, zx_0_1, zx_0_2, zx_0_3, zx_0_4, zx_0_5, zx_0_6, zx_0_7, zx_0_8, zx_0_9, zx_0_10, zx_1_0, zx_1_1, zx_2_0, zx_2_1, zx_2_2, zx_2_3, zx_2_4, zx_2_5, zx_10_0, zx_10_1, zx_11_0, zx_11_1, zx_11_2, zx_11_3, zx_17_0, zx_19_0, zx_19_1, zx_19_2, zx_20_0, zx_20_1, zx_20_3, zx_20_4, zx_20_5, zx_20_6, zx_20_7, zx_20_8, zx_20_9, zx_30_0, zx_30_1, zx_30_4, zx_30_5, zx_48_0, zx_50_0, zx_52_0, zx_52_1, zx_52_2, zx_56_0, zx_56_1, zx_56_2, zx_57_0, zx_59_0, zx_80_3, zx_80_4, zx_80_5, zx_81_0, zx_81_1, zx_81_2, zx_81_3, zx_81_4, zx_81_5, zx_88_0, zx_88_1, zx_88_2, zx_93_3, zx_93_4, zx_93_5, zx_94_0, zx_94_1, zx_94_2, zx_94_3, zx_94_4, zx_94_5, zx_101_0, zx_101_1, zx_101_2, zx_106_0, zx_106_1, zx_106_2, zx_110_0, zx_110_1, zx_110_2, zx_114_0, zx_114_1, zx_114_2, zgI_9, zsI_9, zgI_16, zsI_16, zgI_18, zsI_18, zgI_21, zsI_21, zgI_22, zsI_22, zgI_23, zsI_23, zgI_24, zsI_24, zgI_25, zsI_25, zgI_26, zsI_26, zgI_27, zsI_27, zgI_28, zsI_28, zgI_29, zsI_29, zgI_47, zsI_47, zgI_49, zsI_49, zgI_51, zsI_51, zgI_53, zsI_53, zgI_54, zsI_54, zgI_55, zsI_55, zgI_58, zsI_58, zgI_76, zsI_76, zgI_79, zsI_79, zb_129_7, t1, t2, t3, t4, e2]
    refine ih σ2 ⟨?_, hK.tr hK2⟩
    rw [zrun_take hm]
    exact hB2
  · obtain ⟨hC, hK⟩ := hI
    have hF1 := hK.fix hF rfl
    have t1 := (hT.keep hK rfl fun b k h1 h2 => zFB_hi (by omega)).1
    rw [List.take_length] at hC
    refine zW_of zg_129_7 ?_
    simp (disch := first | assumption | omega) only [zn0, zn1, Option.bind_some, zm_ai, zm_al, zm_av, zm_opt, zm_fw, zE_l, zE_r, nI_add, pk_mul, pk_sub, pk_div, pk_rem, zrem, zpm1, zB_i0, zB_i1, zB_ok, zB_T, zB_F, nI_toInt, zT_sub, zT_neg, zT_le, zT_lt, nI_eq, zne1, zne2, zne9, ite_not, or_true, true_or, if_true, if_false, if_pos, if_neg, zw_R, zw_RL, zw_I, zF_R, zw_same, zw_cell, zw_ne, zF_at, zF_ne, zi_0, zi_1, zi_10, zi_17, zi_19, zi_20, zi_30, zi_48, zi_50, zi_52, zi_57, zi_59, zi_80, zi_93, zi_106, zi_110, zi_114, zx_0_0, zx_0_1, zx_0_2, zx_0_3, zx_0_4, zx_0_5, zx_0_6, zx_0_7, zx_0_8, zx_0_9, zx_0_10, zx_1_0, zx_1_1, zx_2_0, zx_2_1, zx_2_2, zx_2_3, zx_2_4, zx_2_5, zx_10_0, zx_10_1, zx_11_0, zx_11_1, zx_11_2, zx_11_3, zx_17_0, zx_19_0, zx_19_1, zx_19_2, zx_20_0, zx_20_1, zx_20_3, zx_20_4, zx_20_5, zx_20_6, zx_20_7, zx_20_8, zx_20_9, zx_30_0, zx_30_1, zx_30_4, zx_30_5, zx_48_0, zx_50_0, zx_52_0, zx_52_1, zx_52_2, zx_56_0, zx_56_1, zx_56_2, zx_57_0, zx_59_0, zx_80_3, zx_80_4, zx_80_5, zx_81_0, zx_81_1, zx_81_2, zx_81_3, zx_81_4, zx_81_5, zx_88_0, zx_88_1, zx_88_2, zx_93_3, zx_93_4, zx_93_5, zx_94_0, zx_94_1, zx_94_2, zx_94_3, zx_94_4, zx_94_5, zx_101_0, zx_101_1, zx_101_2, zx_106_0, zx_106_1, zx_106_2, zx_110_0, zx_110_1, zx_110_2, zx_114_0, zx_114_1, zx_114_2, zgI_9, zsI_9, zgI_16, zsI_16, zgI_18, zsI_18, zgI_21, zsI_21, zgI_22, zsI_22, zgI_23, zsI_23, zgI_24, zsI_24, zgI_25, zsI_25, zgI_26, zsI_26, zgI_27, zsI_27, zgI_28, zsI_28, zgI_29, zsI_29, zgI_47, zsI_47, zgI_49, zsI_49, zgI_51, zsI_51, zgI_53, zsI_53, zgI_54, zsI_54, zgI_55, zsI_55, zgI_58, zsI_58, zgI_76, zsI_76, zgI_79, zsI_79, zb_129_7, t1]
    exact ⟨σ1, rfl, hC, hK⟩
end ZEN
