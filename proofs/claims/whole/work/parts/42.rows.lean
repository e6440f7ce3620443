/-! calls on rows and texts -/
def zRs {α : Type} (R : Nat → Option α) (r : Nat) (o : Option α) : Nat → Option α := fun q => if q = r then o else R q
theorem zRs_s {α : Type} (R : Nat → Option α) (r : Nat) (o : Option α) : zRs R r o r = o := if_pos rfl
theorem zRs_n {α : Type} (R : Nat → Option α) {r q : Nat} (o : Option α) (h : q ≠ r) : zRs R r o q = R q := if_neg h
section ZRC
variable {σ σ' : zm_Sig} {a s N Kb : Nat} {G : zG} {ds : List zDd} {ks : zKs} {R T : zRo} {K : zK}
theorem zSv.put {zc c0 : Nat} (h : zSv σ zc c0 N Kb R) {r : Nat} {l : List Int32} (hl : l.length ≤ Kb) (e1 : σ'.1 zc r = nI l.length) (e2 : ∀ q, q < N → q ≠ r → σ'.1 zc q = σ.1 zc q) (e3 : ∀ j, j < l.length → σ'.1 (c0 + r) j = zat l j) (e4 : ∀ q j, q < N → q ≠ r → σ'.1 (c0 + q) j = σ.1 (c0 + q) j) : zSv σ' zc c0 N Kb (zRs R r (some l)) := fun q hq => by
  by_cases e : q = r
  · subst e
    rw [zRs_s]
    exact ⟨fun q => (by cases q), fun l' q => (by cases q; exact ⟨hl, e1, e3⟩)⟩
  · rw [zRs_n _ _ e, e2 q hq e]
    refine ⟨(h q hq).1, fun l' q' => ⟨((h q hq).2 l' q').1, ((h q hq).2 l' q').2.1, fun j hj => ?_⟩⟩
    rw [e4 q j hq e]
    exact ((h q hq).2 l' q').2.2 j hj
theorem zSm.put {zm cm : Nat} (h : zSm σ zm cm N Kb R) {r : Nat} {l : List Int32} (hl : l.length ≤ Kb) (e1 : σ'.1 zm r = nI l.length) (e2 : ∀ q, q < N → q ≠ r → σ'.1 zm q = σ.1 zm q) (e3 : ∀ j, j < l.length → σ'.1 cm (Kb * r + j) = zat l j) (e4 : ∀ k, ¬ (Kb * r ≤ k ∧ k < Kb * r + Kb) → σ'.1 cm k = σ.1 cm k) : zSm σ' zm cm N Kb (zRs R r (some l)) := fun q hq => by
  by_cases e : q = r
  · subst e
    rw [zRs_s]
    exact ⟨fun q => (by cases q), fun l' q => (by cases q; exact ⟨hl, e1, e3⟩)⟩
  · rw [zRs_n _ _ e, e2 q hq e]
    refine ⟨(h q hq).1, fun l' q' => ⟨((h q hq).2 l' q').1, ((h q hq).2 l' q').2.1, fun j hj => ?_⟩⟩
    have := ((h q hq).2 l' q').1
    rw [e4]
    · exact ((h q hq).2 l' q').2.2 j hj
    · intro hz
      rcases Nat.lt_or_ge q r with z | z
      · have : Kb * (q + 1) ≤ Kb * r := Nat.mul_le_mul_left Kb z
        rw [Nat.mul_add] at this
        omega
      · have hqr : r + 1 ≤ q := by omega
        have : Kb * (r + 1) ≤ Kb * q := Nat.mul_le_mul_left Kb hqr
        rw [Nat.mul_add] at this
        omega
theorem zSv.gone {zc c0 : Nat} (h : zSv σ zc c0 N Kb R) {r : Nat} (e1 : σ'.1 zc r = -nI 1) (e2 : ∀ q, q < N → q ≠ r → σ'.1 zc q = σ.1 zc q) (e4 : ∀ q j, q < N → σ'.1 (c0 + q) j = σ.1 (c0 + q) j) : zSv σ' zc c0 N Kb (zRs R r none) := fun q hq => by
  by_cases e : q = r
  · subst e
    rw [zRs_s]
    exact ⟨fun _ => e1, fun l' q => (by cases q)⟩
  · rw [zRs_n _ _ e, e2 q hq e]
    refine ⟨(h q hq).1, fun l' q' => ⟨((h q hq).2 l' q').1, ((h q hq).2 l' q').2.1, fun j hj => ?_⟩⟩
    rw [e4 q j hq]
    exact ((h q hq).2 l' q').2.2 j hj
theorem zSm.gone {zm cm : Nat} (h : zSm σ zm cm N Kb R) {r : Nat} (e1 : σ'.1 zm r = -nI 1) (e2 : ∀ q, q < N → q ≠ r → σ'.1 zm q = σ.1 zm q) (e4 : ∀ k, σ'.1 cm k = σ.1 cm k) : zSm σ' zm cm N Kb (zRs R r none) := fun q hq => by
  by_cases e : q = r
  · subst e
    rw [zRs_s]
    exact ⟨fun _ => e1, fun l' q => (by cases q)⟩
  · rw [zRs_n _ _ e, e2 q hq e]
    refine ⟨(h q hq).1, fun l' q' => ⟨((h q hq).2 l' q').1, ((h q hq).2 l' q').2.1, fun j hj => ?_⟩⟩
    rw [e4]
    exact ((h q hq).2 l' q').2.2 j hj
/-- only rows change; only texts change -/
def zFr (x k : Nat) : Bool := 3 ≤ x && x ≤ 9
def zFt (x k : Nat) : Bool := 12 ≤ x && x ≤ 16
def zFmr (x k : Nat) : Bool := x == 119 || x == 120
def zFmt (x k : Nat) : Bool := x == 121 || x == 122
theorem zC.rowsTo {R' : zRo} (h : zC σ a R T K G ds ks) (hV : zVk G ds ks) (hK : zKeep zFr σ σ') (hR : zSv σ' 9 3 6 40 R') : zC σ' a R' T K G ds ks :=
  ⟨hK.fix h.1 rfl, hR, h.2.2.1.keep hK (fun k => rfl) (fun r k hr => by simp only [zFr, Bool.and_eq_false_iff, decide_eq_false_iff_not]; omega), h.2.2.2.1.keep hK ⟨rfl, rfl, rfl, rfl⟩ (fun k => rfl), h.2.2.2.2.keep hV hK fun x k q => by
    have := zCi_f q
    have := h.2.2.2.2.1
    unfold zGo at this
    simp only [zFr, Bool.and_eq_false_iff, decide_eq_false_iff_not]
    omega⟩
theorem zC.textsTo {R' : zRo} (h : zC σ a R T K G ds ks) (hV : zVk G ds ks) (hK : zKeep zFt σ σ') (hR : zSv σ' 16 12 4 60 R') : zC σ' a R R' K G ds ks :=
  ⟨hK.fix h.1 rfl, h.2.1.keep hK (fun k => rfl) (fun r k hr => by simp only [zFt, Bool.and_eq_false_iff, decide_eq_false_iff_not]; omega), hR, h.2.2.2.1.keep hK ⟨rfl, rfl, rfl, rfl⟩ (fun k => rfl), h.2.2.2.2.keep hV hK fun x k q => by
    have := zCi_f q
    have := h.2.2.2.2.1
    unfold zGo at this
    simp only [zFt, Bool.and_eq_false_iff, decide_eq_false_iff_not]
    omega⟩
theorem zMm.rowsTo {R' : zRo} (h : zMm σ R T K G ds ks) (hV : zVk G ds ks) (hK : zKeep zFmr σ σ') (hR : zSm σ' 119 120 6 40 R') : zMm σ' R' T K G ds ks :=
  ⟨hK.fix h.1 rfl, hR, h.2.2.1.keep hK (fun k => rfl) (fun k => rfl), h.2.2.2.1.keep hK ⟨rfl, rfl, rfl, rfl⟩ (fun k => rfl), h.2.2.2.2.keep hV hK fun x k q => by
    have := zMi_f q
    simp only [zFmr, Bool.or_eq_false_iff, beq_eq_false_iff_ne]
    omega⟩
theorem zMm.textsTo {R' : zRo} (h : zMm σ R T K G ds ks) (hV : zVk G ds ks) (hK : zKeep zFmt σ σ') (hR : zSm σ' 121 122 4 60 R') : zMm σ' R R' K G ds ks :=
  ⟨hK.fix h.1 rfl, h.2.1.keep hK (fun k => rfl) (fun k => rfl), hR, h.2.2.2.1.keep hK ⟨rfl, rfl, rfl, rfl⟩ (fun k => rfl), h.2.2.2.2.keep hV hK fun x k q => by
    have := zMi_f q
    simp only [zFmt, Bool.or_eq_false_iff, beq_eq_false_iff_ne]
    omega⟩
theorem zFr_cls {σ1 σ2 : zm_Sig} (h : zKeep zFr σ1 σ2) : zKeep zCls σ1 σ2 := h.mo fun x k q => by
  simp only [zFr, Bool.and_eq_true, decide_eq_true_eq] at q
  simp only [zCls, decide_eq_true_eq]
  omega
theorem zFt_cls {σ1 σ2 : zm_Sig} (h : zKeep zFt σ1 σ2) : zKeep zCls σ1 σ2 := h.mo fun x k q => by
  simp only [zFt, Bool.and_eq_true, decide_eq_true_eq] at q
  simp only [zCls, decide_eq_true_eq]
  omega
theorem zFmr_rfs {σ1 σ2 : zm_Sig} (h : zKeep zFmr σ1 σ2) : zKeep zRfs σ1 σ2 := h.mo fun x k q => by
  simp only [zFmr, Bool.or_eq_true, beq_iff_eq] at q
  simp only [zRfs, decide_eq_true_eq]
  omega
theorem zFmt_rfs {σ1 σ2 : zm_Sig} (h : zKeep zFmt σ1 σ2) : zKeep zRfs σ1 σ2 := h.mo fun x k q => by
  simp only [zFmt, Bool.or_eq_true, beq_iff_eq] at q
  simp only [zRfs, decide_eq_true_eq]
  omega
/-- shelves -/
theorem c_no_f (h : zSh s N Kb) (hF : zFix σ) {x : Int32} (hx : x.toInt < 0 ∨ (N : Int) ≤ x.toInt) : zM 12 [.ref s, .int x] zL σ = some (some (.int (nI 0)), zL, σ) := by
  have hb := h.b
  rw [c_isNumber h hF, if_pos]
  · rfl
  · rw [zn0, zT_lt, zT_le, nI_toInt (by omega), nI_toInt (by omega)]
    exact hx
theorem c_no_t (h : zSh s N Kb) (hF : zFix σ) {r : Nat} (hr : r < N) : zM 12 [.ref s, .int (nI r)] zL σ = some (some (.int (nI 1)), zL, σ) := by
  have hb := h.b
  rw [c_isNumber h hF, if_neg (z_nn hr (by omega))]
  rfl
theorem c_ms_t (h : zSh s N Kb) (hF : zFix σ) (hR : zSv σ (s + 2 + N) (s + 2) N Kb R) {r : Nat} (hr : r < N) (e : R r = none) : zM 16 [.ref s, .int (nI r)] zL σ = some (some (.int (nI 1)), zL, σ) := by
  rw [c_isMissing h hF hr, if_pos (show σ.1 (s + 2 + N) r = -1 from (hR r hr).1 e)]
  rfl
theorem c_ms_f (h : zSh s N Kb) (hF : zFix σ) (hR : zSv σ (s + 2 + N) (s + 2) N Kb R) {r : Nat} (hr : r < N) {l : List Int32} (e : R r = some l) : zM 16 [.ref s, .int (nI r)] zL σ = some (some (.int (nI 0)), zL, σ) := by
  have hb := h.b
  obtain ⟨h1, h2, h3⟩ := (hR r hr).2 l e
  have hne : ¬ σ.1 (s + 2 + N) r = -1 := by
    rw [h2]
    intro q
    have := congrArg Int32.toInt q
    rw [nI_toInt (by omega), zT_m1] at this
    omega
  rw [c_isMissing h hF hr, if_neg hne]
  rfl
theorem c_hp_f (h : zSh s N Kb) (hF : zFix σ) (hR : zSv σ (s + 2 + N) (s + 2) N Kb R) {r : Nat} (hr : r < N) {l : List Int32} (e : R r = some l) {x : Int32} (hx : x.toInt < 0 ∨ (l.length : Int) ≤ x.toInt) : zM 17 [.ref s, .int (nI r), .int x] zL σ = some (some (.int (nI 0)), zL, σ) := by
  have hb := h.b
  obtain ⟨h1, h2, h3⟩ := (hR r hr).2 l e
  rw [c_hasPlace h hF hr, if_pos]
  · rfl
  · rw [h2, zn0, zT_lt, zT_le, nI_toInt (by omega), nI_toInt (by omega)]
    exact hx
theorem c_hp_t (h : zSh s N Kb) (hF : zFix σ) (hR : zSv σ (s + 2 + N) (s + 2) N Kb R) {r : Nat} (hr : r < N) {l : List Int32} (e : R r = some l) {j : Nat} (hj : j < l.length) : zM 17 [.ref s, .int (nI r), .int (nI j)] zL σ = some (some (.int (nI 1)), zL, σ) := by
  have hb := h.b
  obtain ⟨h1, h2, h3⟩ := (hR r hr).2 l e
  rw [c_hasPlace h hF hr, if_neg]
  · rfl
  · rw [h2]
    exact z_nn hj (by omega)
theorem c_rd (h : zSh s N Kb) (hF : zFix σ) (hR : zSv σ (s + 2 + N) (s + 2) N Kb R) {r : Nat} (hr : r < N) {l : List Int32} (e : R r = some l) {j : Nat} (hj : j < l.length) : zM 18 [.ref s, .int (nI r), .int (nI j)] zL σ = some (some (.int (zat l j)), zL, σ) := by
  have hb := h.b
  obtain ⟨h1, h2, h3⟩ := (hR r hr).2 l e
  rw [c_read h hF hr (by omega) (by rw [h2]; exact nI_ge hj (by omega)), h3 j hj]
theorem zat_set {l : List Int32} {i j : Nat} {v : Int32} (hi : i < l.length) : zat (l.set i v) j = if j = i then v else zat l j := zget_set hi
theorem c_wr (h : zSh s N Kb) (hF : zFix σ) (hR : zSv σ (s + 2 + N) (s + 2) N Kb R) {r : Nat} (hr : r < N) {l : List Int32} (e : R r = some l) {j : Nat} (hj : j < l.length) (v : Int32) : zM 19 [.ref s, .int (nI r), .int (nI j), .int v] zL σ = some (none, zL, zm_wI σ (s + 2 + r) j v) ∧ zSv (zm_wI σ (s + 2 + r) j v) (s + 2 + N) (s + 2) N Kb (zRs R r (some (l.set j v))) := by
  have hb := h.b
  obtain ⟨h1, h2, h3⟩ := (hR r hr).2 l e
  refine ⟨c_write h hF hr (by omega) (by rw [h2]; exact nI_ge hj (by omega)) v, hR.put (by rw [List.length_set]; exact h1) (by rw [zw_cell _ _ (by omega), List.length_set]; exact h2) (fun q hq hn => by rw [zw_cell _ _ (by omega)]) (fun k hk => ?_) (fun q k hq hn => by rw [zw_cell _ _ (by omega)])⟩
  rw [List.length_set] at hk
  rw [zwx, zat_set hj]
  split
  · rfl
  · exact h3 k hk
theorem zat_rep {n j : Nat} {v : Int32} (h : j < n) : zat (List.replicate n v) j = v := by
  unfold zat
  rw [List.getD_eq_getElem?_getD, List.getElem?_replicate_of_lt h]
  rfl
theorem c_mk (h : zSh s N Kb) (hF : zFix σ) (hR : zSv σ (s + 2 + N) (s + 2) N Kb R) {r n : Nat} (hr : r < N) (hn : n ≤ Kb) (v : Int32) : ∃ σ', zM 14 [.ref s, .int (nI r), .int (nI n), .int v] zL σ = some (none, zL, σ') ∧ zSv σ' (s + 2 + N) (s + 2) N Kb (zRs R r (some (List.replicate n v))) ∧ zKeep (fun x k => s + 2 ≤ x && x ≤ s + 2 + N) σ σ' := by
  have hb := h.b
  refine ⟨_, c_make h hF hr hn v, hR.put (by rw [List.length_replicate]; exact hn) (by rw [zF_ne _ _ (by omega), zw_same, List.length_replicate]) (fun q hq hn => by rw [zF_ne _ _ (by omega), zw_ne _ _ (Or.inr hn)]) (fun k hk => ?_) (fun q k hq hn => by rw [zF_ne _ _ (by omega), zw_cell _ _ (by omega)]), ((zKeep.rf _ _).wI ?_).wF fun k => ?_⟩
  · rw [List.length_replicate] at hk
    rw [zF_at, zat_rep hk]
    exact if_pos (by omega)
  · simp
  · simp; omega
theorem c_sz (h : zSh s N Kb) (hF : zFix σ) (hR : zSv σ (s + 2 + N) (s + 2) N Kb R) {r : Nat} (hr : r < N) {l : List Int32} (e : R r = some l) : zM 28 [.ref s, .int (nI r)] zL σ = some (some (.int (nI l.length)), zL, σ) := by
  rw [c_sizeOf h hF hr, ((hR r hr).2 l e).2.1]
/-- the reference -/
theorem m_ir_f {x : Int32} (hx : x.toInt < 0 ∨ (6 : Int) ≤ x.toInt) : zM 175 [.int x] zL σ = some (some (.int (nI 0)), zL, σ) := by
  rw [m_isRow, if_pos]
  · rfl
  · rw [zn0, zT_lt, zT_lt, nI_toInt (by omega), nI_toInt (by omega)]
    omega
theorem m_ir_t {r : Nat} (hr : r < 6) : zM 175 [.int (nI r)] zL σ = some (some (.int (nI 1)), zL, σ) := by
  rw [m_isRow, if_neg (z_in (N := 5) hr (by decide))]
  rfl
theorem m_it_f {x : Int32} (hx : x.toInt < 0 ∨ (4 : Int) ≤ x.toInt) : zM 187 [.int x] zL σ = some (some (.int (nI 0)), zL, σ) := by
  rw [m_isText, if_pos]
  · rfl
  · rw [zn0, zT_lt, zT_lt, nI_toInt (by omega), nI_toInt (by omega)]
    omega
theorem m_it_t {r : Nat} (hr : r < 4) : zM 187 [.int (nI r)] zL σ = some (some (.int (nI 1)), zL, σ) := by
  rw [m_isText, if_neg (z_in (N := 3) hr (by decide))]
  rfl
theorem z_c6 (x : Int32) : (x.toInt < 0 ∨ (6 : Int) ≤ x.toInt) ∨ ∃ j, j < 6 ∧ x = nI j := by
  rcases z_cs x 5 (by decide) with h | ⟨j, hj, e⟩
  · exact Or.inl (by omega)
  · exact Or.inr ⟨j, by omega, e⟩
theorem z_c4 (x : Int32) : (x.toInt < 0 ∨ (4 : Int) ≤ x.toInt) ∨ ∃ j, j < 4 ∧ x = nI j := by
  rcases z_cs x 3 (by decide) with h | ⟨j, hj, e⟩
  · exact Or.inl (by omega)
  · exact Or.inr ⟨j, by omega, e⟩
theorem z_cl (x : Int32) (l : List Int32) (hl : l.length ≤ 1000) : (x.toInt < 0 ∨ (l.length : Int) ≤ x.toInt) ∨ ∃ j, j < l.length ∧ x = nI j := by
  rcases z_cs x 1000 (by decide) with h | ⟨j, hj, e⟩
  · exact Or.inl (by omega)
  · by_cases q : j < l.length
    · exact Or.inr ⟨j, q, e⟩
    · refine Or.inl (Or.inr ?_)
      rw [e, nI_toInt (by omega)]
      omega
theorem m_pl_n (hF : zFix σ) (hR : zSm σ 119 120 6 40 R) {r : Nat} (hr : r < 6) (e : R r = none) (x : Int32) : zM 180 [.ref 118, .int (nI r), .int x] zL σ = some (some (.int (nI 1)), zL, σ) := by
  have h1 := (hR r hr).1 e
  refine zS_eq (zS_of ze_180 ?_)
  simp (disch := first | assumption | omega) only [zn0, zn1, Option.bind_some, zm_ai, zm_al, zm_av, zm_opt, zm_fw, zE_l, zE_r, nI_add, pk_mul, pk_sub, pk_div, pk_rem, zrem, zpm1, zB_i0, zB_i1, zB_ok, zB_T, zB_F, nI_toInt, zT_sub, zT_neg, zT_le, zT_lt, nI_eq, zne1, zne2, zne9, ite_not, or_true, true_or, if_true, if_false, if_pos, if_neg, zw_R, zw_RL, zw_I, zF_R, zw_same, zw_cell, zw_ne, zF_at, zF_ne, zi_118, zx_118_0, zx_118_1, zx_118_2, zx_118_3, zx_118_7, zx_118_8, zx_118_9, zx_118_10, zx_118_11, zx_118_12, zx_118_13, zx_118_14, zx_118_15, zx_118_17, zx_118_18, zx_118_19, zx_118_21, zx_118_22, zx_118_24, zx_118_25, zx_118_30, zx_118_35, zx_118_36, zx_118_37, zx_118_38, zx_118_39, zx_118_41, zx_118_42, zx_118_44, zx_118_45, zx_118_46, zgI_119, zsI_119, zgI_120, zsI_120, zgI_121, zsI_121, zgI_122, zsI_122, zgI_123, zsI_123, zgI_124, zsI_124, zgI_125, zsI_125, zgI_126, zsI_126, zgI_127, zsI_127, zgI_128, zsI_128, zgI_129, zsI_129, zgI_130, zsI_130, zgI_131, zsI_131, zgI_132, zsI_132, zgI_133, zsI_133, zgI_134, zsI_134, zgI_135, zsI_135, zgI_136, zsI_136, zgI_137, zsI_137, zgI_139, zsI_139, zgI_140, zsI_140, zgI_141, zsI_141, zgI_142, zsI_142, zgI_143, zsI_143, zgI_144, zsI_144, zgI_145, zsI_145, zgI_146, zsI_146, zgI_147, zsI_147, zb_180_0, h1]
theorem m_pl_b (hF : zFix σ) (hR : zSm σ 119 120 6 40 R) {r : Nat} (hr : r < 6) {l : List Int32} (e : R r = some l) {x : Int32} (hx : x.toInt < 0 ∨ (l.length : Int) ≤ x.toInt) : zM 180 [.ref 118, .int (nI r), .int x] zL σ = some (some (.int (nI 2)), zL, σ) := by
  obtain ⟨h1, h2, h3⟩ := (hR r hr).2 l e
  refine zS_eq (zS_of ze_180 ?_)
  have hin : zM 176 [.int x, .int (nI 0), .int (nI l.length - nI 1)] zL σ = some (some (.int (nI 0)), zL, σ) := by
    rw [m_inI, zB_f]
    rw [zT_sub (by omega) (by omega), nI_toInt (by omega)]
    omega
  simp only [zb_180_0, zn0, zn1, zi_118, Option.bind_some, zx_118_0 hF, zm_opt, zgI_119 hr, h2, nI_le (Nat.zero_le l.length) (show l.length < 2147483648 by omega), if_true, hin, zm_ai, zE_r]
theorem m_pl_o (hF : zFix σ) (hR : zSm σ 119 120 6 40 R) {r : Nat} (hr : r < 6) {l : List Int32} (e : R r = some l) {j : Nat} (hj : j < l.length) : zM 180 [.ref 118, .int (nI r), .int (nI j)] zL σ = some (some (.int (nI 0)), zL, σ) := by
  obtain ⟨h1, h2, h3⟩ := (hR r hr).2 l e
  refine zS_eq (zS_of ze_180 ?_)
  have hin : zM 176 [.int (nI j), .int (nI 0), .int (nI l.length - nI 1)] zL σ = some (some (.int (nI 1)), zL, σ) := by
    rw [m_inI, zB_t]
    rw [zT_sub (by omega) (by omega), nI_toInt (by omega), nI_toInt (by omega)]
    omega
  have h10 : (nI 1 = nI 0) = False := eq_false (by decide)
  simp only [zb_180_0, zn0, zn1, zi_118, Option.bind_some, zx_118_0 hF, zm_opt, zgI_119 hr, h2, nI_le (Nat.zero_le l.length) (show l.length < 2147483648 by omega), if_true, hin, zm_ai, zE_r, h10, if_false]
theorem zSm.set {zm cm : Nat} (h : zSm σ zm cm N Kb R) {r : Nat} (hr : r < N) {l : List Int32} (e : R r = some l) (hne : zm ≠ cm) {j : Nat} (hj : j < l.length) (v : Int32) : zSm (zm_wI σ cm (Kb * r + j) v) zm cm N Kb (zRs R r (some (l.set j v))) := by
  obtain ⟨h1, h2, h3⟩ := (h r hr).2 l e
  refine h.put (by rw [List.length_set]; exact h1) (by rw [zw_cell _ _ hne, List.length_set]; exact h2) (fun q hq hn => by rw [zw_cell _ _ hne]) (fun k hk => ?_) (fun k hk => ?_)
  · rw [List.length_set] at hk
    rw [zat_set hj]
    by_cases q : k = j
    · rw [if_pos q, q, zw_same]
    · rw [if_neg q, zw_ne _ _ (Or.inr (by omega))]
      exact h3 k hk
  · rw [zw_ne _ _ (Or.inr (by omega))]
/-- lay -/
theorem k_lay (r i v : Int32) (h : zInv σ) : zCallV 15 179 [.int r, .int i, .int v] σ := by
  obtain ⟨a, R, T, K, G, ds, ks, hC, hM, hV⟩ := h
  obtain ⟨hF, hR, -⟩ := id hC
  rcases z_c6 r with hb | ⟨r, hr, rfl⟩
  · refine zCallV.of hV hV hM (v := .int (-nI 1)) (zCo.same hC (zS_eq (zS_of ze_15 ?_))) fun σ1 hM1 => zMo.same hM1 (zS_eq (zS_of ze_179 ?_))
    · simp (disch := first | assumption | omega) only [zn0, zn1, Option.bind_some, zm_ai, zm_al, zm_av, zm_opt, zm_fw, zE_l, zE_r, nI_add, pk_mul, pk_sub, pk_div, pk_rem, zrem, zpm1, zB_i0, zB_i1, zB_ok, zB_T, zB_F, nI_toInt, zT_sub, zT_neg, zT_le, zT_lt, nI_eq, zne1, zne2, zne9, ite_not, or_true, true_or, if_true, if_false, if_pos, if_neg, zw_R, zw_RL, zw_I, zF_R, zw_same, zw_cell, zw_ne, zF_at, zF_ne, zi_0, zi_1, zi_10, zi_17, zi_19, zi_20, zi_30, zi_48, zi_50, zi_52, zi_57, zi_59, zi_80, zi_93, zi_106, zi_110, zi_114, zx_0_0, zx_0_1, zx_0_2, zx_0_3, zx_0_4, zx_0_5, zx_0_6, zx_0_7, zx_0_8, zx_0_9, zx_0_10, zx_1_0, zx_1_1, zx_2_0, zx_2_1, zx_2_2, zx_2_3, zx_2_4, zx_2_5, zx_10_0, zx_10_1, zx_11_0, zx_11_1, zx_11_2, zx_11_3, zx_17_0, zx_19_0, zx_19_1, zx_19_2, zx_20_0, zx_20_1, zx_20_3, zx_20_4, zx_20_5, zx_20_6, zx_20_7, zx_20_8, zx_20_9, zx_30_0, zx_30_1, zx_30_4, zx_30_5, zx_48_0, zx_50_0, zx_52_0, zx_52_1, zx_52_2, zx_56_0, zx_56_1, zx_56_2, zx_57_0, zx_59_0, zx_80_3, zx_80_4, zx_80_5, zx_81_0, zx_81_1, zx_81_2, zx_81_3, zx_81_4, zx_81_5, zx_88_0, zx_88_1, zx_88_2, zx_93_3, zx_93_4, zx_93_5, zx_94_0, zx_94_1, zx_94_2, zx_94_3, zx_94_4, zx_94_5, zx_101_0, zx_101_1, zx_101_2, zx_106_0, zx_106_1, zx_106_2, zx_110_0, zx_110_1, zx_110_2, zx_114_0, zx_114_1, zx_114_2, zgI_9, zsI_9, zgI_16, zsI_16, zgI_18, zsI_18, zgI_21, zsI_21, zgI_22, zsI_22, zgI_23, zsI_23, zgI_24, zsI_24, zgI_25, zsI_25, zgI_26, zsI_26, zgI_27, zsI_27, zgI_28, zsI_28, zgI_29, zsI_29, zgI_47, zsI_47, zgI_49, zsI_49, zgI_51, zsI_51, zgI_53, zsI_53, zgI_54, zsI_54, zgI_55, zsI_55, zgI_58, zsI_58, zgI_76, zsI_76, zgI_79, zsI_79, zb_15_0, c_no_f zS1, not_true]
    · simp (disch := first | assumption | omega) only [zn0, zn1, Option.bind_some, zm_ai, zm_al, zm_av, zm_opt, zm_fw, zE_l, zE_r, nI_add, pk_mul, pk_sub, pk_div, pk_rem, zrem, zpm1, zB_i0, zB_i1, zB_ok, zB_T, zB_F, nI_toInt, zT_sub, zT_neg, zT_le, zT_lt, nI_eq, zne1, zne2, zne9, ite_not, or_true, true_or, if_true, if_false, if_pos, if_neg, zw_R, zw_RL, zw_I, zF_R, zw_same, zw_cell, zw_ne, zF_at, zF_ne, zi_118, zx_118_0, zx_118_1, zx_118_2, zx_118_3, zx_118_7, zx_118_8, zx_118_9, zx_118_10, zx_118_11, zx_118_12, zx_118_13, zx_118_14, zx_118_15, zx_118_17, zx_118_18, zx_118_19, zx_118_21, zx_118_22, zx_118_24, zx_118_25, zx_118_30, zx_118_35, zx_118_36, zx_118_37, zx_118_38, zx_118_39, zx_118_41, zx_118_42, zx_118_44, zx_118_45, zx_118_46, zgI_119, zsI_119, zgI_120, zsI_120, zgI_121, zsI_121, zgI_122, zsI_122, zgI_123, zsI_123, zgI_124, zsI_124, zgI_125, zsI_125, zgI_126, zsI_126, zgI_127, zsI_127, zgI_128, zsI_128, zgI_129, zsI_129, zgI_130, zsI_130, zgI_131, zsI_131, zgI_132, zsI_132, zgI_133, zsI_133, zgI_134, zsI_134, zgI_135, zsI_135, zgI_136, zsI_136, zgI_137, zsI_137, zgI_139, zsI_139, zgI_140, zsI_140, zgI_141, zsI_141, zgI_142, zsI_142, zgI_143, zsI_143, zgI_144, zsI_144, zgI_145, zsI_145, zgI_146, zsI_146, zgI_147, zsI_147, zb_179_0, m_ir_f, not_true]
  · cases e : R r with
    | none =>
      refine zCallV.of hV hV hM (v := .int (-3)) (zCo.found hC hV (f := 1) (by decide) (zS_eq (zS_of ze_15 ?_))) fun σ1 hM1 => zMo.found hM1 hV (by decide) (zS_eq (zS_of ze_179 ?_))
      · have e1 := c_found hF (f := 1) (by decide)
        simp (disch := first | assumption | omega) only [zn0, zn1, Option.bind_some, zm_ai, zm_al, zm_av, zm_opt, zm_fw, zE_l, zE_r, nI_add, pk_mul, pk_sub, pk_div, pk_rem, zrem, zpm1, zB_i0, zB_i1, zB_ok, zB_T, zB_F, nI_toInt, zT_sub, zT_neg, zT_le, zT_lt, nI_eq, zne1, zne2, zne9, ite_not, or_true, true_or, if_true, if_false, if_pos, if_neg, zw_R, zw_RL, zw_I, zF_R, zw_same, zw_cell, zw_ne, zF_at, zF_ne, zi_0, zi_1, zi_10, zi_17, zi_19, zi_20, zi_30, zi_48, zi_50, zi_52, zi_57, zi_59, zi_80, zi_93, zi_106, zi_110, zi_114, zx_0_0, zx_0_1, zx_0_2, zx_0_3, zx_0_4, zx_0_5, zx_0_6, zx_0_7, zx_0_8, zx_0_9, zx_0_10, zx_1_0, zx_1_1, zx_2_0, zx_2_1, zx_2_2, zx_2_3, zx_2_4, zx_2_5, zx_10_0, zx_10_1, zx_11_0, zx_11_1, zx_11_2, zx_11_3, zx_17_0, zx_19_0, zx_19_1, zx_19_2, zx_20_0, zx_20_1, zx_20_3, zx_20_4, zx_20_5, zx_20_6, zx_20_7, zx_20_8, zx_20_9, zx_30_0, zx_30_1, zx_30_4, zx_30_5, zx_48_0, zx_50_0, zx_52_0, zx_52_1, zx_52_2, zx_56_0, zx_56_1, zx_56_2, zx_57_0, zx_59_0, zx_80_3, zx_80_4, zx_80_5, zx_81_0, zx_81_1, zx_81_2, zx_81_3, zx_81_4, zx_81_5, zx_88_0, zx_88_1, zx_88_2, zx_93_3, zx_93_4, zx_93_5, zx_94_0, zx_94_1, zx_94_2, zx_94_3, zx_94_4, zx_94_5, zx_101_0, zx_101_1, zx_101_2, zx_106_0, zx_106_1, zx_106_2, zx_110_0, zx_110_1, zx_110_2, zx_114_0, zx_114_1, zx_114_2, zgI_9, zsI_9, zgI_16, zsI_16, zgI_18, zsI_18, zgI_21, zsI_21, zgI_22, zsI_22, zgI_23, zsI_23, zgI_24, zsI_24, zgI_25, zsI_25, zgI_26, zsI_26, zgI_27, zsI_27, zgI_28, zsI_28, zgI_29, zsI_29, zgI_47, zsI_47, zgI_49, zsI_49, zgI_51, zsI_51, zgI_53, zsI_53, zgI_54, zsI_54, zgI_55, zsI_55, zgI_58, zsI_58, zgI_76, zsI_76, zgI_79, zsI_79, zb_15_0, c_no_t zS1, not_false, c_ms_t zS1 hF hR hr e, e1]
      · have hF1 := hM1.1
        have e1 := m_found hF1 (f := 1) (by decide)
        simp (disch := first | assumption | omega) only [zn0, zn1, Option.bind_some, zm_ai, zm_al, zm_av, zm_opt, zm_fw, zE_l, zE_r, nI_add, pk_mul, pk_sub, pk_div, pk_rem, zrem, zpm1, zB_i0, zB_i1, zB_ok, zB_T, zB_F, nI_toInt, zT_sub, zT_neg, zT_le, zT_lt, nI_eq, zne1, zne2, zne9, ite_not, or_true, true_or, if_true, if_false, if_pos, if_neg, zw_R, zw_RL, zw_I, zF_R, zw_same, zw_cell, zw_ne, zF_at, zF_ne, zi_118, zx_118_0, zx_118_1, zx_118_2, zx_118_3, zx_118_7, zx_118_8, zx_118_9, zx_118_10, zx_118_11, zx_118_12, zx_118_13, zx_118_14, zx_118_15, zx_118_17, zx_118_18, zx_118_19, zx_118_21, zx_118_22, zx_118_24, zx_118_25, zx_118_30, zx_118_35, zx_118_36, zx_118_37, zx_118_38, zx_118_39, zx_118_41, zx_118_42, zx_118_44, zx_118_45, zx_118_46, zgI_119, zsI_119, zgI_120, zsI_120, zgI_121, zsI_121, zgI_122, zsI_122, zgI_123, zsI_123, zgI_124, zsI_124, zgI_125, zsI_125, zgI_126, zsI_126, zgI_127, zsI_127, zgI_128, zsI_128, zgI_129, zsI_129, zgI_130, zsI_130, zgI_131, zsI_131, zgI_132, zsI_132, zgI_133, zsI_133, zgI_134, zsI_134, zgI_135, zsI_135, zgI_136, zsI_136, zgI_137, zsI_137, zgI_139, zsI_139, zgI_140, zsI_140, zgI_141, zsI_141, zgI_142, zsI_142, zgI_143, zsI_143, zgI_144, zsI_144, zgI_145, zsI_145, zgI_146, zsI_146, zgI_147, zsI_147, zb_179_0, m_ir_t, not_false, m_pl_n hF1 hM1.2.1 hr e, e1]
    | some l =>
      have hl40 := ((hR r hr).2 l e).1
      rcases z_cl i l (by omega) with hx | ⟨j, hj, rfl⟩
      · refine zCallV.of hV hV hM (v := .int (-3)) (zCo.found hC hV (f := 2) (by decide) (zS_eq (zS_of ze_15 ?_))) fun σ1 hM1 => zMo.found hM1 hV (by decide) (zS_eq (zS_of ze_179 ?_))
        · have e1 := c_found hF (f := 2) (by decide)
          simp (disch := first | assumption | omega) only [zn0, zn1, Option.bind_some, zm_ai, zm_al, zm_av, zm_opt, zm_fw, zE_l, zE_r, nI_add, pk_mul, pk_sub, pk_div, pk_rem, zrem, zpm1, zB_i0, zB_i1, zB_ok, zB_T, zB_F, nI_toInt, zT_sub, zT_neg, zT_le, zT_lt, nI_eq, zne1, zne2, zne9, ite_not, or_true, true_or, if_true, if_false, if_pos, if_neg, zw_R, zw_RL, zw_I, zF_R, zw_same, zw_cell, zw_ne, zF_at, zF_ne, zi_0, zi_1, zi_10, zi_17, zi_19, zi_20, zi_30, zi_48, zi_50, zi_52, zi_57, zi_59, zi_80, zi_93, zi_106, zi_110, zi_114, zx_0_0, zx_0_1, zx_0_2, zx_0_3, zx_0_4, zx_0_5, zx_0_6, zx_0_7, zx_0_8, zx_0_9, zx_0_10, zx_1_0, zx_1_1, zx_2_0, zx_2_1, zx_2_2, zx_2_3, zx_2_4, zx_2_5, zx_10_0, zx_10_1, zx_11_0, zx_11_1, zx_11_2, zx_11_3, zx_17_0, zx_19_0, zx_19_1, zx_19_2, zx_20_0, zx_20_1, zx_20_3, zx_20_4, zx_20_5, zx_20_6, zx_20_7, zx_20_8, zx_20_9, zx_30_0, zx_30_1, zx_30_4, zx_30_5, zx_48_0, zx_50_0, zx_52_0, zx_52_1, zx_52_2, zx_56_0, zx_56_1, zx_56_2, zx_57_0, zx_59_0, zx_80_3, zx_80_4, zx_80_5, zx_81_0, zx_81_1, zx_81_2, zx_81_3, zx_81_4, zx_81_5, zx_88_0, zx_88_1, zx_88_2, zx_93_3, zx_93_4, zx_93_5, zx_94_0, zx_94_1, zx_94_2, zx_94_3, zx_94_4, zx_94_5, zx_101_0, zx_101_1, zx_101_2, zx_106_0, zx_106_1, zx_106_2, zx_110_0, zx_110_1, zx_110_2, zx_114_0, zx_114_1, zx_114_2, zgI_9, zsI_9, zgI_16, zsI_16, zgI_18, zsI_18, zgI_21, zsI_21, zgI_22, zsI_22, zgI_23, zsI_23, zgI_24, zsI_24, zgI_25, zsI_25, zgI_26, zsI_26, zgI_27, zsI_27, zgI_28, zsI_28, zgI_29, zsI_29, zgI_47, zsI_47, zgI_49, zsI_49, zgI_51, zsI_51, zgI_53, zsI_53, zgI_54, zsI_54, zgI_55, zsI_55, zgI_58, zsI_58, zgI_76, zsI_76, zgI_79, zsI_79, zb_15_0, c_no_t zS1, not_false, not_true, c_ms_f zS1 hF hR hr e, c_hp_f zS1 hF hR hr e hx, e1]
        · have hF1 := hM1.1
          have e1 := m_found hF1 (f := 2) (by decide)
          simp (disch := first | assumption | omega) only [zn0, zn1, Option.bind_some, zm_ai, zm_al, zm_av, zm_opt, zm_fw, zE_l, zE_r, nI_add, pk_mul, pk_sub, pk_div, pk_rem, zrem, zpm1, zB_i0, zB_i1, zB_ok, zB_T, zB_F, nI_toInt, zT_sub, zT_neg, zT_le, zT_lt, nI_eq, zne1, zne2, zne9, ite_not, or_true, true_or, if_true, if_false, if_pos, if_neg, zw_R, zw_RL, zw_I, zF_R, zw_same, zw_cell, zw_ne, zF_at, zF_ne, zi_118, zx_118_0, zx_118_1, zx_118_2, zx_118_3, zx_118_7, zx_118_8, zx_118_9, zx_118_10, zx_118_11, zx_118_12, zx_118_13, zx_118_14, zx_118_15, zx_118_17, zx_118_18, zx_118_19, zx_118_21, zx_118_22, zx_118_24, zx_118_25, zx_118_30, zx_118_35, zx_118_36, zx_118_37, zx_118_38, zx_118_39, zx_118_41, zx_118_42, zx_118_44, zx_118_45, zx_118_46, zgI_119, zsI_119, zgI_120, zsI_120, zgI_121, zsI_121, zgI_122, zsI_122, zgI_123, zsI_123, zgI_124, zsI_124, zgI_125, zsI_125, zgI_126, zsI_126, zgI_127, zsI_127, zgI_128, zsI_128, zgI_129, zsI_129, zgI_130, zsI_130, zgI_131, zsI_131, zgI_132, zsI_132, zgI_133, zsI_133, zgI_134, zsI_134, zgI_135, zsI_135, zgI_136, zsI_136, zgI_137, zsI_137, zgI_139, zsI_139, zgI_140, zsI_140, zgI_141, zsI_141, zgI_142, zsI_142, zgI_143, zsI_143, zgI_144, zsI_144, zgI_145, zsI_145, zgI_146, zsI_146, zgI_147, zsI_147, zb_179_0, m_ir_t, not_false, m_pl_b hF1 hM1.2.1 hr e hx, e1]
      · refine zCallV.of hV hV hM (v := .int (nI 1)) (a' := a) (T' := T) (K' := zKt K (zat l j)) (R' := zRs R r (some (l.set j v))) ?_ fun σ1 hM1 => ?_
        · obtain ⟨e1, h1⟩ := c_wr zS1 hF hR hr e hj v
          have e2 := c_told (zm_wI σ (1 + 2 + r) j v) (zat l j)
          have hK : zKeep zFr σ (zm_wI σ (1 + 2 + r) j v) := (zKeep.rf _ _).wI (by simp only [zFr, Bool.and_eq_true, decide_eq_true_eq]; omega)
          refine ⟨_, zS_eq (zS_of ze_15 ?_), (hC.rowsTo hV hK h1).told hV (zat l j), (zFr_cls hK).wI rfl⟩
          have hF2 : zFix (zm_wI σ (1 + 2 + r) j v) := hF
          simp (disch := first | assumption | omega) only [zn0, zn1, Option.bind_some, zm_ai, zm_al, zm_av, zm_opt, zm_fw, zE_l, zE_r, nI_add, pk_mul, pk_sub, pk_div, pk_rem, zrem, zpm1, zB_i0, zB_i1, zB_ok, zB_T, zB_F, nI_toInt, zT_sub, zT_neg, zT_le, zT_lt, nI_eq, zne1, zne2, zne9, ite_not, or_true, true_or, if_true, if_false, if_pos, if_neg, zw_R, zw_RL, zw_I, zF_R, zw_same, zw_cell, zw_ne, zF_at, zF_ne, zi_0, zi_1, zi_10, zi_17, zi_19, zi_20, zi_30, zi_48, zi_50, zi_52, zi_57, zi_59, zi_80, zi_93, zi_106, zi_110, zi_114, zx_0_0, zx_0_1, zx_0_2, zx_0_3, zx_0_4, zx_0_5, zx_0_6, zx_0_7, zx_0_8, zx_0_9, zx_0_10, zx_1_0, zx_1_1, zx_2_0, zx_2_1, zx_2_2, zx_2_3, zx_2_4, zx_2_5, zx_10_0, zx_10_1, zx_11_0, zx_11_1, zx_11_2, zx_11_3, zx_17_0, zx_19_0, zx_19_1, zx_19_2, zx_20_0, zx_20_1, zx_20_3, zx_20_4, zx_20_5, zx_20_6, zx_20_7, zx_20_8, zx_20_9, zx_30_0, zx_30_1, zx_30_4, zx_30_5, zx_48_0, zx_50_0, zx_52_0, zx_52_1, zx_52_2, zx_56_0, zx_56_1, zx_56_2, zx_57_0, zx_59_0, zx_80_3, zx_80_4, zx_80_5, zx_81_0, zx_81_1, zx_81_2, zx_81_3, zx_81_4, zx_81_5, zx_88_0, zx_88_1, zx_88_2, zx_93_3, zx_93_4, zx_93_5, zx_94_0, zx_94_1, zx_94_2, zx_94_3, zx_94_4, zx_94_5, zx_101_0, zx_101_1, zx_101_2, zx_106_0, zx_106_1, zx_106_2, zx_110_0, zx_110_1, zx_110_2, zx_114_0, zx_114_1, zx_114_2, zgI_9, zsI_9, zgI_16, zsI_16, zgI_18, zsI_18, zgI_21, zsI_21, zgI_22, zsI_22, zgI_23, zsI_23, zgI_24, zsI_24, zgI_25, zsI_25, zgI_26, zsI_26, zgI_27, zsI_27, zgI_28, zsI_28, zgI_29, zsI_29, zgI_47, zsI_47, zgI_49, zsI_49, zgI_51, zsI_51, zgI_53, zsI_53, zgI_54, zsI_54, zgI_55, zsI_55, zgI_58, zsI_58, zgI_76, zsI_76, zgI_79, zsI_79, zb_15_0, c_no_t zS1, not_false, c_ms_f zS1 hF hR hr e, c_hp_t zS1 hF hR hr e hj, c_rd zS1 hF hR hr e hj, e1, e2]
        · have hF1 := hM1.1
          obtain ⟨g1, g2, g3⟩ := (hM1.2.1 r hr).2 l e
          have hv := g3 j hj
          have e2 := m_tells (zm_wI σ1 120 (40 * r + j) v) (zat l j) (nI 1)
          have hK : zKeep zFmr σ1 (zm_wI σ1 120 (40 * r + j) v) := (zKeep.rf _ _).wI rfl
          have hi : 40 * r + j < 240 := by omega
          refine ⟨_, zS_eq (zS_of ze_179 ?_), (hM1.rowsTo hV hK (hM1.2.1.set hr e (by decide) hj v)).told hV (zat l j), (zFmr_rfs hK).wI rfl⟩
          simp (disch := first | assumption | omega) only [zn0, zn1, Option.bind_some, zm_ai, zm_al, zm_av, zm_opt, zm_fw, zE_l, zE_r, nI_add, pk_mul, pk_sub, pk_div, pk_rem, zrem, zpm1, zB_i0, zB_i1, zB_ok, zB_T, zB_F, nI_toInt, zT_sub, zT_neg, zT_le, zT_lt, nI_eq, zne1, zne2, zne9, ite_not, or_true, true_or, if_true, if_false, if_pos, if_neg, zw_R, zw_RL, zw_I, zF_R, zw_same, zw_cell, zw_ne, zF_at, zF_ne, zi_118, zx_118_0, zx_118_1, zx_118_2, zx_118_3, zx_118_7, zx_118_8, zx_118_9, zx_118_10, zx_118_11, zx_118_12, zx_118_13, zx_118_14, zx_118_15, zx_118_17, zx_118_18, zx_118_19, zx_118_21, zx_118_22, zx_118_24, zx_118_25, zx_118_30, zx_118_35, zx_118_36, zx_118_37, zx_118_38, zx_118_39, zx_118_41, zx_118_42, zx_118_44, zx_118_45, zx_118_46, zgI_119, zsI_119, zgI_120, zsI_120, zgI_121, zsI_121, zgI_122, zsI_122, zgI_123, zsI_123, zgI_124, zsI_124, zgI_125, zsI_125, zgI_126, zsI_126, zgI_127, zsI_127, zgI_128, zsI_128, zgI_129, zsI_129, zgI_130, zsI_130, zgI_131, zsI_131, zgI_132, zsI_132, zgI_133, zsI_133, zgI_134, zsI_134, zgI_135, zsI_135, zgI_136, zsI_136, zgI_137, zsI_137, zgI_139, zsI_139, zgI_140, zsI_140, zgI_141, zsI_141, zgI_142, zsI_142, zgI_143, zsI_143, zgI_144, zsI_144, zgI_145, zsI_145, zgI_146, zsI_146, zgI_147, zsI_147, zb_179_0, m_ir_t, not_false, m_pl_o hF1 hM1.2.1 hr e hj, hv, e2]
/-- at -/
theorem k_at (r i : Int32) (h : zInv σ) : zCallV 21 182 [.int r, .int i] σ := by
  obtain ⟨a, R, T, K, G, ds, ks, hC, hM, hV⟩ := h
  obtain ⟨hF, hR, -⟩ := id hC
  rcases z_c6 r with hb | ⟨r, hr, rfl⟩
  · refine zCallV.of hV hV hM (v := .int (-nI 1)) (zCo.same hC (zS_eq (zS_of ze_21 ?_))) fun σ1 hM1 => zMo.same hM1 (zS_eq (zS_of ze_182 ?_))
    · simp (disch := first | assumption | omega) only [zn0, zn1, Option.bind_some, zm_ai, zm_al, zm_av, zm_opt, zm_fw, zE_l, zE_r, nI_add, pk_mul, pk_sub, pk_div, pk_rem, zrem, zpm1, zB_i0, zB_i1, zB_ok, zB_T, zB_F, nI_toInt, zT_sub, zT_neg, zT_le, zT_lt, nI_eq, zne1, zne2, zne9, ite_not, or_true, true_or, if_true, if_false, if_pos, if_neg, zw_R, zw_RL, zw_I, zF_R, zw_same, zw_cell, zw_ne, zF_at, zF_ne, zi_0, zi_1, zi_10, zi_17, zi_19, zi_20, zi_30, zi_48, zi_50, zi_52, zi_57, zi_59, zi_80, zi_93, zi_106, zi_110, zi_114, zx_0_0, zx_0_1, zx_0_2, zx_0_3, zx_0_4, zx_0_5, zx_0_6, zx_0_7, zx_0_8, zx_0_9, zx_0_10, zx_1_0, zx_1_1, zx_2_0, zx_2_1, zx_2_2, zx_2_3, zx_2_4, zx_2_5, zx_10_0, zx_10_1, zx_11_0, zx_11_1, zx_11_2, zx_11_3, zx_17_0, zx_19_0, zx_19_1, zx_19_2, zx_20_0, zx_20_1, zx_20_3, zx_20_4, zx_20_5, zx_20_6, zx_20_7, zx_20_8, zx_20_9, zx_30_0, zx_30_1, zx_30_4, zx_30_5, zx_48_0, zx_50_0, zx_52_0, zx_52_1, zx_52_2, zx_56_0, zx_56_1, zx_56_2, zx_57_0, zx_59_0, zx_80_3, zx_80_4, zx_80_5, zx_81_0, zx_81_1, zx_81_2, zx_81_3, zx_81_4, zx_81_5, zx_88_0, zx_88_1, zx_88_2, zx_93_3, zx_93_4, zx_93_5, zx_94_0, zx_94_1, zx_94_2, zx_94_3, zx_94_4, zx_94_5, zx_101_0, zx_101_1, zx_101_2, zx_106_0, zx_106_1, zx_106_2, zx_110_0, zx_110_1, zx_110_2, zx_114_0, zx_114_1, zx_114_2, zgI_9, zsI_9, zgI_16, zsI_16, zgI_18, zsI_18, zgI_21, zsI_21, zgI_22, zsI_22, zgI_23, zsI_23, zgI_24, zsI_24, zgI_25, zsI_25, zgI_26, zsI_26, zgI_27, zsI_27, zgI_28, zsI_28, zgI_29, zsI_29, zgI_47, zsI_47, zgI_49, zsI_49, zgI_51, zsI_51, zgI_53, zsI_53, zgI_54, zsI_54, zgI_55, zsI_55, zgI_58, zsI_58, zgI_76, zsI_76, zgI_79, zsI_79, zb_21_0, c_no_f zS1, not_true]
    · simp (disch := first | assumption | omega) only [zn0, zn1, Option.bind_some, zm_ai, zm_al, zm_av, zm_opt, zm_fw, zE_l, zE_r, nI_add, pk_mul, pk_sub, pk_div, pk_rem, zrem, zpm1, zB_i0, zB_i1, zB_ok, zB_T, zB_F, nI_toInt, zT_sub, zT_neg, zT_le, zT_lt, nI_eq, zne1, zne2, zne9, ite_not, or_true, true_or, if_true, if_false, if_pos, if_neg, zw_R, zw_RL, zw_I, zF_R, zw_same, zw_cell, zw_ne, zF_at, zF_ne, zi_118, zx_118_0, zx_118_1, zx_118_2, zx_118_3, zx_118_7, zx_118_8, zx_118_9, zx_118_10, zx_118_11, zx_118_12, zx_118_13, zx_118_14, zx_118_15, zx_118_17, zx_118_18, zx_118_19, zx_118_21, zx_118_22, zx_118_24, zx_118_25, zx_118_30, zx_118_35, zx_118_36, zx_118_37, zx_118_38, zx_118_39, zx_118_41, zx_118_42, zx_118_44, zx_118_45, zx_118_46, zgI_119, zsI_119, zgI_120, zsI_120, zgI_121, zsI_121, zgI_122, zsI_122, zgI_123, zsI_123, zgI_124, zsI_124, zgI_125, zsI_125, zgI_126, zsI_126, zgI_127, zsI_127, zgI_128, zsI_128, zgI_129, zsI_129, zgI_130, zsI_130, zgI_131, zsI_131, zgI_132, zsI_132, zgI_133, zsI_133, zgI_134, zsI_134, zgI_135, zsI_135, zgI_136, zsI_136, zgI_137, zsI_137, zgI_139, zsI_139, zgI_140, zsI_140, zgI_141, zsI_141, zgI_142, zsI_142, zgI_143, zsI_143, zgI_144, zsI_144, zgI_145, zsI_145, zgI_146, zsI_146, zgI_147, zsI_147, zb_182_0, m_ir_f, not_true]
  · cases e : R r with
    | none =>
      refine zCallV.of hV hV hM (v := .int (-3)) (zCo.found hC hV (f := 1) (by decide) (zS_eq (zS_of ze_21 ?_))) fun σ1 hM1 => zMo.found hM1 hV (by decide) (zS_eq (zS_of ze_182 ?_))
      · have e1 := c_found hF (f := 1) (by decide)
        simp (disch := first | assumption | omega) only [zn0, zn1, Option.bind_some, zm_ai, zm_al, zm_av, zm_opt, zm_fw, zE_l, zE_r, nI_add, pk_mul, pk_sub, pk_div, pk_rem, zrem, zpm1, zB_i0, zB_i1, zB_ok, zB_T, zB_F, nI_toInt, zT_sub, zT_neg, zT_le, zT_lt, nI_eq, zne1, zne2, zne9, ite_not, or_true, true_or, if_true, if_false, if_pos, if_neg, zw_R, zw_RL, zw_I, zF_R, zw_same, zw_cell, zw_ne, zF_at, zF_ne, zi_0, zi_1, zi_10, zi_17, zi_19, zi_20, zi_30, zi_48, zi_50, zi_52, zi_57, zi_59, zi_80, zi_93, zi_106, zi_110, zi_114, zx_0_0, zx_0_1, zx_0_2, zx_0_3, zx_0_4, zx_0_5, zx_0_6, zx_0_7, zx_0_8, zx_0_9, zx_0_10, zx_1_0, zx_1_1, zx_2_0, zx_2_1, zx_2_2, zx_2_3, zx_2_4, zx_2_5, zx_10_0, zx_10_1, zx_11_0, zx_11_1, zx_11_2, zx_11_3, zx_17_0, zx_19_0, zx_19_1, zx_19_2, zx_20_0, zx_20_1, zx_20_3, zx_20_4, zx_20_5, zx_20_6, zx_20_7, zx_20_8, zx_20_9, zx_30_0, zx_30_1, zx_30_4, zx_30_5, zx_48_0, zx_50_0, zx_52_0, zx_52_1, zx_52_2, zx_56_0, zx_56_1, zx_56_2, zx_57_0, zx_59_0, zx_80_3, zx_80_4, zx_80_5, zx_81_0, zx_81_1, zx_81_2, zx_81_3, zx_81_4, zx_81_5, zx_88_0, zx_88_1, zx_88_2, zx_93_3, zx_93_4, zx_93_5, zx_94_0, zx_94_1, zx_94_2, zx_94_3, zx_94_4, zx_94_5, zx_101_0, zx_101_1, zx_101_2, zx_106_0, zx_106_1, zx_106_2, zx_110_0, zx_110_1, zx_110_2, zx_114_0, zx_114_1, zx_114_2, zgI_9, zsI_9, zgI_16, zsI_16, zgI_18, zsI_18, zgI_21, zsI_21, zgI_22, zsI_22, zgI_23, zsI_23, zgI_24, zsI_24, zgI_25, zsI_25, zgI_26, zsI_26, zgI_27, zsI_27, zgI_28, zsI_28, zgI_29, zsI_29, zgI_47, zsI_47, zgI_49, zsI_49, zgI_51, zsI_51, zgI_53, zsI_53, zgI_54, zsI_54, zgI_55, zsI_55, zgI_58, zsI_58, zgI_76, zsI_76, zgI_79, zsI_79, zb_21_0, c_no_t zS1, not_false, c_ms_t zS1 hF hR hr e, e1]
      · have hF1 := hM1.1
        have e1 := m_found hF1 (f := 1) (by decide)
        simp (disch := first | assumption | omega) only [zn0, zn1, Option.bind_some, zm_ai, zm_al, zm_av, zm_opt, zm_fw, zE_l, zE_r, nI_add, pk_mul, pk_sub, pk_div, pk_rem, zrem, zpm1, zB_i0, zB_i1, zB_ok, zB_T, zB_F, nI_toInt, zT_sub, zT_neg, zT_le, zT_lt, nI_eq, zne1, zne2, zne9, ite_not, or_true, true_or, if_true, if_false, if_pos, if_neg, zw_R, zw_RL, zw_I, zF_R, zw_same, zw_cell, zw_ne, zF_at, zF_ne, zi_118, zx_118_0, zx_118_1, zx_118_2, zx_118_3, zx_118_7, zx_118_8, zx_118_9, zx_118_10, zx_118_11, zx_118_12, zx_118_13, zx_118_14, zx_118_15, zx_118_17, zx_118_18, zx_118_19, zx_118_21, zx_118_22, zx_118_24, zx_118_25, zx_118_30, zx_118_35, zx_118_36, zx_118_37, zx_118_38, zx_118_39, zx_118_41, zx_118_42, zx_118_44, zx_118_45, zx_118_46, zgI_119, zsI_119, zgI_120, zsI_120, zgI_121, zsI_121, zgI_122, zsI_122, zgI_123, zsI_123, zgI_124, zsI_124, zgI_125, zsI_125, zgI_126, zsI_126, zgI_127, zsI_127, zgI_128, zsI_128, zgI_129, zsI_129, zgI_130, zsI_130, zgI_131, zsI_131, zgI_132, zsI_132, zgI_133, zsI_133, zgI_134, zsI_134, zgI_135, zsI_135, zgI_136, zsI_136, zgI_137, zsI_137, zgI_139, zsI_139, zgI_140, zsI_140, zgI_141, zsI_141, zgI_142, zsI_142, zgI_143, zsI_143, zgI_144, zsI_144, zgI_145, zsI_145, zgI_146, zsI_146, zgI_147, zsI_147, zb_182_0, m_ir_t, not_false, m_pl_n hF1 hM1.2.1 hr e, e1]
    | some l =>
      have hl40 := ((hR r hr).2 l e).1
      rcases z_cl i l (by omega) with hx | ⟨j, hj, rfl⟩
      · refine zCallV.of hV hV hM (v := .int (-3)) (zCo.found hC hV (f := 2) (by decide) (zS_eq (zS_of ze_21 ?_))) fun σ1 hM1 => zMo.found hM1 hV (by decide) (zS_eq (zS_of ze_182 ?_))
        · have e1 := c_found hF (f := 2) (by decide)
          simp (disch := first | assumption | omega) only [zn0, zn1, Option.bind_some, zm_ai, zm_al, zm_av, zm_opt, zm_fw, zE_l, zE_r, nI_add, pk_mul, pk_sub, pk_div, pk_rem, zrem, zpm1, zB_i0, zB_i1, zB_ok, zB_T, zB_F, nI_toInt, zT_sub, zT_neg, zT_le, zT_lt, nI_eq, zne1, zne2, zne9, ite_not, or_true, true_or, if_true, if_false, if_pos, if_neg, zw_R, zw_RL, zw_I, zF_R, zw_same, zw_cell, zw_ne, zF_at, zF_ne, zi_0, zi_1, zi_10, zi_17, zi_19, zi_20, zi_30, zi_48, zi_50, zi_52, zi_57, zi_59, zi_80, zi_93, zi_106, zi_110, zi_114, zx_0_0, zx_0_1, zx_0_2, zx_0_3, zx_0_4, zx_0_5, zx_0_6, zx_0_7, zx_0_8, zx_0_9, zx_0_10, zx_1_0, zx_1_1, zx_2_0, zx_2_1, zx_2_2, zx_2_3, zx_2_4, zx_2_5, zx_10_0, zx_10_1, zx_11_0, zx_11_1, zx_11_2, zx_11_3, zx_17_0, zx_19_0, zx_19_1, zx_19_2, zx_20_0, zx_20_1, zx_20_3, zx_20_4, zx_20_5, zx_20_6, zx_20_7, zx_20_8, zx_20_9, zx_30_0, zx_30_1, zx_30_4, zx_30_5, zx_48_0, zx_50_0, zx_52_0, zx_52_1, zx_52_2, zx_56_0, zx_56_1, zx_56_2, zx_57_0, zx_59_0, zx_80_3, zx_80_4, zx_80_5, zx_81_0, zx_81_1, zx_81_2, zx_81_3, zx_81_4, zx_81_5, zx_88_0, zx_88_1, zx_88_2, zx_93_3, zx_93_4, zx_93_5, zx_94_0, zx_94_1, zx_94_2, zx_94_3, zx_94_4, zx_94_5, zx_101_0, zx_101_1, zx_101_2, zx_106_0, zx_106_1, zx_106_2, zx_110_0, zx_110_1, zx_110_2, zx_114_0, zx_114_1, zx_114_2, zgI_9, zsI_9, zgI_16, zsI_16, zgI_18, zsI_18, zgI_21, zsI_21, zgI_22, zsI_22, zgI_23, zsI_23, zgI_24, zsI_24, zgI_25, zsI_25, zgI_26, zsI_26, zgI_27, zsI_27, zgI_28, zsI_28, zgI_29, zsI_29, zgI_47, zsI_47, zgI_49, zsI_49, zgI_51, zsI_51, zgI_53, zsI_53, zgI_54, zsI_54, zgI_55, zsI_55, zgI_58, zsI_58, zgI_76, zsI_76, zgI_79, zsI_79, zb_21_0, c_no_t zS1, not_false, not_true, c_ms_f zS1 hF hR hr e, c_hp_f zS1 hF hR hr e hx, e1]
        · have hF1 := hM1.1
          have e1 := m_found hF1 (f := 2) (by decide)
          simp (disch := first | assumption | omega) only [zn0, zn1, Option.bind_some, zm_ai, zm_al, zm_av, zm_opt, zm_fw, zE_l, zE_r, nI_add, pk_mul, pk_sub, pk_div, pk_rem, zrem, zpm1, zB_i0, zB_i1, zB_ok, zB_T, zB_F, nI_toInt, zT_sub, zT_neg, zT_le, zT_lt, nI_eq, zne1, zne2, zne9, ite_not, or_true, true_or, if_true, if_false, if_pos, if_neg, zw_R, zw_RL, zw_I, zF_R, zw_same, zw_cell, zw_ne, zF_at, zF_ne, zi_118, zx_118_0, zx_118_1, zx_118_2, zx_118_3, zx_118_7, zx_118_8, zx_118_9, zx_118_10, zx_118_11, zx_118_12, zx_118_13, zx_118_14, zx_118_15, zx_118_17, zx_118_18, zx_118_19, zx_118_21, zx_118_22, zx_118_24, zx_118_25, zx_118_30, zx_118_35, zx_118_36, zx_118_37, zx_118_38, zx_118_39, zx_118_41, zx_118_42, zx_118_44, zx_118_45, zx_118_46, zgI_119, zsI_119, zgI_120, zsI_120, zgI_121, zsI_121, zgI_122, zsI_122, zgI_123, zsI_123, zgI_124, zsI_124, zgI_125, zsI_125, zgI_126, zsI_126, zgI_127, zsI_127, zgI_128, zsI_128, zgI_129, zsI_129, zgI_130, zsI_130, zgI_131, zsI_131, zgI_132, zsI_132, zgI_133, zsI_133, zgI_134, zsI_134, zgI_135, zsI_135, zgI_136, zsI_136, zgI_137, zsI_137, zgI_139, zsI_139, zgI_140, zsI_140, zgI_141, zsI_141, zgI_142, zsI_142, zgI_143, zsI_143, zgI_144, zsI_144, zgI_145, zsI_145, zgI_146, zsI_146, zgI_147, zsI_147, zb_182_0, m_ir_t, not_false, m_pl_b hF1 hM1.2.1 hr e hx, e1]
      · refine zCallV.of hV hV hM (v := .int (nI 1)) (zCo.told hC hV (v := zat l j) (zS_eq (zS_of ze_21 ?_))) fun σ1 hM1 => zMo.told hM1 hV (zS_eq (zS_of ze_182 ?_))
        · have e2 := c_told σ (zat l j)
          simp (disch := first | assumption | omega) only [zn0, zn1, Option.bind_some, zm_ai, zm_al, zm_av, zm_opt, zm_fw, zE_l, zE_r, nI_add, pk_mul, pk_sub, pk_div, pk_rem, zrem, zpm1, zB_i0, zB_i1, zB_ok, zB_T, zB_F, nI_toInt, zT_sub, zT_neg, zT_le, zT_lt, nI_eq, zne1, zne2, zne9, ite_not, or_true, true_or, if_true, if_false, if_pos, if_neg, zw_R, zw_RL, zw_I, zF_R, zw_same, zw_cell, zw_ne, zF_at, zF_ne, zi_0, zi_1, zi_10, zi_17, zi_19, zi_20, zi_30, zi_48, zi_50, zi_52, zi_57, zi_59, zi_80, zi_93, zi_106, zi_110, zi_114, zx_0_0, zx_0_1, zx_0_2, zx_0_3, zx_0_4, zx_0_5, zx_0_6, zx_0_7, zx_0_8, zx_0_9, zx_0_10, zx_1_0, zx_1_1, zx_2_0, zx_2_1, zx_2_2, zx_2_3, zx_2_4, zx_2_5, zx_10_0, zx_10_1, zx_11_0, zx_11_1, zx_11_2, zx_11_3, zx_17_0, zx_19_0, zx_19_1, zx_19_2, zx_20_0, zx_20_1, zx_20_3, zx_20_4, zx_20_5, zx_20_6, zx_20_7, zx_20_8, zx_20_9, zx_30_0, zx_30_1, zx_30_4, zx_30_5, zx_48_0, zx_50_0, zx_52_0, zx_52_1, zx_52_2, zx_56_0, zx_56_1, zx_56_2, zx_57_0, zx_59_0, zx_80_3, zx_80_4, zx_80_5, zx_81_0, zx_81_1, zx_81_2, zx_81_3, zx_81_4, zx_81_5, zx_88_0, zx_88_1, zx_88_2, zx_93_3, zx_93_4, zx_93_5, zx_94_0, zx_94_1, zx_94_2, zx_94_3, zx_94_4, zx_94_5, zx_101_0, zx_101_1, zx_101_2, zx_106_0, zx_106_1, zx_106_2, zx_110_0, zx_110_1, zx_110_2, zx_114_0, zx_114_1, zx_114_2, zgI_9, zsI_9, zgI_16, zsI_16, zgI_18, zsI_18, zgI_21, zsI_21, zgI_22, zsI_22, zgI_23, zsI_23, zgI_24, zsI_24, zgI_25, zsI_25, zgI_26, zsI_26, zgI_27, zsI_27, zgI_28, zsI_28, zgI_29, zsI_29, zgI_47, zsI_47, zgI_49, zsI_49, zgI_51, zsI_51, zgI_53, zsI_53, zgI_54, zsI_54, zgI_55, zsI_55, zgI_58, zsI_58, zgI_76, zsI_76, zgI_79, zsI_79, zb_21_0, c_no_t zS1, not_false, c_ms_f zS1 hF hR hr e, c_hp_t zS1 hF hR hr e hj, c_rd zS1 hF hR hr e hj, e2]
        · have hF1 := hM1.1
          obtain ⟨g1, g2, g3⟩ := (hM1.2.1 r hr).2 l e
          have hv := g3 j hj
          have e2 := m_tells σ1 (zat l j) (nI 1)
          have hi : 40 * r + j < 240 := by omega
          simp (disch := first | assumption | omega) only [zn0, zn1, Option.bind_some, zm_ai, zm_al, zm_av, zm_opt, zm_fw, zE_l, zE_r, nI_add, pk_mul, pk_sub, pk_div, pk_rem, zrem, zpm1, zB_i0, zB_i1, zB_ok, zB_T, zB_F, nI_toInt, zT_sub, zT_neg, zT_le, zT_lt, nI_eq, zne1, zne2, zne9, ite_not, or_true, true_or, if_true, if_false, if_pos, if_neg, zw_R, zw_RL, zw_I, zF_R, zw_same, zw_cell, zw_ne, zF_at, zF_ne, zi_118, zx_118_0, zx_118_1, zx_118_2, zx_118_3, zx_118_7, zx_118_8, zx_118_9, zx_118_10, zx_118_11, zx_118_12, zx_118_13, zx_118_14, zx_118_15, zx_118_17, zx_118_18, zx_118_19, zx_118_21, zx_118_22, zx_118_24, zx_118_25, zx_118_30, zx_118_35, zx_118_36, zx_118_37, zx_118_38, zx_118_39, zx_118_41, zx_118_42, zx_118_44, zx_118_45, zx_118_46, zgI_119, zsI_119, zgI_120, zsI_120, zgI_121, zsI_121, zgI_122, zsI_122, zgI_123, zsI_123, zgI_124, zsI_124, zgI_125, zsI_125, zgI_126, zsI_126, zgI_127, zsI_127, zgI_128, zsI_128, zgI_129, zsI_129, zgI_130, zsI_130, zgI_131, zsI_131, zgI_132, zsI_132, zgI_133, zsI_133, zgI_134, zsI_134, zgI_135, zsI_135, zgI_136, zsI_136, zgI_137, zsI_137, zgI_139, zsI_139, zgI_140, zsI_140, zgI_141, zsI_141, zgI_142, zsI_142, zgI_143, zsI_143, zgI_144, zsI_144, zgI_145, zsI_145, zgI_146, zsI_146, zgI_147, zsI_147, zb_182_0, m_ir_t, not_false, m_pl_o hF1 hM1.2.1 hr e hj, hv, e2]
/-- tear -/
theorem k_tear (r : Int32) (h : zInv σ) : zCallV 22 183 [.int r] σ := by
  obtain ⟨a, R, T, K, G, ds, ks, hC, hM, hV⟩ := h
  obtain ⟨hF, hR, -⟩ := id hC
  rcases z_c6 r with hb | ⟨r, hr, rfl⟩
  · refine zCallV.of hV hV hM (v := .int (-nI 1)) (zCo.same hC (zS_eq (zS_of ze_22 ?_))) fun σ1 hM1 => zMo.same hM1 (zS_eq (zS_of ze_183 ?_))
    · simp (disch := first | assumption | omega) only [zn0, zn1, Option.bind_some, zm_ai, zm_al, zm_av, zm_opt, zm_fw, zE_l, zE_r, nI_add, pk_mul, pk_sub, pk_div, pk_rem, zrem, zpm1, zB_i0, zB_i1, zB_ok, zB_T, zB_F, nI_toInt, zT_sub, zT_neg, zT_le, zT_lt, nI_eq, zne1, zne2, zne9, ite_not, or_true, true_or, if_true, if_false, if_pos, if_neg, zw_R, zw_RL, zw_I, zF_R, zw_same, zw_cell, zw_ne, zF_at, zF_ne, zi_0, zi_1, zi_10, zi_17, zi_19, zi_20, zi_30, zi_48, zi_50, zi_52, zi_57, zi_59, zi_80, zi_93, zi_106, zi_110, zi_114, zx_0_0, zx_0_1, zx_0_2, zx_0_3, zx_0_4, zx_0_5, zx_0_6, zx_0_7, zx_0_8, zx_0_9, zx_0_10, zx_1_0, zx_1_1, zx_2_0, zx_2_1, zx_2_2, zx_2_3, zx_2_4, zx_2_5, zx_10_0, zx_10_1, zx_11_0, zx_11_1, zx_11_2, zx_11_3, zx_17_0, zx_19_0, zx_19_1, zx_19_2, zx_20_0, zx_20_1, zx_20_3, zx_20_4, zx_20_5, zx_20_6, zx_20_7, zx_20_8, zx_20_9, zx_30_0, zx_30_1, zx_30_4, zx_30_5, zx_48_0, zx_50_0, zx_52_0, zx_52_1, zx_52_2, zx_56_0, zx_56_1, zx_56_2, zx_57_0, zx_59_0, zx_80_3, zx_80_4, zx_80_5, zx_81_0, zx_81_1, zx_81_2, zx_81_3, zx_81_4, zx_81_5, zx_88_0, zx_88_1, zx_88_2, zx_93_3, zx_93_4, zx_93_5, zx_94_0, zx_94_1, zx_94_2, zx_94_3, zx_94_4, zx_94_5, zx_101_0, zx_101_1, zx_101_2, zx_106_0, zx_106_1, zx_106_2, zx_110_0, zx_110_1, zx_110_2, zx_114_0, zx_114_1, zx_114_2, zgI_9, zsI_9, zgI_16, zsI_16, zgI_18, zsI_18, zgI_21, zsI_21, zgI_22, zsI_22, zgI_23, zsI_23, zgI_24, zsI_24, zgI_25, zsI_25, zgI_26, zsI_26, zgI_27, zsI_27, zgI_28, zsI_28, zgI_29, zsI_29, zgI_47, zsI_47, zgI_49, zsI_49, zgI_51, zsI_51, zgI_53, zsI_53, zgI_54, zsI_54, zgI_55, zsI_55, zgI_58, zsI_58, zgI_76, zsI_76, zgI_79, zsI_79, zb_22_0, c_no_f zS1, not_true]
    · simp (disch := first | assumption | omega) only [zn0, zn1, Option.bind_some, zm_ai, zm_al, zm_av, zm_opt, zm_fw, zE_l, zE_r, nI_add, pk_mul, pk_sub, pk_div, pk_rem, zrem, zpm1, zB_i0, zB_i1, zB_ok, zB_T, zB_F, nI_toInt, zT_sub, zT_neg, zT_le, zT_lt, nI_eq, zne1, zne2, zne9, ite_not, or_true, true_or, if_true, if_false, if_pos, if_neg, zw_R, zw_RL, zw_I, zF_R, zw_same, zw_cell, zw_ne, zF_at, zF_ne, zi_118, zx_118_0, zx_118_1, zx_118_2, zx_118_3, zx_118_7, zx_118_8, zx_118_9, zx_118_10, zx_118_11, zx_118_12, zx_118_13, zx_118_14, zx_118_15, zx_118_17, zx_118_18, zx_118_19, zx_118_21, zx_118_22, zx_118_24, zx_118_25, zx_118_30, zx_118_35, zx_118_36, zx_118_37, zx_118_38, zx_118_39, zx_118_41, zx_118_42, zx_118_44, zx_118_45, zx_118_46, zgI_119, zsI_119, zgI_120, zsI_120, zgI_121, zsI_121, zgI_122, zsI_122, zgI_123, zsI_123, zgI_124, zsI_124, zgI_125, zsI_125, zgI_126, zsI_126, zgI_127, zsI_127, zgI_128, zsI_128, zgI_129, zsI_129, zgI_130, zsI_130, zgI_131, zsI_131, zgI_132, zsI_132, zgI_133, zsI_133, zgI_134, zsI_134, zgI_135, zsI_135, zgI_136, zsI_136, zgI_137, zsI_137, zgI_139, zsI_139, zgI_140, zsI_140, zgI_141, zsI_141, zgI_142, zsI_142, zgI_143, zsI_143, zgI_144, zsI_144, zgI_145, zsI_145, zgI_146, zsI_146, zgI_147, zsI_147, zb_183_0, m_ir_f, not_true]
  · cases e : R r with
    | none =>
      refine zCallV.of hV hV hM (v := .int (-3)) (zCo.found hC hV (f := 1) (by decide) (zS_eq (zS_of ze_22 ?_))) fun σ1 hM1 => zMo.found hM1 hV (by decide) (zS_eq (zS_of ze_183 ?_))
      · have e1 := c_found hF (f := 1) (by decide)
        simp (disch := first | assumption | omega) only [zn0, zn1, Option.bind_some, zm_ai, zm_al, zm_av, zm_opt, zm_fw, zE_l, zE_r, nI_add, pk_mul, pk_sub, pk_div, pk_rem, zrem, zpm1, zB_i0, zB_i1, zB_ok, zB_T, zB_F, nI_toInt, zT_sub, zT_neg, zT_le, zT_lt, nI_eq, zne1, zne2, zne9, ite_not, or_true, true_or, if_true, if_false, if_pos, if_neg, zw_R, zw_RL, zw_I, zF_R, zw_same, zw_cell, zw_ne, zF_at, zF_ne, zi_0, zi_1, zi_10, zi_17, zi_19, zi_20, zi_30, zi_48, zi_50, zi_52, zi_57, zi_59, zi_80, zi_93, zi_106, zi_110, zi_114, zx_0_0, zx_0_1, zx_0_2, zx_0_3, zx_0_4, zx_0_5, zx_0_6, zx_0_7, zx_0_8, zx_0_9, zx_0_10, zx_1_0, zx_1_1, zx_2_0, zx_2_1, zx_2_2, zx_2_3, zx_2_4, zx_2_5, zx_10_0, zx_10_1, zx_11_0, zx_11_1, zx_11_2, zx_11_3, zx_17_0, zx_19_0, zx_19_1, zx_19_2, zx_20_0, zx_20_1, zx_20_3, zx_20_4, zx_20_5, zx_20_6, zx_20_7, zx_20_8, zx_20_9, zx_30_0, zx_30_1, zx_30_4, zx_30_5, zx_48_0, zx_50_0, zx_52_0, zx_52_1, zx_52_2, zx_56_0, zx_56_1, zx_56_2, zx_57_0, zx_59_0, zx_80_3, zx_80_4, zx_80_5, zx_81_0, zx_81_1, zx_81_2, zx_81_3, zx_81_4, zx_81_5, zx_88_0, zx_88_1, zx_88_2, zx_93_3, zx_93_4, zx_93_5, zx_94_0, zx_94_1, zx_94_2, zx_94_3, zx_94_4, zx_94_5, zx_101_0, zx_101_1, zx_101_2, zx_106_0, zx_106_1, zx_106_2, zx_110_0, zx_110_1, zx_110_2, zx_114_0, zx_114_1, zx_114_2, zgI_9, zsI_9, zgI_16, zsI_16, zgI_18, zsI_18, zgI_21, zsI_21, zgI_22, zsI_22, zgI_23, zsI_23, zgI_24, zsI_24, zgI_25, zsI_25, zgI_26, zsI_26, zgI_27, zsI_27, zgI_28, zsI_28, zgI_29, zsI_29, zgI_47, zsI_47, zgI_49, zsI_49, zgI_51, zsI_51, zgI_53, zsI_53, zgI_54, zsI_54, zgI_55, zsI_55, zgI_58, zsI_58, zgI_76, zsI_76, zgI_79, zsI_79, zb_22_0, c_no_t zS1, not_false, c_ms_t zS1 hF hR hr e, e1]
      · have hF1 := hM1.1
        have h1 := (hM1.2.1 r hr).1 e
        have e1 := m_found hF1 (f := 1) (by decide)
        simp (disch := first | assumption | omega) only [zn0, zn1, Option.bind_some, zm_ai, zm_al, zm_av, zm_opt, zm_fw, zE_l, zE_r, nI_add, pk_mul, pk_sub, pk_div, pk_rem, zrem, zpm1, zB_i0, zB_i1, zB_ok, zB_T, zB_F, nI_toInt, zT_sub, zT_neg, zT_le, zT_lt, nI_eq, zne1, zne2, zne9, ite_not, or_true, true_or, if_true, if_false, if_pos, if_neg, zw_R, zw_RL, zw_I, zF_R, zw_same, zw_cell, zw_ne, zF_at, zF_ne, zi_118, zx_118_0, zx_118_1, zx_118_2, zx_118_3, zx_118_7, zx_118_8, zx_118_9, zx_118_10, zx_118_11, zx_118_12, zx_118_13, zx_118_14, zx_118_15, zx_118_17, zx_118_18, zx_118_19, zx_118_21, zx_118_22, zx_118_24, zx_118_25, zx_118_30, zx_118_35, zx_118_36, zx_118_37, zx_118_38, zx_118_39, zx_118_41, zx_118_42, zx_118_44, zx_118_45, zx_118_46, zgI_119, zsI_119, zgI_120, zsI_120, zgI_121, zsI_121, zgI_122, zsI_122, zgI_123, zsI_123, zgI_124, zsI_124, zgI_125, zsI_125, zgI_126, zsI_126, zgI_127, zsI_127, zgI_128, zsI_128, zgI_129, zsI_129, zgI_130, zsI_130, zgI_131, zsI_131, zgI_132, zsI_132, zgI_133, zsI_133, zgI_134, zsI_134, zgI_135, zsI_135, zgI_136, zsI_136, zgI_137, zsI_137, zgI_139, zsI_139, zgI_140, zsI_140, zgI_141, zsI_141, zgI_142, zsI_142, zgI_143, zsI_143, zgI_144, zsI_144, zgI_145, zsI_145, zgI_146, zsI_146, zgI_147, zsI_147, zb_183_0, m_ir_t, not_false, h1, e1]
    | some l =>
      refine zCallV.of hV hV hM (v := .int (nI 1)) (a' := a) (T' := T) (K' := K) (R' := zRs R r none) ?_ fun σ1 hM1 => ?_
      · have e1 := c_remove zS1 hF hr
        have hK : zKeep zFr σ (zm_wI σ 9 r (-1)) := (zKeep.rf _ _).wI rfl
        refine ⟨_, zS_eq (zS_of ze_22 ?_), hC.rowsTo hV hK (hR.gone (zw_same _ _ _ _) (fun q _ hn => by rw [zw_ne _ _ (Or.inr hn)]) fun q j hq => by rw [zw_cell _ _ (by omega)]), zFr_cls hK⟩
        simp (disch := first | assumption | omega) only [zn0, zn1, Option.bind_some, zm_ai, zm_al, zm_av, zm_opt, zm_fw, zE_l, zE_r, nI_add, pk_mul, pk_sub, pk_div, pk_rem, zrem, zpm1, zB_i0, zB_i1, zB_ok, zB_T, zB_F, nI_toInt, zT_sub, zT_neg, zT_le, zT_lt, nI_eq, zne1, zne2, zne9, ite_not, or_true, true_or, if_true, if_false, if_pos, if_neg, zw_R, zw_RL, zw_I, zF_R, zw_same, zw_cell, zw_ne, zF_at, zF_ne, zi_0, zi_1, zi_10, zi_17, zi_19, zi_20, zi_30, zi_48, zi_50, zi_52, zi_57, zi_59, zi_80, zi_93, zi_106, zi_110, zi_114, zx_0_0, zx_0_1, zx_0_2, zx_0_3, zx_0_4, zx_0_5, zx_0_6, zx_0_7, zx_0_8, zx_0_9, zx_0_10, zx_1_0, zx_1_1, zx_2_0, zx_2_1, zx_2_2, zx_2_3, zx_2_4, zx_2_5, zx_10_0, zx_10_1, zx_11_0, zx_11_1, zx_11_2, zx_11_3, zx_17_0, zx_19_0, zx_19_1, zx_19_2, zx_20_0, zx_20_1, zx_20_3, zx_20_4, zx_20_5, zx_20_6, zx_20_7, zx_20_8, zx_20_9, zx_30_0, zx_30_1, zx_30_4, zx_30_5, zx_48_0, zx_50_0, zx_52_0, zx_52_1, zx_52_2, zx_56_0, zx_56_1, zx_56_2, zx_57_0, zx_59_0, zx_80_3, zx_80_4, zx_80_5, zx_81_0, zx_81_1, zx_81_2, zx_81_3, zx_81_4, zx_81_5, zx_88_0, zx_88_1, zx_88_2, zx_93_3, zx_93_4, zx_93_5, zx_94_0, zx_94_1, zx_94_2, zx_94_3, zx_94_4, zx_94_5, zx_101_0, zx_101_1, zx_101_2, zx_106_0, zx_106_1, zx_106_2, zx_110_0, zx_110_1, zx_110_2, zx_114_0, zx_114_1, zx_114_2, zgI_9, zsI_9, zgI_16, zsI_16, zgI_18, zsI_18, zgI_21, zsI_21, zgI_22, zsI_22, zgI_23, zsI_23, zgI_24, zsI_24, zgI_25, zsI_25, zgI_26, zsI_26, zgI_27, zsI_27, zgI_28, zsI_28, zgI_29, zsI_29, zgI_47, zsI_47, zgI_49, zsI_49, zgI_51, zsI_51, zgI_53, zsI_53, zgI_54, zsI_54, zgI_55, zsI_55, zgI_58, zsI_58, zgI_76, zsI_76, zgI_79, zsI_79, zb_22_0, c_no_t zS1, not_false, c_ms_f zS1 hF hR hr e, e1]
      · have hF1 := hM1.1
        obtain ⟨g1, g2, g3⟩ := (hM1.2.1 r hr).2 l e
        have hK : zKeep zFmr σ1 (zm_wI σ1 119 r (-nI 1)) := (zKeep.rf _ _).wI rfl
        refine ⟨_, zS_eq (zS_of ze_183 ?_), hM1.rowsTo hV hK (hM1.2.1.gone (zw_same _ _ _ _) (fun q _ hn => by rw [zw_ne _ _ (Or.inr hn)]) fun k => by rw [zw_cell _ _ (by decide)]), zFmr_rfs hK⟩
        simp (disch := first | assumption | omega) only [zn0, zn1, Option.bind_some, zm_ai, zm_al, zm_av, zm_opt, zm_fw, zE_l, zE_r, nI_add, pk_mul, pk_sub, pk_div, pk_rem, zrem, zpm1, zB_i0, zB_i1, zB_ok, zB_T, zB_F, nI_toInt, zT_sub, zT_neg, zT_le, zT_lt, nI_eq, zne1, zne2, zne9, ite_not, or_true, true_or, if_true, if_false, if_pos, if_neg, zw_R, zw_RL, zw_I, zF_R, zw_same, zw_cell, zw_ne, zF_at, zF_ne, zi_118, zx_118_0, zx_118_1, zx_118_2, zx_118_3, zx_118_7, zx_118_8, zx_118_9, zx_118_10, zx_118_11, zx_118_12, zx_118_13, zx_118_14, zx_118_15, zx_118_17, zx_118_18, zx_118_19, zx_118_21, zx_118_22, zx_118_24, zx_118_25, zx_118_30, zx_118_35, zx_118_36, zx_118_37, zx_118_38, zx_118_39, zx_118_41, zx_118_42, zx_118_44, zx_118_45, zx_118_46, zgI_119, zsI_119, zgI_120, zsI_120, zgI_121, zsI_121, zgI_122, zsI_122, zgI_123, zsI_123, zgI_124, zsI_124, zgI_125, zsI_125, zgI_126, zsI_126, zgI_127, zsI_127, zgI_128, zsI_128, zgI_129, zsI_129, zgI_130, zsI_130, zgI_131, zsI_131, zgI_132, zsI_132, zgI_133, zsI_133, zgI_134, zsI_134, zgI_135, zsI_135, zgI_136, zsI_136, zgI_137, zsI_137, zgI_139, zsI_139, zgI_140, zsI_140, zgI_141, zsI_141, zgI_142, zsI_142, zgI_143, zsI_143, zgI_144, zsI_144, zgI_145, zsI_145, zgI_146, zsI_146, zgI_147, zsI_147, zb_183_0, m_ir_t, not_false, g2]
end ZRC
