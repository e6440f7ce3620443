/-! the reference: findings, rows, texts -/
theorem m_in (lay : zm_Lay) (σ : zm_Sig) (v a b : Int32) : zM 176 [.int v, .int a, .int b] lay σ = some (some (.int (if v < a ∨ b < v then 0 else 1)), lay, σ) := by
  refine ze_176 (r := .inr _) ?_ rfl
  simp only [zb_176_0]
  by_cases h1 : v < a
  · simp only [h1, if_true, true_or]
  · by_cases h2 : b < v
    · simp only [h1, h2, if_false, if_true, or_true]
    · simp only [h1, h2, if_false, or_self]
theorem m_isRow (lay : zm_Lay) (σ : zm_Sig) (v : Int32) : zM 175 [.int v] lay σ = some (some (.int (if v < 0 ∨ nI 5 < v then 0 else 1)), lay, σ) := by
  refine ze_175 (r := .inr _) ?_ rfl
  simp only [zb_175_0, m_in, zm_ai, Option.bind_some]
  split <;> simp
theorem m_isText (lay : zm_Lay) (σ : zm_Sig) (v : Int32) : zM 187 [.int v] lay σ = some (some (.int (if v < 0 ∨ nI 3 < v then 0 else 1)), lay, σ) := by
  refine ze_187 (r := .inr _) ?_ rfl
  simp only [zb_187_0, m_in, zm_ai, Option.bind_some]
  split <;> simp
/-- index in or out -/
theorem z_in {N j : Nat} (hj : j < N + 1) (hN : N < 1000000) : ¬ (nI j < 0 ∨ nI N < nI j) := by
  rintro (h | h)
  · exact nI_pos (by omega) h
  · exact absurd ((nI_ltI (by omega) (by omega)).mp h) (by omega)
theorem z_ix (x : Int32) (N : Nat) (hN : N < 1000000) : (x < 0 ∨ nI N < x) ∨ ∃ j, j < N + 1 ∧ x = nI j := by
  rcases pk_ix x (n := N + 1) (by omega) with h | h | h
  · exact Or.inl (Or.inl h)
  · refine Or.inl (Or.inr ?_)
    have h1 : (nI N).toInt < x.toInt := by
      have := Int32.le_iff_toInt_le.mp h
      rw [nI_toInt (by omega)] at this ⊢
      omega
    exact Int32.lt_iff_toInt_lt.mpr h1
  · exact Or.inr h
/-- a finding is told -/
def zr_found (σ : zm_Sig) (f : Nat) : zm_Sig := zm_wI (zm_wI σ 118 29 (nI f)) 139 f (σ.1 139 f + 1)
theorem m_found {σ : zm_Sig} (hF : zFix σ) {f : Nat} (hf : f < 6) : zM 177 [.ref 118, .int (nI f)] zL σ = some (some (.int (-3)), zL, zr_found σ f) := by
  refine ze_177 (r := .inr _) ?_ rfl
  simp only [zb_177_0, zi_118, Option.bind_some, zm_fw, zw_R, zx_118_30 hF, zm_opt, zgI_139 hf, zsI_139 hf, zr_found]
  rw [zw_cell _ _ (by decide)]
theorem m_found1 {σ : zm_Sig} (hF : zFix σ) : zM 177 [.ref 118, .int 1] zL σ = some (some (.int (-3)), zL, zr_found σ 1) := m_found hF (f := 1) (by decide)
theorem m_tells (σ : zm_Sig) (v a : Int32) : zM 181 [.ref 118, .int v, .int a] zL σ = some (some (.int a), zL, zm_wI σ 118 26 v) := by
  refine ze_181 (r := .inr _) ?_ rfl
  simp only [zb_181_0, zi_118, Option.bind_some, zm_fw]
/-- a whole row of ints is put -/
def zm_wF (σ : zm_Sig) (a : Nat) (g : Nat → Int32) : zm_Sig := (va_up σ.1 a g, σ.2)
theorem zF_id {σ : zm_Sig} {a : Nat} {g : Nat → Int32} (h : ∀ k, g k = σ.1 a k) : zm_wF σ a g = σ := by
  have : va_up σ.1 a g = σ.1 := by
    funext b
    by_cases e : b = a
    · subst e
      simp only [va_up, if_true]
      exact funext h
    · simp [va_up, e]
  unfold zm_wF
  rw [this]
theorem zF_wI (σ : zm_Sig) (a i : Nat) (v : Int32) (g : Nat → Int32) : zm_wF (zm_wI σ a i v) a g = zm_wF σ a g := by
  unfold zm_wF zm_wI
  congr 1
  funext b
  by_cases e : b = a <;> simp [va_up, e]
theorem zF_R (σ : zm_Sig) (a : Nat) (g : Nat → Int32) : (zm_wF σ a g).2 = σ.2 := rfl
theorem zF_at (σ : zm_Sig) (a : Nat) (g : Nat → Int32) : (zm_wF σ a g).1 a = g := by simp [zm_wF, va_up]
theorem zF_ne (σ : zm_Sig) {a b : Nat} (g : Nat → Int32) (h : b ≠ a) : (zm_wF σ a g).1 b = σ.1 b := by simp [zm_wF, va_up, h]
theorem zFix.wF {σ : zm_Sig} (h : zFix σ) (a : Nat) (g : Nat → Int32) : zFix (zm_wF σ a g) := h
theorem zm_go.to {P : Nat → Option zm_Mth} {y : Nat} {x : zm_St} {o o' : zm_Out} (h : zm_go P y x o) (e : o = o') : zm_go P y x o' := e ▸ h
/-- makesRow: its loop -/
theorem m_makesRow_loop {r n : Nat} (hr : r < 6) (hn : n ≤ 40) : ∀ (d i : Nat) (σ : zm_Sig), zFix σ → i + d = n →
    zm_go zp_P 178 (9, [(0, .ref 118), (1, .int (nI r)), (2, .int (nI n)), (3, .int (nI i))], [], zL, σ, 0, 0) (none, zL, zm_wF σ 120 (fun k => if 40 * r + i ≤ k ∧ k < 40 * r + n then 0 else σ.1 120 k))
  | 0, i, σ, hF, h => by
    refine zg_178_9 (r := .inr _) (by simp only [zb_178_9, if_pos (nI_le (show n ≤ i by omega) (by omega))]; rfl) ?_
    show (none, zL, σ) = _
    rw [zF_id]
    intro k
    rw [if_neg (by omega)]
  | d + 1, i, σ, hF, h => by
    refine zg_178_9 (r := .inl _) (by simp only [zb_178_9, if_neg (nI_ge (show i < n by omega) (by omega)), zi_118, Option.bind_some, zx_118_1 hF, zm_opt, pk_mul, nI_add, nI_1, zsI_120 (show 40 * r + i < 240 by omega)]; rfl) ?_
    have := m_makesRow_loop hr hn d (i + 1) (zm_wI σ 120 (40 * r + i) 0) (hF.wI _ _ _) (by omega)
    rw [zF_wI] at this
    refine zm_go.to this ?_
    congr 3
    funext k
    by_cases e : k = 40 * r + i
    · subst e
      rw [if_neg (by omega), if_pos (by omega), zw_same]
    · rw [zw_ne _ _ (Or.inr e)]
      by_cases e2 : 40 * r + (i + 1) ≤ k ∧ k < 40 * r + n
      · rw [if_pos e2, if_pos (by omega)]
      · rw [if_neg e2, if_neg (by omega)]
theorem m_makesRow {σ : zm_Sig} (hF : zFix σ) {r n : Nat} (hr : r < 6) (hn : n ≤ 40) : zM 178 [.ref 118, .int (nI r), .int (nI n)] zL σ = some (none, zL, zm_wF (zm_wI σ 119 r (nI n)) 120 (fun k => if 40 * r ≤ k ∧ k < 40 * r + n then 0 else σ.1 120 k)) := by
  refine ze_178 (r := .inl _) (by simp only [zb_178_0, zi_118, Option.bind_some, zx_118_0 hF, zm_opt, zsI_119 hr]; rfl) ?_
  have := m_makesRow_loop hr hn n 0 (zm_wI σ 119 r (nI n)) (hF.wI _ _ _) (by omega)
  rw [zw_cell _ _ (by decide)] at this
  exact this
/-- row -/
theorem m_row_bad {σ : zm_Sig} {r n : Int32} (h : (r < 0 ∨ nI 5 < r) ∨ ¬ n ≤ nI 40) : zM 174 [.ref 118, .int r, .int n] zL σ = some (some (.int (-1)), zL, σ) := by
  refine ze_174 (r := .inr _) ?_ rfl
  simp only [zb_174_0, m_isRow, zm_ai, Option.bind_some]
  by_cases h1 : r < 0 ∨ nI 5 < r
  · simp [h1]
  · simp [h1, h.resolve_left h1]
theorem m_row_size {σ : zm_Sig} (hF : zFix σ) {r : Nat} {n : Int32} (hr : r < 6) (hn : n < 0) : zM 174 [.ref 118, .int (nI r), .int n] zL σ = some (some (.int (-3)), zL, zr_found σ 5) := by
  refine ze_174 (r := .inr _) ?_ rfl
  have h40 : n ≤ nI 40 := Int32.le_of_lt (Int32.lt_of_lt_of_le hn (by decide))
  have h0 : ¬ (0 : Int32) ≤ n := Int32.not_le.mpr hn
  simp only [zb_174_0, m_isRow, zm_ai, Option.bind_some, z_in (N := 5) hr (by decide), if_false, h40, h0, if_true, zi_118, m_found hF (f := 5) (by decide)]
  simp
theorem m_row {σ : zm_Sig} (hF : zFix σ) {r n : Nat} (hr : r < 6) (hn : n ≤ 40) : zM 174 [.ref 118, .int (nI r), .int (nI n)] zL σ = some (some (.int (nI n)), zL, zm_wF (zm_wI σ 119 r (nI n)) 120 (fun k => if 40 * r ≤ k ∧ k < 40 * r + n then 0 else σ.1 120 k)) := by
  refine ze_174 (r := .inr _) ?_ rfl
  simp only [zb_174_0, m_isRow, zm_ai, Option.bind_some, z_in (N := 5) hr (by decide), if_false, nI_le hn (by decide), if_true, nI_pos' (show n < 2 ^ 31 by omega), zi_118, m_makesRow hF hr hn, zm_av]
  simp
