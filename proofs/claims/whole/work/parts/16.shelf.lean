/-! the class: shelves -/
theorem c_fill_loop {lay : zm_Lay} {a n : Nat} (ha : lay[a]? = some (1, n)) (hn : n < 1000000) (v : Int32) : ∀ (d i : Nat) (σ : zm_Sig), i + d = n →
    zm_go zp_P 2 (5, [(0, .ref a), (1, .int v), (2, .int (nI i)), (3, .int (nI n))], [], lay, σ, 0, 0) (none, lay, zm_wF σ a (fun k => if i ≤ k ∧ k < n then v else σ.1 a k))
  | 0, i, σ, h => by
    refine zg_2_5 (r := .inr _) (by simp only [zb_2_5, if_pos (nI_le (show n ≤ i by omega) (by omega))]; rfl) ?_
    show (none, lay, σ) = _
    rw [zF_id]
    intro k
    rw [if_neg (by omega)]
  | d + 1, i, σ, h => by
    refine zg_2_5 (r := .inl _) (by simp only [zb_2_5, if_neg (nI_ge (show i < n by omega) (by omega)), zsI ha (show i < n by omega) (by omega), Option.bind_some, nI_1]; rfl) ?_
    have := c_fill_loop ha hn v d (i + 1) (zm_wI σ a i v) (by omega)
    rw [zF_wI] at this
    refine zm_go.to this ?_
    congr 3
    funext k
    by_cases e : k = i
    · subst e
      rw [if_neg (by omega), if_pos (by omega), zw_same]
    · rw [zw_ne _ _ (Or.inr e)]
      by_cases e2 : i + 1 ≤ k ∧ k < n
      · rw [if_pos e2, if_pos (by omega)]
      · rw [if_neg e2, if_neg (by omega)]
theorem c_fill {lay : zm_Lay} {σ : zm_Sig} {a n : Nat} (ha : lay[a]? = some (1, n)) (hn : n < 1000000) (v : Int32) : zM 2 [.ref a, .int v] lay σ = some (none, lay, zm_wF σ a (fun k => if k < n then v else σ.1 a k)) := by
  refine ze_2 (r := .inl _) (by simp only [zb_2_0, zlen (k := 0) ha, Option.bind_some]; rfl) ?_
  have := c_fill_loop ha hn v n 0 σ (by omega)
  simp only [Nat.zero_le, true_and] at this
  exact this
def zSh (s N K : Nat) : Prop := (s = 1 ∧ N = 6 ∧ K = 40) ∨ (s = 10 ∧ N = 4 ∧ K = 60)
theorem zSh.o {s N K : Nat} (h : zSh s N K) : zm_is zL s 5 = some () := by rcases h with ⟨rfl, rfl, rfl⟩ | ⟨rfl, rfl, rfl⟩ <;> rfl
theorem zSh.c {s N K : Nat} (h : zSh s N K) : zL[s + 1]? = some (4, N) := by rcases h with ⟨rfl, rfl, rfl⟩ | ⟨rfl, rfl, rfl⟩ <;> rfl
theorem zSh.z {s N K : Nat} (h : zSh s N K) : zL[s + 2 + N]? = some (1, N) := by rcases h with ⟨rfl, rfl, rfl⟩ | ⟨rfl, rfl, rfl⟩ <;> rfl
theorem zSh.r {s N K : Nat} (h : zSh s N K) {r : Nat} (hr : r < N) : zL[s + 2 + r]? = some (1, K) := by
  rcases h with ⟨rfl, rfl, rfl⟩ | ⟨rfl, rfl, rfl⟩
  · exact (show ∀ r, r < 6 → zL[1 + 2 + r]? = some (1, 40) by decide) r hr
  · exact (show ∀ r, r < 4 → zL[10 + 2 + r]? = some (1, 60) by decide) r hr
theorem zSh.b {s N K : Nat} (h : zSh s N K) : N < 100 ∧ K < 100 ∧ 0 < N ∧ s < 11 := by rcases h with ⟨rfl, rfl, rfl⟩ | ⟨rfl, rfl, rfl⟩ <;> decide
theorem zSh.f0 {s N K : Nat} (h : zSh s N K) {σ : zm_Sig} (hF : zFix σ) : σ.2.2 s 0 = some (s + 1) := by
  rcases h with ⟨rfl, rfl, rfl⟩ | ⟨rfl, rfl, rfl⟩
  · exact zx_1_0 hF
  · exact zx_10_0 hF
theorem zSh.f1 {s N K : Nat} (h : zSh s N K) {σ : zm_Sig} (hF : zFix σ) : σ.2.2 s 1 = some (s + 2 + N) := by
  rcases h with ⟨rfl, rfl, rfl⟩ | ⟨rfl, rfl, rfl⟩
  · exact zx_1_1 hF
  · exact zx_10_1 hF
theorem zSh.fr {s N K : Nat} (h : zSh s N K) {σ : zm_Sig} (hF : zFix σ) {r : Nat} (hr : r < N) : σ.2.2 (s + 1) r = some (s + 2 + r) := by
  rcases h with ⟨rfl, rfl, rfl⟩ | ⟨rfl, rfl, rfl⟩
  · exact hF (1 + 1, r, 1 + 2 + r) ((show ∀ r, r < 6 → (1 + 1, r, 1 + 2 + r) ∈ zFx by decide) r hr)
  · exact hF (10 + 1, r, 10 + 2 + r) ((show ∀ r, r < 4 → (10 + 1, r, 10 + 2 + r) ∈ zFx by decide) r hr)
section ZSH
variable {s N K : Nat} {σ : zm_Sig}
theorem c_isNumber (h : zSh s N K) (hF : zFix σ) (x : Int32) : zM 12 [.ref s, .int x] zL σ = some (some (.int (if x < 0 ∨ nI N ≤ x then 0 else 1)), zL, σ) := by
  refine ze_12 (r := .inr _) ?_ rfl
  simp only [zb_12_0, h.o, Option.bind_some, h.f1 hF, zm_opt, zlen (k := 0) h.z]
  by_cases h1 : x < 0
  · simp [h1]
  · by_cases h2 : nI N ≤ x
    · simp [h1, h2]
    · simp [h1, h2]
theorem z_nn {r N : Nat} (hr : r < N) (hN : N < 1000000) : ¬ (nI r < 0 ∨ nI N ≤ nI r) := by
  rintro (h | h)
  · exact nI_pos (by omega) h
  · exact nI_ge hr (by omega) h
theorem c_isMissing (h : zSh s N K) (hF : zFix σ) {r : Nat} (hr : r < N) : zM 16 [.ref s, .int (nI r)] zL σ = some (some (.int (if σ.1 (s + 2 + N) r = -1 then 1 else 0)), zL, σ) := by
  refine ze_16 (r := .inr _) ?_ rfl
  have hb := h.b
  simp only [zb_16_0, h.o, Option.bind_some, c_isNumber h hF, zm_ai, z_nn hr (by omega), if_false, h.f1 hF, zm_opt, zgI h.z hr (by omega)]
  by_cases h1 : σ.1 (s + 2 + N) r = -1 <;> simp [h1]
theorem c_hasPlace (h : zSh s N K) (hF : zFix σ) {r : Nat} (hr : r < N) (i : Int32) : zM 17 [.ref s, .int (nI r), .int i] zL σ = some (some (.int (if i < 0 ∨ σ.1 (s + 2 + N) r ≤ i then 0 else 1)), zL, σ) := by
  refine ze_17 (r := .inr _) ?_ rfl
  have hb := h.b
  simp only [zb_17_0, h.o, Option.bind_some, c_isNumber h hF, zm_ai, z_nn hr (by omega), if_false, h.f1 hF, zm_opt, zgI h.z hr (by omega)]
  by_cases h1 : i < 0
  · simp [h1]
  · by_cases h2 : σ.1 (s + 2 + N) r ≤ i <;> simp [h1, h2]
theorem c_read (h : zSh s N K) (hF : zFix σ) {r j : Nat} (hr : r < N) (hj : j < K) (hs : ¬ σ.1 (s + 2 + N) r ≤ nI j) : zM 18 [.ref s, .int (nI r), .int (nI j)] zL σ = some (some (.int (σ.1 (s + 2 + r) j)), zL, σ) := by
  refine ze_18 (r := .inr _) ?_ rfl
  have hb := h.b
  simp only [zb_18_0, h.o, Option.bind_some, c_hasPlace h hF hr, zm_ai, nI_pos (show j < 2 ^ 31 by omega), hs, or_self, if_false, h.f0 hF, zm_opt, zgR4 h.c hr (by omega), h.fr hF hr, zgI (h.r hr) hj (by omega)]
  simp
theorem c_write (h : zSh s N K) (hF : zFix σ) {r j : Nat} (hr : r < N) (hj : j < K) (hs : ¬ σ.1 (s + 2 + N) r ≤ nI j) (v : Int32) : zM 19 [.ref s, .int (nI r), .int (nI j), .int v] zL σ = some (none, zL, zm_wI σ (s + 2 + r) j v) := by
  refine ze_19 (r := .inr _) ?_ rfl
  have hb := h.b
  simp only [zb_19_0, h.o, Option.bind_some, c_hasPlace h hF hr, zm_ai, nI_pos (show j < 2 ^ 31 by omega), hs, or_self, if_false, h.f0 hF, zm_opt, zgR4 h.c hr (by omega), h.fr hF hr, zsI (h.r hr) hj (by omega)]
  simp
theorem c_make (h : zSh s N K) (hF : zFix σ) {r n : Nat} (hr : r < N) (hn : n ≤ K) (v : Int32) : zM 14 [.ref s, .int (nI r), .int (nI n), .int v] zL σ = some (none, zL, zm_wF (zm_wI σ (s + 2 + N) r (nI n)) (s + 2 + r) (fun k => if k < K then v else σ.1 (s + 2 + r) k)) := by
  refine ze_14 (r := .inr _) ?_ rfl
  have hb := h.b
  have hF1 := hF.wI (s + 2 + N) r (nI n)
  simp only [zb_14_0, h.o, Option.bind_some, c_isNumber h hF, zm_ai, z_nn hr (by omega), if_false, nI_pos (show n < 2 ^ 31 by omega), h.f0 hF, h.f0 hF1, h.f1 hF, zm_opt, zgR4 h.c hr (by omega), h.fr hF hr, h.fr hF1 hr, zlen (k := 0) (h.r hr), nI_le hn (by omega), if_true, zsI h.z hr (by omega), c_fill (h.r hr) (by omega), zm_av]
  rw [zw_cell _ _ (by omega)]
  simp
theorem c_remove (h : zSh s N K) (hF : zFix σ) {r : Nat} (hr : r < N) : zM 23 [.ref s, .int (nI r)] zL σ = some (none, zL, zm_wI σ (s + 2 + N) r (-1)) := by
  refine ze_23 (r := .inr _) ?_ rfl
  have hb := h.b
  simp only [zb_23_0, h.o, Option.bind_some, c_isNumber h hF, zm_ai, z_nn hr (by omega), if_false, h.f1 hF, zm_opt, zsI h.z hr (by omega)]
  simp
theorem c_sizeOf (h : zSh s N K) (hF : zFix σ) {r : Nat} (hr : r < N) : zM 28 [.ref s, .int (nI r)] zL σ = some (some (.int (σ.1 (s + 2 + N) r)), zL, σ) := by
  refine ze_28 (r := .inr _) ?_ rfl
  have hb := h.b
  simp only [zb_28_0, h.o, Option.bind_some, c_isNumber h hF, zm_ai, z_nn hr (by omega), if_false, h.f1 hF, zm_opt, zgI h.z hr (by omega)]
  simp
end ZSH
