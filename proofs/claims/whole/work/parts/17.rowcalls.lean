/-! row, lay, at, tear, text, put and what is told: class and reference side by side -/
theorem zS1 : zSh 1 6 40 := Or.inl ⟨rfl, rfl, rfl⟩
theorem zS2 : zSh 10 4 60 := Or.inr ⟨rfl, rfl, rfl⟩
def zc_found (σ : zm_Sig) (f : Nat) : zm_Sig := zm_wI (zm_wI σ 0 16 (nI f)) 76 f (σ.1 76 f + 1)
theorem c_found {σ : zm_Sig} (hF : zFix σ) {f : Nat} (hf : f < 6) : zM 13 [.ref 0, .int (nI f)] zL σ = some (some (.int (-3)), zL, zc_found σ f) := by
  refine ze_13 (r := .inr _) ?_ rfl
  simp only [zb_13_0, zi_0, Option.bind_some, zm_fw, zw_R, zx_0_7 hF, zm_opt, zgI_76 hf, zsI_76 hf, zc_found]
  rw [zw_cell _ _ (by decide)]
theorem c_found1 {σ : zm_Sig} (hF : zFix σ) : zM 13 [.ref 0, .int 1] zL σ = some (some (.int (-3)), zL, zc_found σ 1) := c_found hF (f := 1) (by decide)
theorem c_told (σ : zm_Sig) (v : Int32) : zM 20 [.ref 0, .int v] zL σ = some (some (.int 1), zL, zm_wI σ 0 13 v) := by
  refine ze_20 (r := .inr _) ?_ rfl
  simp only [zb_20_0, zi_0, Option.bind_some, zm_fw]
/-- rows of the class and of the reference hold the same -/
def zRw (σ : zm_Sig) (N K zc c0 zm cm : Nat) : Prop := ∀ r, r < N → (σ.1 zc r = -1 ∨ ∃ n, n ≤ K ∧ σ.1 zc r = nI n) ∧ σ.1 zm r = σ.1 zc r ∧ ∀ j, j < K → ¬ σ.1 zc r ≤ nI j → σ.1 (c0 + r) j = σ.1 cm (K * r + j)
def zAd (N zc c0 zm cm : Nat) : Prop := c0 + N ≤ zc ∧ zc < zm ∧ zm < cm
/-- what is told: asked, findings -/
def zTold (σ : zm_Sig) : Prop := σ.1 118 26 = σ.1 0 13 ∧ σ.2.1 118 27 = σ.2.1 0 14 ∧ σ.2.1 118 28 = σ.2.1 0 15 ∧ σ.1 118 29 = σ.1 0 16 ∧ ∀ f, f < 6 → σ.1 139 f = σ.1 76 f
def zRT (σ : zm_Sig) : Prop := zFix σ ∧ zRw σ 6 40 9 3 119 120 ∧ zRw σ 4 60 16 12 121 122 ∧ zTold σ
/-- slots of groups, trees, books (not rows, texts, what is told) -/
def zBs (a k : Nat) : Bool := !((3 ≤ a && a ≤ 9) || (12 ≤ a && a ≤ 16) || a == 76 || (119 ≤ a && a ≤ 122) || a == 139 || (a == 0 && k == 13) || (a == 0 && k == 16) || (a == 118 && k == 26) || (a == 118 && k == 29))
def zEqB (σ σ' : zm_Sig) : Prop := σ'.2.2 = σ.2.2 ∧ ∀ a k, zBs a k = true → σ'.1 a k = σ.1 a k
theorem zEqB.rf (σ : zm_Sig) : zEqB σ σ := ⟨rfl, fun _ _ _ => rfl⟩
theorem zEqB.tr {a b c : zm_Sig} (h1 : zEqB a b) (h2 : zEqB b c) : zEqB a c := ⟨h2.1.trans h1.1, fun x k h => (h2.2 x k h).trans (h1.2 x k h)⟩
theorem zEqB.wI {σ σ' : zm_Sig} (h : zEqB σ σ') {a i : Nat} {v : Int32} (hn : zBs a i = false) : zEqB σ (zm_wI σ' a i v) := ⟨h.1, fun b k hb => by
  rw [zw_ne]
  · exact h.2 b k hb
  · by_cases e : b = a
    · refine Or.inr fun e2 => ?_
      rw [e, e2, hn] at hb
      cases hb
    · exact Or.inl e⟩
theorem zEqB.wF {σ σ' : zm_Sig} (h : zEqB σ σ') {a : Nat} {g : Nat → Int32} (hn : ∀ k, zBs a k = false) : zEqB σ (zm_wF σ' a g) := ⟨h.1, fun b k hb => by
  by_cases e : b = a
  · rw [e, hn] at hb
    cases hb
  · rw [zF_ne _ _ e]
    exact h.2 b k hb⟩
section ZRW
variable {σ σ' : zm_Sig} {N K zc c0 zm cm : Nat}
theorem zRw.same (h : zRw σ N K zc c0 zm cm) (e : ∀ a k, (c0 ≤ a ∧ a ≤ zc) ∨ a = zm ∨ a = cm → σ'.1 a k = σ.1 a k) (hA : zAd N zc c0 zm cm) : zRw σ' N K zc c0 zm cm := by
  obtain ⟨a1, a2, a3⟩ := hA
  intro r hr
  obtain ⟨h1, h2, h3⟩ := h r hr
  rw [e zc r (by omega), e zm r (by omega)]
  refine ⟨h1, h2, fun j hj hs => ?_⟩
  rw [e (c0 + r) j (by omega), e cm _ (by omega)]
  exact h3 j hj hs
theorem zRw.make (h : zRw σ N K zc c0 zm cm) (hA : zAd N zc c0 zm cm) {r n : Nat} (hr : r < N) (hn : n ≤ K) (hK : K < 1000) {v : Int32} {g : Nat → Int32} (hg : ∀ k, k < K → g k = v)
    {σ2 : zm_Sig} (e2 : σ2 = zm_wF (zm_wI (zm_wF (zm_wI σ zc r (nI n)) (c0 + r) g) zm r (nI n)) cm (fun k => if K * r ≤ k ∧ k < K * r + n then v else σ.1 cm k)) : zRw σ2 N K zc c0 zm cm := by
  obtain ⟨a1, a2, a3⟩ := hA
  subst e2
  intro q hq
  obtain ⟨h1, h2, h3⟩ := h q hq
  have ec : ∀ k, (zm_wF (zm_wI (zm_wF (zm_wI σ zc r (nI n)) (c0 + r) g) zm r (nI n)) cm (fun k => if K * r ≤ k ∧ k < K * r + n then v else σ.1 cm k)).1 cm k = if K * r ≤ k ∧ k < K * r + n then v else σ.1 cm k := fun k => by rw [zF_at]
  have ez : ∀ k, (zm_wF (zm_wI (zm_wF (zm_wI σ zc r (nI n)) (c0 + r) g) zm r (nI n)) cm (fun k => if K * r ≤ k ∧ k < K * r + n then v else σ.1 cm k)).1 zc k = if k = r then nI n else σ.1 zc k := fun k => by
    rw [zF_ne _ _ (by omega), zw_cell _ _ (by omega), zF_ne _ _ (by omega)]
    by_cases e : k = r
    · subst e; rw [zw_same, if_pos rfl]
    · rw [zw_ne _ _ (Or.inr e), if_neg e]
  have em : ∀ k, (zm_wF (zm_wI (zm_wF (zm_wI σ zc r (nI n)) (c0 + r) g) zm r (nI n)) cm (fun k => if K * r ≤ k ∧ k < K * r + n then v else σ.1 cm k)).1 zm k = if k = r then nI n else σ.1 zm k := fun k => by
    rw [zF_ne _ _ (by omega)]
    by_cases e : k = r
    · subst e; rw [zw_same, if_pos rfl]
    · rw [zw_ne _ _ (Or.inr e), if_neg e, zF_ne _ _ (by omega), zw_cell _ _ (by omega)]
  have er : ∀ k, (zm_wF (zm_wI (zm_wF (zm_wI σ zc r (nI n)) (c0 + r) g) zm r (nI n)) cm (fun k => if K * r ≤ k ∧ k < K * r + n then v else σ.1 cm k)).1 (c0 + q) k = if q = r then g k else σ.1 (c0 + q) k := fun k => by
    rw [zF_ne _ _ (by omega), zw_cell _ _ (by omega)]
    by_cases e : q = r
    · subst e; rw [zF_at, if_pos rfl]
    · rw [zF_ne _ _ (by omega), zw_cell _ _ (by omega), if_neg e]
  rw [ez, em]
  by_cases e : q = r
  · subst e
    simp only [if_true]
    refine ⟨Or.inr ⟨n, hn, rfl⟩, trivial, fun j hj hs => ?_⟩
    have hjn : j < n := by
      rcases Nat.lt_or_ge j n with z | z
      · exact z
      · exact absurd (nI_le z (by omega)) hs
    rw [er, ec, if_pos rfl, if_pos (by omega), hg j hj]
  · rw [if_neg e, if_neg e]
    refine ⟨h1, h2, fun j hj hs => ?_⟩
    rw [er, ec, if_neg e, if_neg]
    · exact h3 j hj hs
    · intro hz
      rcases Nat.lt_or_ge q r with z | z
      · have : K * (q + 1) ≤ K * r := Nat.mul_le_mul_left K z
        rw [Nat.mul_add] at this
        omega
      · have hqr : r + 1 ≤ q := by omega
        have : K * (r + 1) ≤ K * q := Nat.mul_le_mul_left K hqr
        rw [Nat.mul_add] at this
        omega
theorem zRw.write (h : zRw σ N K zc c0 zm cm) (hA : zAd N zc c0 zm cm) {r j : Nat} (hr : r < N) (hj : j < K) (v : Int32) {σ2 : zm_Sig} (e2 : ∀ a k, (c0 ≤ a ∧ a ≤ zc) ∨ a = zm ∨ a = cm → σ2.1 a k = (zm_wI (zm_wI σ (c0 + r) j v) cm (K * r + j) v).1 a k) : zRw σ2 N K zc c0 zm cm := by
  refine zRw.same (σ := zm_wI (zm_wI σ (c0 + r) j v) cm (K * r + j) v) ?_ e2 hA
  obtain ⟨a1, a2, a3⟩ := hA
  intro q hq
  obtain ⟨h1, h2, h3⟩ := h q hq
  rw [zw_cell _ _ (show zc ≠ cm by omega), zw_cell _ _ (show zc ≠ c0 + r by omega), zw_cell _ _ (show zm ≠ cm by omega), zw_cell _ _ (show zm ≠ c0 + r by omega)]
  refine ⟨h1, h2, fun i hi hs => ?_⟩
  rw [zw_cell _ _ (show c0 + q ≠ cm by omega)]
  have h3' := h3 i hi hs
  by_cases e : q = r
  · subst e
    by_cases e3 : i = j
    · subst e3; rw [zw_same, zw_same]
    · rw [zw_ne _ _ (Or.inr e3), zw_ne _ _ (Or.inr (by omega)), zw_cell _ _ (show cm ≠ c0 + q by omega)]
      exact h3'
  · rw [zw_cell _ _ (show c0 + q ≠ c0 + r by omega), zw_ne _ _ (Or.inr ?_), zw_cell _ _ (show cm ≠ c0 + r by omega)]
    · exact h3'
    · intro hz
      rcases Nat.lt_or_ge q r with z | z
      · have : K * (q + 1) ≤ K * r := Nat.mul_le_mul_left K z
        rw [Nat.mul_add] at this
        omega
      · have : K * (r + 1) ≤ K * q := Nat.mul_le_mul_left K (by omega)
        rw [Nat.mul_add] at this
        omega
theorem zRw.gone (h : zRw σ N K zc c0 zm cm) (hA : zAd N zc c0 zm cm) {r : Nat} (hr : r < N) (hK : K < 1000) : zRw (zm_wI (zm_wI σ zc r (-1)) zm r (-1)) N K zc c0 zm cm := by
  obtain ⟨a1, a2, a3⟩ := hA
  intro q hq
  obtain ⟨h1, h2, h3⟩ := h q hq
  rw [zw_cell _ _ (show zc ≠ zm by omega), zw_cell _ _ (show c0 + q ≠ zm by omega), zw_cell _ _ (show c0 + q ≠ zc by omega), zw_cell _ _ (show cm ≠ zm by omega), zw_cell _ _ (show cm ≠ zc by omega)]
  by_cases e : q = r
  · subst e
    rw [zw_same, zw_same]
    refine ⟨Or.inl rfl, rfl, fun j hj hs => absurd (Int32.le_of_lt (Int32.lt_of_lt_of_le (by decide : (-1 : Int32) < 0) (nI_pos' (by omega)))) hs⟩
  · rw [zw_ne _ _ (Or.inr e), zw_ne _ _ (Or.inr e), zw_cell _ _ (show zm ≠ zc by omega)]
    exact ⟨h1, h2, h3⟩
end ZRW
def zCall (yc ym : Nat) (as : List Value) (σ : zm_Sig) : Prop := ∃ (a : Value) (σ1 σ2 : zm_Sig), zM yc (.ref 0 :: as) zL σ = some (some a, zL, σ1) ∧ zM ym (.ref 118 :: as) zL σ1 = some (some a, zL, σ2) ∧ zRT σ2 ∧ zEqB σ σ2
theorem zA1 : zAd 6 9 3 119 120 := by unfold zAd; decide
theorem zA2 : zAd 4 16 12 121 122 := by unfold zAd; decide
/-- a finding, both -/
theorem zRT.found {σ : zm_Sig} (h : zRT σ) {f : Nat} (hf : f < 6) : zRT (zr_found (zc_found σ f) f) ∧ zEqB σ (zr_found (zc_found σ f) f) := by
  obtain ⟨hF, h1, h2, t1, t2, t3, t4, t5⟩ := h
  have same : ∀ a k, a ≠ 0 → a ≠ 76 → a ≠ 118 → a ≠ 139 → (zr_found (zc_found σ f) f).1 a k = σ.1 a k := fun a k e1 e2 e3 e4 => by
    unfold zr_found zc_found
    rw [zw_cell _ _ e4, zw_cell _ _ e3, zw_cell _ _ e2, zw_cell _ _ e1]
  refine ⟨⟨hF, h1.same (fun a k ha => same a k (by omega) (by omega) (by omega) (by omega)) zA1, h2.same (fun a k ha => same a k (by omega) (by omega) (by omega) (by omega)) zA2, ?_, t2, t3, ?_, fun g hg => ?_⟩, ?_⟩
  · unfold zr_found zc_found
    rw [zw_cell _ _ (by decide), zw_ne _ _ (Or.inr (by decide)), zw_cell _ _ (by decide), zw_cell _ _ (by decide), zw_cell _ _ (by decide), zw_cell _ _ (by decide), zw_cell _ _ (by decide), zw_ne _ _ (Or.inr (by decide))]
    exact t1
  · unfold zr_found zc_found
    rw [zw_cell _ _ (by decide), zw_same, zw_cell _ _ (by decide), zw_cell _ _ (by decide), zw_cell _ _ (by decide), zw_same]
  · unfold zr_found zc_found
    rw [zw_cell _ _ (show 76 ≠ 139 by decide), zw_cell _ _ (show 76 ≠ 118 by decide)]
    by_cases e : g = f
    · subst e
      rw [zw_same, zw_same, zw_cell _ _ (show 139 ≠ 76 by decide), zw_cell _ _ (show 139 ≠ 0 by decide), t5 g hg]
    · rw [zw_ne _ _ (Or.inr e), zw_ne _ _ (Or.inr e), zw_cell _ _ (show 139 ≠ 118 by decide), zw_cell _ _ (show 139 ≠ 76 by decide), zw_cell _ _ (show 139 ≠ 0 by decide), zw_cell _ _ (show 76 ≠ 0 by decide)]
      exact t5 g hg
  · exact (((zEqB.rf σ).wI rfl).wI rfl |>.wI rfl).wI rfl
theorem zFix.cfound {σ : zm_Sig} (h : zFix σ) (f : Nat) : zFix (zc_found σ f) := h
theorem zCall.found {yc ym : Nat} {as : List Value} {σ : zm_Sig} (h : zRT σ) {f : Nat} (hf : f < 6) (h1 : zM yc (.ref 0 :: as) zL σ = some (some (.int (-3)), zL, zc_found σ f)) (h2 : zM ym (.ref 118 :: as) zL (zc_found σ f) = some (some (.int (-3)), zL, zr_found (zc_found σ f) f)) : zCall yc ym as σ :=
  ⟨_, _, _, h1, h2, (h.found hf).1, (h.found hf).2⟩
theorem zCall.bad {yc ym : Nat} {as : List Value} {σ : zm_Sig} (h : zRT σ) {a : Value} (h1 : zM yc (.ref 0 :: as) zL σ = some (some a, zL, σ)) (h2 : zM ym (.ref 118 :: as) zL σ = some (some a, zL, σ)) : zCall yc ym as σ :=
  ⟨_, _, _, h1, h2, h, zEqB.rf σ⟩
/-- asked is told, both -/
theorem zRT.told {σ : zm_Sig} (h : zRT σ) (v : Int32) : zRT (zm_wI (zm_wI σ 0 13 v) 118 26 v) ∧ zEqB σ (zm_wI (zm_wI σ 0 13 v) 118 26 v) := by
  obtain ⟨hF, h1, h2, t1, t2, t3, t4, t5⟩ := h
  have same : ∀ a k, a ≠ 0 → a ≠ 118 → (zm_wI (zm_wI σ 0 13 v) 118 26 v).1 a k = σ.1 a k := fun a k e1 e3 => by
    rw [zw_cell _ _ e3, zw_cell _ _ e1]
  refine ⟨⟨hF, h1.same (fun a k ha => same a k (by omega) (by omega)) zA1, h2.same (fun a k ha => same a k (by omega) (by omega)) zA2, ?_, t2, t3, ?_, fun g hg => ?_⟩, ((zEqB.rf σ).wI rfl).wI rfl⟩
  · rw [zw_same, zw_cell _ _ (by decide), zw_same]
  · rw [zw_ne _ _ (Or.inr (by decide)), zw_cell _ _ (by decide), zw_cell _ _ (by decide), zw_ne _ _ (Or.inr (by decide))]
    exact t4
  · rw [same 139 g (by decide) (by decide), same 76 g (by decide) (by decide)]
    exact t5 g hg
/-- row -/
theorem c_row_bad {σ : zm_Sig} (hF : zFix σ) {r n : Int32} (h : (r < 0 ∨ nI 5 < r) ∨ ¬ n ≤ nI 40) : zM 11 [.ref 0, .int r, .int n] zL σ = some (some (.int (-1)), zL, σ) := by
  refine ze_11 (r := .inr _) ?_ rfl
  simp only [zb_11_0, zi_0, zi_1, Option.bind_some, zx_0_0 hF, zm_opt, c_isNumber zS1 hF, zm_ai]
  by_cases h1 : r < 0 ∨ nI 6 ≤ r
  · simp [h1]
  · rcases h with h | h
    · rcases z_ix r 5 (by decide) with q | ⟨j, hj, rfl⟩
      · refine absurd ?_ h1
        rcases q with q | q
        · exact Or.inl q
        · exact Or.inr (by
            have e1 := Int32.lt_iff_toInt_lt.mp q
            refine Int32.le_iff_toInt_le.mpr ?_
            rw [nI_toInt (by decide)] at e1 ⊢
            omega)
      · exact absurd h (z_in (N := 5) hj (by decide))
    · simp [h1, h]
theorem c_row_size {σ : zm_Sig} (hF : zFix σ) {r : Nat} {n : Int32} (hr : r < 6) (hn : n < 0) : zM 11 [.ref 0, .int (nI r), .int n] zL σ = some (some (.int (-3)), zL, zc_found σ 5) := by
  refine ze_11 (r := .inr _) ?_ rfl
  have h40 : n ≤ nI 40 := Int32.le_of_lt (Int32.lt_of_lt_of_le hn (by decide))
  have h0 : ¬ (0 : Int32) ≤ n := Int32.not_le.mpr hn
  simp only [zb_11_0, zi_0, zi_1, Option.bind_some, zx_0_0 hF, zm_opt, c_isNumber zS1 hF, zm_ai, z_nn hr (by decide), if_false, h40, h0, if_true, c_found hF (f := 5) (by decide)]
  simp
theorem c_row {σ : zm_Sig} (hF : zFix σ) {r n : Nat} (hr : r < 6) (hn : n ≤ 40) : zM 11 [.ref 0, .int (nI r), .int (nI n)] zL σ = some (some (.int (nI n)), zL, zm_wF (zm_wI σ 9 r (nI n)) (3 + r) (fun k => if k < 40 then 0 else σ.1 (3 + r) k)) := by
  refine ze_11 (r := .inr _) ?_ rfl
  simp only [zb_11_0, zi_0, zi_1, Option.bind_some, zx_0_0 hF, zm_opt, c_isNumber zS1 hF, zm_ai, z_nn hr (by decide), if_false, nI_le hn (by decide), if_true, nI_pos' (show n < 2 ^ 31 by omega), c_make zS1 hF hr hn, zm_av]
  simp
theorem zRT.of {σ σ2 : zm_Sig} (h : zRT σ) (e : σ2.2 = σ.2) (h1 : zRw σ2 6 40 9 3 119 120) (h2 : zRw σ2 4 60 16 12 121 122) (same : ∀ a, a = 0 ∨ a = 118 ∨ a = 139 ∨ a = 76 → σ2.1 a = σ.1 a) : zRT σ2 := by
  obtain ⟨hF, -, -, t1, t2, t3, t4, t5⟩ := h
  refine ⟨fun q hq => by rw [e]; exact hF q hq, h1, h2, ?_⟩
  unfold zTold
  rw [same 118 (by simp), same 0 (by simp), same 139 (by simp), same 76 (by simp), e]
  exact ⟨t1, t2, t3, t4, t5⟩
def zc_mk (σ : zm_Sig) (zc cr r n K : Nat) (v : Int32) : zm_Sig := zm_wF (zm_wI σ zc r (nI n)) cr (fun k => if k < K then v else σ.1 cr k)
def zr_mk (σ : zm_Sig) (zm cm r n K : Nat) (v : Int32) : zm_Sig := zm_wF (zm_wI σ zm r (nI n)) cm (fun k => if K * r ≤ k ∧ k < K * r + n then v else σ.1 cm k)
theorem zmk_ne {σ : zm_Sig} {zc cr zm cm r n K a : Nat} {v : Int32} (h1 : a ≠ zc) (h2 : a ≠ cr) (h3 : a ≠ zm) (h4 : a ≠ cm) : (zr_mk (zc_mk σ zc cr r n K v) zm cm r n K v).1 a = σ.1 a := by
  unfold zr_mk zc_mk
  rw [zF_ne _ _ h4, zw_cell _ _ h3, zF_ne _ _ h2, zw_cell _ _ h1]
theorem zmk_rw {σ : zm_Sig} {N K zc c0 zm cm : Nat} (h : zRw σ N K zc c0 zm cm) (hA : zAd N zc c0 zm cm) {r n : Nat} (hr : r < N) (hn : n ≤ K) (hK : K < 1000) (v : Int32) : zRw (zr_mk (zc_mk σ zc (c0 + r) r n K v) zm cm r n K v) N K zc c0 zm cm := by
  obtain ⟨a1, a2, a3⟩ := id hA
  refine h.make hA hr hn hK (v := v) (g := fun k => if k < K then v else σ.1 (c0 + r) k) (fun k hk => if_pos hk) ?_
  unfold zr_mk zc_mk
  rw [zF_ne _ _ (show cm ≠ c0 + r by omega), zw_cell _ _ (show cm ≠ zc by omega)]
theorem k_row {σ : zm_Sig} (h : zRT σ) (r n : Int32) : zCall 11 174 [.int r, .int n] σ := by
  have hF := h.1
  rcases z_ix r 5 (by decide) with hb | ⟨j, hj, rfl⟩
  · exact zCall.bad h (c_row_bad hF (Or.inl hb)) (m_row_bad (Or.inl hb))
  · by_cases h40 : n ≤ nI 40
    · by_cases h0 : n < 0
      · exact zCall.found h (by decide) (c_row_size hF hj h0) (m_row_size (hF.cfound 5) hj h0)
      · obtain ⟨k, hk, rfl⟩ := nI_of2 (n := 40) (by decide) h0 h40
        refine ⟨_, zc_mk σ 9 (3 + j) j k 40 0, zr_mk (zc_mk σ 9 (3 + j) j k 40 0) 119 120 j k 40 0, c_row hF hj hk, m_row (σ := zc_mk σ 9 (3 + j) j k 40 0) hF hj hk, h.of rfl (zmk_rw h.2.1 zA1 hj hk (by decide) 0) ?_ (fun a ha => zmk_ne (by omega) (by omega) (by omega) (by omega)), ?_⟩
        · exact h.2.2.1.same (fun a k ha => by rw [zmk_ne (by omega) (by omega) (by omega) (by omega)]) zA2
        · exact (((zEqB.rf σ).wI rfl).wF (fun k => by unfold zBs; simp; omega) |>.wI rfl).wF (fun k => rfl)
    · exact zCall.bad h (c_row_bad hF (Or.inr h40)) (m_row_bad (Or.inr h40))
