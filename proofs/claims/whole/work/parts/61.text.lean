/-! texts of groups: what both readers find -/
noncomputable def zif {α : Type} (P : Prop) (a b : α) : α := @ite α P (Classical.propDecidable P) a b
theorem zif_t {α : Type} {P : Prop} {a b : α} (h : P) : zif P a b = a := if_pos h
theorem zif_f {α : Type} {P : Prop} {a b : α} (h : ¬ P) : zif P a b = b := if_neg h
noncomputable def zftf (P : Nat → Prop) : Nat → Nat → Nat
  | 0, k => k
  | j + 1, k => zif (P k) (zftf P j (k + 1)) k
noncomputable def zft (P : Nat → Prop) (N k : Nat) : Nat := zftf P (N - k) k
theorem zft_t {P : Nat → Prop} {N k : Nat} (h : k < N) (hp : P k) : zft P N k = zft P N (k + 1) := by
  unfold zft
  rw [show N - k = (N - (k + 1)) + 1 by omega]
  exact zif_t hp
theorem zft_f {P : Nat → Prop} {N k : Nat} (hp : ¬ P k) : zft P N k = k := by
  unfold zft
  cases N - k with
  | zero => rfl
  | succ j =>
    exact zif_f hp
theorem zft_N {P : Nat → Prop} {N k : Nat} (h : N ≤ k) : zft P N k = k := by
  unfold zft
  rw [show N - k = 0 by omega]
  rfl
theorem zft_ok {P : Nat → Prop} {N : Nat} : ∀ j k, N - k = j → k ≤ N → k ≤ zft P N k ∧ zft P N k ≤ N ∧ (∀ i, k ≤ i → i < zft P N k → P i) ∧ (zft P N k < N → ¬ P (zft P N k))
  | 0, k, h, hk => by
    rw [zft_N (by omega)]
    exact ⟨by omega, by omega, fun i h1 h2 => by omega, fun h => by omega⟩
  | j + 1, k, h, hk => by
    by_cases hp : P k
    · rw [zft_t (by omega) hp]
      obtain ⟨a1, a2, a3, a4⟩ := zft_ok (P := P) (N := N) j (k + 1) (by omega) (by omega)
      refine ⟨by omega, a2, fun i h1 h2 => ?_, a4⟩
      by_cases e : i = k
      · rw [e]; exact hp
      · exact a3 i (by omega) h2
    · rw [zft_f hp]
      exact ⟨by omega, by omega, fun i h1 h2 => by omega, fun _ => hp⟩
theorem zft_go {P : Nat → Prop} {N k : Nat} (hk : k ≤ N) : k ≤ zft P N k ∧ zft P N k ≤ N ∧ (∀ i, k ≤ i → i < zft P N k → P i) ∧ (zft P N k < N → ¬ P (zft P N k)) := zft_ok _ k rfl hk
/-- signs -/
def zco (v : Int32) : Nat := if 32 ≤ v.toInt ∧ v.toInt ≤ 127 then v.toInt.toNat else 0
theorem zco_eq {v : Int32} {k : Nat} (h1 : 32 ≤ k) (h2 : k ≤ 127) : (v = nI k) = (zco v = k) := by
  have e : (v = nI k) = (v.toInt = (k : Int)) := by rw [zT_eq, nI_toInt (by omega)]
  rw [e]
  unfold zco
  apply propext
  split <;> omega
theorem zco_le {v : Int32} {k : Nat} (h1 : 32 ≤ k) (h2 : k ≤ 127) (h : (k : Int) ≤ v.toInt) (h3 : v.toInt ≤ 127) : k ≤ zco v ∧ (zco v : Int) = v.toInt := by
  unfold zco
  rw [if_pos (by omega)]
  omega
theorem zco_of {v : Int32} {k : Nat} (h1 : 32 ≤ k) (h2 : zco v = k) : v.toInt = (k : Int) := by
  unfold zco at h2
  split at h2 <;> omega
/-- between two signs -/
theorem zco_in {v : Int32} {a b : Nat} (h1 : 32 ≤ a) (h2 : b ≤ 127) : ((a : Int) ≤ v.toInt ∧ v.toInt ≤ (b : Int)) ↔ (a ≤ zco v ∧ zco v ≤ b) := by
  unfold zco
  split <;> omega
def zych (l : List Int32) (p : Nat) : Nat := if p < l.length then zco (zat l p) else 0
def zhc (l : List Int32) (p : Nat) : Int32 := if p < l.length then zat l p else nI 1000
def zhm (l : List Int32) (p : Nat) : Int32 := if p < l.length then zat l p else -1000
theorem zco_hc (l : List Int32) (p : Nat) : zco (zhc l p) = zych l p := by
  unfold zhc zych
  split
  · rfl
  · decide
theorem zco_hm (l : List Int32) (p : Nat) : zco (zhm l p) = zych l p := by
  unfold zhm zych
  split
  · rfl
  · decide
theorem zych_0 {l : List Int32} {p : Nat} (h : l.length ≤ p) : zych l p = 0 := if_neg (by omega)
theorem zych_lt {l : List Int32} {p : Nat} (h : zych l p ≠ 0) : p < l.length := by
  unfold zych at h
  split at h
  · assumption
  · exact absurd rfl h
/-- blanks, figures, letters -/
noncomputable def zsk (l : List Int32) (p : Nat) : Nat := zft (fun i => zych l i = 32) l.length p
theorem zsk_t {l : List Int32} {p : Nat} (h : zych l p = 32) : zsk l p = zsk l (p + 1) := zft_t (zych_lt (by omega)) h
theorem zsk_f {l : List Int32} {p : Nat} (h : ¬ zych l p = 32) : zsk l p = p := zft_f h
theorem zsk_ne (l : List Int32) (p : Nat) : ¬ zych l (zsk l p) = 32 := by
  by_cases hp : p ≤ l.length
  · by_cases h : zsk l p < l.length
    · exact (zft_go (P := fun i => zych l i = 32) hp).2.2.2 h
    · rw [zych_0 (by omega)]; decide
  · have : zsk l p = p := zft_N (by omega)
    rw [this, zych_0 (by omega)]
    decide
theorem zsk_le {l : List Int32} {p : Nat} (h : p ≤ l.length) : p ≤ zsk l p ∧ zsk l p ≤ l.length := ⟨(zft_go h).1, (zft_go h).2.1⟩
theorem zsk_id (l : List Int32) (p : Nat) : zsk l (zsk l p) = zsk l p := zsk_f (zsk_ne l p)
def zfi (l : List Int32) (p : Nat) : Prop := 48 ≤ zych l p ∧ zych l p ≤ 57
noncomputable def zcnt (l : List Int32) (p : Nat) : Nat := zft (fun i => zfi l (p + i)) 5 0
def zygd (l : List Int32) (n p j : Nat) : Prop := 48 ≤ zych l (p + j) ∧ zych l (p + j) < 48 + n ∧ ∀ i, i < j → zych l (p + i) ≠ zych l (p + j)
noncomputable def zfg (l : List Int32) (n p : Nat) : Nat := zft (zygd l n p) n 0
def zil (l : List Int32) (p : Nat) : Prop := (97 ≤ zych l p ∧ zych l p ≤ 99) ∨ (65 ≤ zych l p ∧ zych l p ≤ 67)
def zlg (l : List Int32) (g p : Nat) : Prop := (97 ≤ zych l p ∧ zych l p ≤ 99 ∧ zych l p < 97 + g) ∨ (65 ≤ zych l p ∧ zych l p ≤ 67 ∧ zych l p < 65 + g)
def zylr (l : List Int32) (p : Nat) : Int32 := if 97 ≤ zych l p ∧ zych l p ≤ 99 then nI (zych l p - 97 + 1) else if 65 ≤ zych l p ∧ zych l p ≤ 67 then -nI (zych l p - 65 + 1) else nI 0
noncomputable def zylc (l : List Int32) (g p : Nat) : Nat := zft (fun i => zlg l g (p + i)) 8 0
def zwd (l : List Int32) (p s : Nat) : List Int32 := (List.range s).map fun k => zylr l (p + k)
theorem zwd_len (l : List Int32) (p s : Nat) : (zwd l p s).length = s := by rw [zwd, List.length_map, List.length_range]
theorem zylr_lt {l : List Int32} {g p : Nat} (h : zlg l g p) : zLt g (zylr l p) := by
  unfold zylr
  unfold zlg at h
  by_cases h1 : 97 ≤ zych l p ∧ zych l p ≤ 99
  · rw [if_pos h1]
    exact ⟨zych l p - 97, by omega, Or.inl rfl⟩
  · rw [if_neg h1, if_pos (by omega)]
    exact ⟨zych l p - 65, by omega, Or.inr rfl⟩
/-- generators: where their figures stand -/
noncomputable def zpg (l : List Int32) (n : Nat) : Nat → Nat → Nat → (Nat → Nat) → Nat ⊕ Nat × Nat × (Nat → Nat)
  | 0, x, p, P => .inr (p, x, P)
  | j + 1, x, p, P => zif (zych l (zsk l p) = 97 + x) (zif (zfg l n (zsk l p + 1) = n) (zpg l n j (x + 1) (zsk l p + 1 + n) (fun i => if i = x then zsk l p + 1 else P i)) (.inl (zsk l p + 1 + zfg l n (zsk l p + 1)))) (.inr (zsk l p, x, P))
/-- the group without relators -/
noncomputable def zgr (l : List Int32) (n g : Nat) (P : Nat → Nat) (rs : List (List Int32)) : zG := (n, g, fun x i => zych l (P x + i) - 48, fun x d => zft (fun i => zych l (P x + i) ≠ 48 + d) n 0, rs)
def zylv (G : zG) (w : List Int32) : Prop := ∀ i, i < G.1 → w.foldl (zmv G) i = i
noncomputable def zpr (l : List Int32) (G : zG) : Nat → Nat → List (List Int32) → Nat ⊕ Nat × List (List Int32)
  | 0, p, rs => .inr (p, rs)
  | j + 1, p, rs => zif (zych l (zsk l p) = 61) (zif (zil l (zsk l p + 1 + zylc l G.2.1 (zsk l p + 1)) ∨ zylc l G.2.1 (zsk l p + 1) = 0) (.inl (zsk l p + 1 + zylc l G.2.1 (zsk l p + 1))) (zif (zylv G (zwd l (zsk l p + 1) (zylc l G.2.1 (zsk l p + 1)))) (zpr l G j (zsk l p + 1 + zylc l G.2.1 (zsk l p + 1)) (rs ++ [zwd l (zsk l p + 1) (zylc l G.2.1 (zsk l p + 1))])) (.inl (zsk l p)))) (.inr (zsk l p, rs))
noncomputable def zpe (l : List Int32) (n g : Nat) (P : Nat → Nat) (p : Nat) (rs : List (List Int32)) : Nat ⊕ zG := zif (zsk l p < l.length) (.inl (zsk l p)) (zif (zTr (zgr l n g P rs)) (.inr (zgr l n g P rs)) (.inl l.length))
noncomputable def zypt (l : List Int32) (n g : Nat) (P : Nat → Nat) : Nat ⊕ Nat × List (List Int32) → Nat ⊕ zG
  | .inl q => .inl q
  | .inr (p, rs) => zpe l n g P p rs
noncomputable def zyps (l : List Int32) (n : Nat) : Nat ⊕ Nat × Nat × (Nat → Nat) → Nat ⊕ zG
  | .inl q => .inl q
  | .inr (p, g, P) => zypt l n g P (zpr l (zgr l n g P []) 3 p [])
noncomputable def zpa (l : List Int32) : Nat ⊕ zG := zif (zych l (zsk l 0) = 97) (zif (zcnt l (zsk l 0 + 1) < 2) (.inl (zsk l 0 + 1 + zcnt l (zsk l 0 + 1))) (zyps l (zcnt l (zsk l 0 + 1)) (zpg l (zcnt l (zsk l 0 + 1)) 3 0 (zsk l 0) (fun _ => 0)))) (.inl (zsk l 0))
/-- the answer -/
def zypv : Nat ⊕ zG → Int32
  | .inl q => nI q
  | .inr _ => -9
/-- as many in as out -/
theorem zypig : ∀ (n : Nat) (P : Nat → Prop) (f : Nat → Nat), (∀ i, i < n → P i → f i < n ∧ P (f i)) → (∀ i j, i < n → j < n → P i → P j → f i = f j → i = j) → ∀ d, d < n → P d → ∃ i, i < n ∧ P i ∧ f i = d
  | 0, P, f, h1, h2, d, hd, _ => by omega
  | n + 1, P, f, h1, h2, d, hd, hP => by
    by_cases hn : P n
    · have A1 : ∀ i, i < n → P i → (if f i = n then f n else f i) < n ∧ P (if f i = n then f n else f i) := fun i hi hp => by
        by_cases q : f i = n
        · rw [if_pos q]
          have a := h1 n (by omega) hn
          have : f n ≠ n := fun e => by
            have := h2 i n (by omega) (by omega) hp hn (by omega)
            omega
          exact ⟨by omega, a.2⟩
        · rw [if_neg q]
          have a := h1 i (by omega) hp
          exact ⟨by omega, a.2⟩
      have A2 : ∀ i j, i < n → j < n → P i → P j → (if f i = n then f n else f i) = (if f j = n then f n else f j) → i = j := fun i j hi hj hp hq e' => by
        by_cases q : f i = n
        · by_cases q2 : f j = n
          · exact h2 i j (by omega) (by omega) hp hq (by omega)
          · rw [if_pos q, if_neg q2] at e'
            have := h2 n j (by omega) (by omega) hn hq e'
            omega
        · by_cases q2 : f j = n
          · rw [if_neg q, if_pos q2] at e'
            have := h2 i n (by omega) (by omega) hp hn e'
            omega
          · rw [if_neg q, if_neg q2] at e'
            exact h2 i j (by omega) (by omega) hp hq e'
      have ih := zypig n P (fun i => if f i = n then f n else f i) A1 A2
      by_cases e1 : d = f n
      · exact ⟨n, by omega, hn, e1.symm⟩
      · by_cases e2 : d = n
        · have hv : f n < n := by have := (h1 n (by omega) hn).1; omega
          obtain ⟨i, i1, i2, i3⟩ := ih (f n) hv (h1 n (by omega) hn).2
          by_cases q : f i = n
          · exact ⟨i, by omega, i2, by omega⟩
          · have i3' : (if f i = n then f n else f i) = f n := i3
            rw [if_neg q] at i3'
            have := h2 i n (by omega) (by omega) i2 hn i3'
            omega
        · obtain ⟨i, i1, i2, i3⟩ := ih d (by omega) hP
          have i3' : (if f i = n then f n else f i) = d := i3
          by_cases q : f i = n
          · rw [if_pos q] at i3'
            omega
          · rw [if_neg q] at i3'
            exact ⟨i, by omega, i2, i3'⟩
    · have hne : ∀ i, P i → i ≠ n := fun i hp e => hn (e ▸ hp)
      obtain ⟨i, i1, i2, i3⟩ := zypig n P f (fun i hi hp => ⟨by have a := h1 i (by omega) hp; have := hne _ a.2; omega, (h1 i (by omega) hp).2⟩) (fun i j hi hj hp hq e => h2 i j (by omega) (by omega) hp hq e) d (by have := hne d hP; omega) hP
      exact ⟨i, by omega, i2, i3⟩
/-- figures all good: generators are permutations -/
theorem zfg_all {l : List Int32} {n p : Nat} (h : zfg l n p = n) {j : Nat} (hj : j < n) : zygd l n p j := (zft_go (P := zygd l n p) (Nat.zero_le n)).2.2.1 j (by omega) (by unfold zfg at h; omega)
theorem zgr_ok {l : List Int32} {n g : Nat} {P : Nat → Nat} (hn : n ≤ 5) (hg : g ≤ 3) (h : ∀ x, x < g → zfg l n (P x) = n) {rs : List (List Int32)} (hr : rs.length ≤ 3) (hrs : ∀ r ∈ rs, r.length ≤ 8 ∧ ∀ v ∈ r, zLt g v) : zGv (zgr l n g P rs) := by
  refine ⟨hn, hg, hr, fun x p hx hp => ?_, hrs⟩
  have hx' : x < g := hx
  have hp' : p < n := hp
  have ha := fun j (hj : j < n) => zfg_all (h x hx') hj
  have inj : ∀ i j, i < n → j < n → zych l (P x + i) = zych l (P x + j) → i = j := fun i j hi hj e => by
    rcases Nat.lt_trichotomy i j with q | q | q
    · exact absurd e ((ha j hj).2.2 i q)
    · exact q
    · exact absurd e.symm ((ha i hi).2.2 j q)
  have hB : ∀ d, d < n → zft (fun i => zych l (P x + i) ≠ 48 + d) n 0 < n ∧ zych l (P x + zft (fun i => zych l (P x + i) ≠ 48 + d) n 0) = 48 + d := fun d hd => by
    obtain ⟨i, i1, -, i3⟩ := zypig n (fun _ => True) (fun i => zych l (P x + i) - 48) (fun i hi _ => ⟨by have := ha i hi; unfold zygd at this; omega, trivial⟩) (fun i j hi hj _ _ e => inj i j hi hj (by have e' : zych l (P x + i) - 48 = zych l (P x + j) - 48 := e; have h1 := (ha i hi).1; have h2 := (ha j hj).1; omega)) d hd trivial
    have i3' : zych l (P x + i) - 48 = d := i3
    have h1 := (ha i i1).1
    obtain ⟨a1, a2, a3, a4⟩ := zft_go (P := fun i => zych l (P x + i) ≠ 48 + d) (Nat.zero_le n)
    by_cases q : zft (fun i => zych l (P x + i) ≠ 48 + d) n 0 < n
    · exact ⟨q, Classical.not_not.mp (a4 q)⟩
    · exact absurd (show zych l (P x + i) = 48 + d by omega) (a3 i (by omega) (by omega))
  have hT : zych l (P x + p) - 48 < n := by have := ha p hp'; unfold zygd at this; omega
  have h1 := hB _ hT
  have h2 := hB p hp'
  refine ⟨hT, h2.1, ?_, ?_⟩
  · show zft (fun i => zych l (P x + i) ≠ 48 + (zych l (P x + p) - 48)) n 0 = p
    refine inj _ p h1.1 hp' ?_
    rw [h1.2]
    have := (ha p hp').1
    omega
  · show zych l (P x + zft (fun i => zych l (P x + i) ≠ 48 + p) n 0) - 48 = p
    rw [h2.2]
    omega
/-- what the generators' stage brings -/
theorem zpg_ok {l : List Int32} {n : Nat} : ∀ (j x p : Nat) (P : Nat → Nat), x + j ≤ 3 → p ≤ l.length → (∀ y, y < x → zfg l n (P y) = n) → ∀ {q g : Nat} {Q : Nat → Nat}, zpg l n j x p P = .inr (q, g, Q) → x ≤ g ∧ g ≤ 3 ∧ q ≤ l.length ∧ ∀ y, y < g → zfg l n (Q y) = n
  | 0, x, p, P, hx, hp, h, q, g, Q, e => by
    have e' : (Sum.inr (p, x, P) : Nat ⊕ Nat × Nat × (Nat → Nat)) = .inr (q, g, Q) := e
    cases e'
    exact ⟨by omega, by omega, hp, h⟩
  | j + 1, x, p, P, hx, hp, h, q, g, Q, e => by
    by_cases h1 : zych l (zsk l p) = 97 + x
    · by_cases h2 : zfg l n (zsk l p + 1) = n
      · rw [zpg, zif_t h1, zif_t h2] at e
        have hle : zsk l p + 1 + n ≤ l.length := by
          have h0 := (zych_lt (l := l) (p := zsk l p) (by omega))
          by_cases hn : n = 0
          · omega
          · have := zfg_all h2 (j := n - 1) (by omega)
            have := zych_lt (l := l) (p := zsk l p + 1 + (n - 1)) (by unfold zygd at this; omega)
            omega
        obtain ⟨a1, a2, a3⟩ := zpg_ok j (x + 1) _ _ (by omega) hle (fun y hy => by
          show zfg l n (if y = x then zsk l p + 1 else P y) = n
          split
          · exact h2
          · exact h y (by omega)) e
        exact ⟨Nat.le_trans (Nat.le_succ x) a1, a2, a3⟩
      · rw [zpg, zif_t h1, zif_f h2] at e
        cases e
    · rw [zpg, zif_f h1] at e
      cases e
      exact ⟨by omega, by omega, (zsk_le hp).2, h⟩
