/-! the tree, as a value -/
abbrev zT : Type := Nat × (Nat → Nat) × (Nat → Int32) × (Nat → Int32) × (Nat → Nat) × (Nat → Nat)
def zMet (t : zT) (p : Nat) : Prop := p = 0 ∨ 0 < t.2.2.2.2.1 p
def zt0 : zT := (1, fun _ => 0, fun _ => -9, fun _ => -9, fun _ => 0, fun _ => 0)
def zup {α : Type} (f : Nat → α) (q : Nat) (v : α) : Nat → α := fun p => if p = q then v else f p
theorem zup_s {α : Type} (f : Nat → α) (q : Nat) (v : α) : zup f q v q = v := if_pos rfl
theorem zup_n {α : Type} (f : Nat → α) {p q : Nat} (v : α) (h : p ≠ q) : zup f q v p = f p := if_neg h
def zreach (t : zT) (q k : Nat) (v : Int32) : zT := (t.1 + 1, zup t.2.1 t.1 q, zup t.2.2.1 q (nI k), zup t.2.2.2.1 q v, zup t.2.2.2.2.1 q (t.2.2.2.2.1 k + 1), zup t.2.2.2.2.2 q t.1)
def zTi (G : zG) (t : zT) : Prop := (1 ≤ t.1 ∧ t.2.1 0 = 0 ∧ t.2.2.1 0 = -9 ∧ t.2.2.2.1 0 = -9 ∧ t.2.2.2.2.1 0 = 0 ∧ t.2.2.2.2.2 0 = 0) ∧ (∀ i, i < t.1 → t.2.1 i < G.1 ∧ zMet t (t.2.1 i) ∧ t.2.2.2.2.2 (t.2.1 i) = i) ∧ (∀ p, zMet t p → t.2.2.2.2.2 p < t.1 ∧ t.2.1 (t.2.2.2.2.2 p) = p) ∧ (∀ p, zMet t p → p ≠ 0 → ∃ k v, zMet t k ∧ t.2.2.1 p = nI k ∧ t.2.2.2.1 p = v ∧ zLt G.2.1 v ∧ zmv G k v = p ∧ t.2.2.2.2.1 p = t.2.2.2.2.1 k + 1 ∧ t.2.2.2.2.2 k < t.2.2.2.2.2 p) ∧ ∀ p, zMet t p → t.2.2.2.2.1 p ≤ t.2.2.2.2.2 p
theorem zpig : ∀ (m c : Nat) (f : Nat → Nat), (∀ i, i < c → f i < m) → (∀ i j, i < c → j < c → f i = f j → i = j) → c ≤ m
  | 0, c, f, h1, h2 => by
    rcases Nat.eq_zero_or_pos c with h | h
    · omega
    · have := h1 0 h; omega
  | m + 1, c, f, h1, h2 => by
    rcases Nat.eq_zero_or_pos c with h | h
    · omega
    · by_cases hq : ∃ i, i < c ∧ f i = m
      · obtain ⟨i0, hi0, e0⟩ := hq
        have : c - 1 ≤ m := zpig m (c - 1) (fun i => if i < i0 then f i else f (i + 1)) (fun i hi => by
          show (if i < i0 then f i else f (i + 1)) < m
          split
          · have a := h1 i (by omega)
            have b : f i ≠ m := fun e => by have := h2 i i0 (by omega) hi0 (by omega); omega
            omega
          · have a := h1 (i + 1) (by omega)
            have b : f (i + 1) ≠ m := fun e => by have := h2 (i + 1) i0 (by omega) hi0 (by omega); omega
            omega) (fun i j hi hj e => by
          have e' : (if i < i0 then f i else f (i + 1)) = (if j < i0 then f j else f (j + 1)) := e
          by_cases a : i < i0 <;> by_cases b : j < i0
          · rw [if_pos a, if_pos b] at e'; exact h2 i j (by omega) (by omega) e'
          · rw [if_pos a, if_neg b] at e'; have := h2 i (j + 1) (by omega) (by omega) e'; omega
          · rw [if_neg a, if_pos b] at e'; have := h2 (i + 1) j (by omega) (by omega) e'; omega
          · rw [if_neg a, if_neg b] at e'; have := h2 (i + 1) (j + 1) (by omega) (by omega) e'; omega)
        omega
      · have := zpig m c f (fun i hi => by
          have a := h1 i hi
          have b : f i ≠ m := fun e => hq ⟨i, hi, e⟩
          omega) h2
        omega
theorem zTi.inj {G : zG} {t : zT} (h : zTi G t) {i j : Nat} (hi : i < t.1) (hj : j < t.1) (e : t.2.1 i = t.2.1 j) : i = j := by
  have a := (h.2.1 i hi).2.2
  have b := (h.2.1 j hj).2.2
  rw [e] at a
  omega
theorem zTi.lt {G : zG} {t : zT} (h : zTi G t) {p : Nat} (hp : zMet t p) : p < G.1 := by
  obtain ⟨a, b⟩ := h.2.2.1 p hp
  have := (h.2.1 _ a).1
  rw [b] at this
  exact this
theorem zTi.cnt {G : zG} {t : zT} (h : zTi G t) : t.1 ≤ G.1 := zpig G.1 t.1 t.2.1 (fun i hi => (h.2.1 i hi).1) (fun i j hi hj e => h.inj hi hj e)
theorem zTi.new {G : zG} {t : zT} (h : zTi G t) {q : Nat} (hq : q < G.1) (hn : ¬ zMet t q) : t.1 + 1 ≤ G.1 := by
  refine zpig G.1 (t.1 + 1) (fun i => if i < t.1 then t.2.1 i else q) (fun i hi => ?_) (fun i j hi hj e => ?_)
  · show (if i < t.1 then t.2.1 i else q) < G.1
    split
    · next c => exact (h.2.1 i c).1
    · exact hq
  · have e' : (if i < t.1 then t.2.1 i else q) = (if j < t.1 then t.2.1 j else q) := e
    by_cases a : i < t.1 <;> by_cases b : j < t.1
    · rw [if_pos a, if_pos b] at e'; exact h.inj a b e'
    · rw [if_pos a, if_neg b] at e'; exact absurd (by rw [← e']; exact (h.2.1 i a).2.1) hn
    · rw [if_neg a, if_pos b] at e'; exact absurd (by rw [e']; exact (h.2.1 j b).2.1) hn
    · omega
theorem zTi.all {G : zG} {t : zT} (h : zTi G t) (ha : ∀ p, p < G.1 → zMet t p) : t.1 = G.1 := by
  have h1 := h.cnt
  have h2 : G.1 ≤ t.1 := zpig t.1 G.1 t.2.2.2.2.2 (fun p hp => (h.2.2.1 p (ha p hp)).1) (fun p q hp hq e => by
    have a := (h.2.2.1 p (ha p hp)).2
    have b := (h.2.2.1 q (ha q hq)).2
    rw [e] at a
    omega)
  omega
theorem zMet_reach {t : zT} {q k p : Nat} {v : Int32} : zMet (zreach t q k v) p ↔ zMet t p ∨ p = q := by
  unfold zMet zreach
  simp only
  by_cases e : p = q
  · subst e
    rw [zup_s]
    constructor
    · exact fun _ => Or.inr rfl
    · exact fun _ => Or.inr (by omega)
  · rw [zup_n _ _ e]
    constructor
    · exact fun h => Or.inl h
    · exact fun h => h.elim id (fun c => absurd c e)
theorem zTi.reach {G : zG} {t : zT} (h : zTi G t) {q k : Nat} {v : Int32} (hq : q < G.1) (hn : ¬ zMet t q) (hk : zMet t k) (hv : zLt G.2.1 v) (hm : zmv G k v = q) : zTi G (zreach t q k v) := by
  obtain ⟨⟨a1, a2, a3, a4, a5, a6⟩, b, c, d, e⟩ := h
  have q0 : q ≠ 0 := fun e => hn (Or.inl e)
  have ne : ∀ p, zMet t p → p ≠ q := fun p hp e => hn (e ▸ hp)
  refine ⟨⟨by show 1 ≤ t.1 + 1; omega, ?_, ?_, ?_, ?_, ?_⟩, fun i hi => ?_, fun p hp => ?_, fun p hp hp0 => ?_, fun p hp => ?_⟩
  · show zup t.2.1 t.1 q 0 = 0
    rw [zup_n _ _ (by omega)]; exact a2
  · show zup t.2.2.1 q (nI k) 0 = -9
    rw [zup_n _ _ (by omega)]; exact a3
  · show zup t.2.2.2.1 q v 0 = -9
    rw [zup_n _ _ (by omega)]; exact a4
  · show zup t.2.2.2.2.1 q _ 0 = 0
    rw [zup_n _ _ (by omega)]; exact a5
  · show zup t.2.2.2.2.2 q _ 0 = 0
    rw [zup_n _ _ (by omega)]; exact a6
  · have hi' : i < t.1 + 1 := hi
    show zup t.2.1 t.1 q i < G.1 ∧ zMet (zreach t q k v) (zup t.2.1 t.1 q i) ∧ zup t.2.2.2.2.2 q t.1 (zup t.2.1 t.1 q i) = i
    by_cases ei : i = t.1
    · subst ei
      rw [zup_s, zup_s]
      exact ⟨hq, zMet_reach.mpr (Or.inr rfl), rfl⟩
    · rw [zup_n _ _ ei]
      obtain ⟨b1, b2, b3⟩ := b i (by omega)
      rw [zup_n _ _ (ne _ b2)]
      exact ⟨b1, zMet_reach.mpr (Or.inl b2), b3⟩
  · show zup t.2.2.2.2.2 q t.1 p < t.1 + 1 ∧ zup t.2.1 t.1 q (zup t.2.2.2.2.2 q t.1 p) = p
    rcases zMet_reach.mp hp with hp | hp
    · rw [zup_n _ _ (ne _ hp)]
      obtain ⟨c1, c2⟩ := c p hp
      rw [zup_n _ _ (by omega)]
      exact ⟨by omega, c2⟩
    · rw [hp, zup_s, zup_s]
      exact ⟨by omega, rfl⟩
  · rcases zMet_reach.mp hp with hp | hp
    · obtain ⟨k', v', d1, d2, d3, d4, d5, d6, d7⟩ := d p hp hp0
      refine ⟨k', v', zMet_reach.mpr (Or.inl d1), ?_, ?_, d4, d5, ?_, ?_⟩
      · show zup t.2.2.1 q (nI k) p = _
        rw [zup_n _ _ (ne _ hp)]; exact d2
      · show zup t.2.2.2.1 q v p = _
        rw [zup_n _ _ (ne _ hp)]; exact d3
      · show zup t.2.2.2.2.1 q _ p = zup t.2.2.2.2.1 q _ k' + 1
        rw [zup_n _ _ (ne _ hp), zup_n _ _ (ne _ d1)]; exact d6
      · show zup t.2.2.2.2.2 q _ k' < zup t.2.2.2.2.2 q _ p
        rw [zup_n _ _ (ne _ hp), zup_n _ _ (ne _ d1)]; exact d7
    · subst hp
      refine ⟨k, v, zMet_reach.mpr (Or.inl hk), ?_, ?_, hv, hm, ?_, ?_⟩
      · show zup t.2.2.1 p (nI k) p = _
        rw [zup_s]
      · show zup t.2.2.2.1 p v p = _
        rw [zup_s]
      · show zup t.2.2.2.2.1 p _ p = zup t.2.2.2.2.1 p _ k + 1
        rw [zup_s, zup_n _ _ (ne _ hk)]
      · show zup t.2.2.2.2.2 p _ k < zup t.2.2.2.2.2 p _ p
        rw [zup_s, zup_n _ _ (ne _ hk)]
        exact (c k hk).1
  · show zup t.2.2.2.2.1 q _ p ≤ zup t.2.2.2.2.2 q _ p
    rcases zMet_reach.mp hp with hp | hp
    · rw [zup_n _ _ (ne _ hp), zup_n _ _ (ne _ hp)]; exact e p hp
    · rw [hp, zup_s, zup_s]
      have := e k hk
      have := (c k hk).1
      omega
theorem zTi.zero {G : zG} (h : 1 ≤ G.1) : zTi G zt0 := by
  have m0 : ∀ p, zMet zt0 p → p = 0 := fun p hp => hp.elim id (fun q => absurd q (Nat.lt_irrefl 0))
  refine ⟨⟨Nat.le_refl _, rfl, rfl, rfl, rfl, rfl⟩, fun i hi => ⟨h, Or.inl rfl, ?_⟩, fun p hp => ⟨Nat.lt_succ_self 0, (m0 p hp).symm⟩, fun p hp h0 => absurd (m0 p hp) h0, fun p hp => Nat.le_refl 0⟩
  have hi' : i < 1 := hi
  show 0 = i
  omega
/-- broad -/
def zlv (G : zG) (lt l : Nat) : Int32 := zlt (if lt = 0 then l else 2 * G.2.1 - 1 - l)
theorem zlv_ok {G : zG} {lt l : Nat} (h : l < 2 * G.2.1) : zLt G.2.1 (zlv G lt l) := by
  unfold zlv
  split
  · exact zlt_ok h
  · exact zlt_ok (by omega)
noncomputable def zbs (G : zG) (lt k : Nat) (t : zT) (l : Nat) : zT := @ite _ (zMet t (zmv G k (zlv G lt l))) (Classical.propDecidable _) t (zreach t (zmv G k (zlv G lt l)) k (zlv G lt l))
theorem zbs_m {G : zG} {lt k : Nat} {t : zT} {l : Nat} (h : zMet t (zmv G k (zlv G lt l))) : zbs G lt k t l = t := if_pos h
theorem zbs_n {G : zG} {lt k : Nat} {t : zT} {l : Nat} (h : ¬ zMet t (zmv G k (zlv G lt l))) : zbs G lt k t l = zreach t (zmv G k (zlv G lt l)) k (zlv G lt l) := if_neg h
noncomputable def zbi (G : zG) (lt k : Nat) (t : zT) : Nat → zT
  | 0 => t
  | m + 1 => zbs G lt k (zbi G lt k t m) m
noncomputable def zbl (G : zG) (lt : Nat) : Nat → Nat → zT → zT
  | 0, _, t => t
  | d + 1, i, t => if i < t.1 then zbl G lt d (i + 1) (zbi G lt (t.2.1 i) t (2 * G.2.1)) else t
/-- grows: all that was met is met, rows stay -/
def zGe (t t' : zT) : Prop := t.1 ≤ t'.1 ∧ (∀ p, zMet t p → zMet t' p) ∧ ∀ i, i < t.1 → t'.2.1 i = t.2.1 i
theorem zGe.rf (t : zT) : zGe t t := ⟨Nat.le_refl _, fun _ h => h, fun _ _ => rfl⟩
theorem zGe.tr {a b c : zT} (h1 : zGe a b) (h2 : zGe b c) : zGe a c := ⟨Nat.le_trans h1.1 h2.1, fun p h => h2.2.1 p (h1.2.1 p h), fun i hi => (h2.2.2 i (by have := h1.1; omega)).trans (h1.2.2 i hi)⟩
theorem zGe.reach (t : zT) (q k : Nat) (v : Int32) : zGe t (zreach t q k v) := ⟨by show t.1 ≤ t.1 + 1; omega, fun p h => zMet_reach.mpr (Or.inl h), fun i hi => by
  show zup t.2.1 t.1 q i = t.2.1 i
  rw [zup_n _ _ (by omega)]⟩
theorem zbs_ok {G : zG} {lt k l : Nat} {t : zT} (hv : zGv G) (h : zTi G t) (hk : zMet t k) (hl : l < 2 * G.2.1) : zTi G (zbs G lt k t l) ∧ zGe t (zbs G lt k t l) ∧ zMet (zbs G lt k t l) (zmv G k (zlv G lt l)) := by
  have hz := zlv_ok (G := G) (lt := lt) hl
  by_cases e : zMet t (zmv G k (zlv G lt l))
  · rw [zbs_m e]; exact ⟨h, zGe.rf t, e⟩
  · rw [zbs_n e]
    exact ⟨h.reach (zmv_lt hv (h.lt hk) hz) e hk hz rfl, zGe.reach _ _ _ _, zMet_reach.mpr (Or.inr rfl)⟩
theorem zbi_ok {G : zG} {lt k : Nat} {t : zT} (hv : zGv G) (h : zTi G t) (hk : zMet t k) : ∀ m, m ≤ 2 * G.2.1 → zTi G (zbi G lt k t m) ∧ zGe t (zbi G lt k t m) ∧ ∀ l, l < m → zMet (zbi G lt k t m) (zmv G k (zlv G lt l))
  | 0, _ => ⟨h, zGe.rf t, fun l hl => by cases hl⟩
  | m + 1, hm => by
    obtain ⟨h1, h2, h3⟩ := zbi_ok hv h hk m (by omega)
    obtain ⟨g1, g2, g3⟩ := zbs_ok (lt := lt) hv h1 (h2.2.1 k hk) (show m < 2 * G.2.1 by omega)
    refine ⟨g1, h2.tr g2, fun l hl => ?_⟩
    by_cases e : l = m
    · rw [e]; exact g3
    · exact g2.2.1 _ (h3 l (by omega))
/-- all neighbours are met -/
def zDone (G : zG) (t : zT) (p : Nat) : Prop := ∀ l, l < 2 * G.2.1 → zMet t (zmv G p (zlt l))
theorem zDone_lv {G : zG} {lt : Nat} {t : zT} {p : Nat} (h : ∀ l, l < 2 * G.2.1 → zMet t (zmv G p (zlv G lt l))) : zDone G t p := fun l hl => by
  by_cases e : lt = 0
  · have := h l hl
    unfold zlv at this
    rw [if_pos e] at this
    exact this
  · have := h (2 * G.2.1 - 1 - l) (by omega)
    unfold zlv at this
    rw [if_neg e, show 2 * G.2.1 - 1 - (2 * G.2.1 - 1 - l) = l by omega] at this
    exact this
def zTr (G : zG) : Prop := ∀ P : Nat → Prop, P 0 → (∀ p, p < G.1 → P p → ∀ x, x < G.2.1 → P (G.2.2.1 x p)) → ∀ p, p < G.1 → P p
theorem zTr.met {G : zG} {t : zT} (h : zTr G) (hv : zGv G) (hd : ∀ p, zMet t p → zDone G t p) : ∀ p, p < G.1 → zMet t p :=
  h (zMet t) (Or.inl rfl) fun p hp hm x hx => by
    have := hd p hm (2 * x) (by omega)
    unfold zlt at this
    rw [if_pos (by omega), show 2 * x / 2 = x by omega, zmv_p _ _ (by have := hv.2.1; omega)] at this
    exact this
theorem zbl_ok {G : zG} {lt : Nat} (hv : zGv G) : ∀ (d i : Nat) (t : zT), i + d = 5 → zTi G t → (∀ j, j < i → j < t.1 → zDone G t (t.2.1 j)) → zTi G (zbl G lt d i t) ∧ zGe t (zbl G lt d i t) ∧ ∀ p, zMet (zbl G lt d i t) p → zDone G (zbl G lt d i t) p
  | 0, i, t, hi, h, hd => by
    refine ⟨h, zGe.rf t, fun p hp => ?_⟩
    obtain ⟨a, b⟩ := h.2.2.1 p hp
    have hc := h.cnt
    have hc2 := hv.1
    have := hd (t.2.2.2.2.2 p) (by omega) a
    rw [b] at this
    exact this
  | d + 1, i, t, hi, h, hd => by
    unfold zbl
    split
    · next c =>
      obtain ⟨h1, h2, h3⟩ := zbi_ok (lt := lt) hv h (h.2.1 i c).2.1 (2 * G.2.1) (Nat.le_refl _)
      obtain ⟨g1, g2, g3⟩ := zbl_ok (lt := lt) hv d (i + 1) _ (by omega) h1 (fun j hj hj2 => by
        by_cases e : j = i
        · rw [e, h2.2.2 i c]; exact zDone_lv h3
        · have hj3 : j < t.1 := by omega
          rw [h2.2.2 j hj3]
          exact fun l hl => h2.2.1 _ (hd j (by omega) hj3 l hl))
      exact ⟨g1, h2.tr g2, g3⟩
    · next c =>
      refine ⟨h, zGe.rf t, fun p hp => ?_⟩
      obtain ⟨a, b⟩ := h.2.2.1 p hp
      have := hd (t.2.2.2.2.2 p) (by omega) a
      rw [b] at this
      exact this
/-- deep -/
noncomputable def zltn (G : zG) (t : zT) (k : Nat) : Option Nat := zfirst (fun l => ¬ zMet t (zmv G k (zlt l))) (2 * G.2.1)
def zpar (t : zT) (k : Nat) : Nat := if 0 ≤ (t.2.2.1 k).toInt then (t.2.2.1 k).toNatClampNeg else k
noncomputable def zds (G : zG) (s : zT × Nat) : zT × Nat := match zltn G s.1 s.2 with
  | some l => (zreach s.1 (zmv G s.2 (zlt l)) s.2 (zlt l), zmv G s.2 (zlt l))
  | none => (s.1, zpar s.1 s.2)
noncomputable def zdi (G : zG) : Nat → zT × Nat
  | 0 => (zt0, 0)
  | m + 1 => zds G (zdi G m)
/-- the way back to the first point -/
def zStk (t : zT) : Nat → List Nat → Prop
  | k, [] => False
  | k, p :: s => p = k ∧ ((k = 0 ∧ s = []) ∨ (k ≠ 0 ∧ zStk t (zpar t k) s))
theorem zStk_mono {t t' : zT} (hm : ∀ p, zMet t p → p ≠ 0 → zpar t' p = zpar t p) (hp : ∀ p, zMet t p → p ≠ 0 → zMet t (zpar t p)) : ∀ (s : List Nat) (k : Nat), zMet t k → zStk t k s → zStk t' k s
  | [], _, _, h => h
  | p :: s, k, hk, h => by
    obtain ⟨e, h | h⟩ := h
    · exact ⟨e, Or.inl h⟩
    · refine ⟨e, Or.inr ⟨h.1, ?_⟩⟩
      rw [hm k hk h.1]
      exact zStk_mono hm hp s _ (hp k hk h.1) h.2
theorem zTi.par {G : zG} {t : zT} (hv : zGv G) (h : zTi G t) {p : Nat} (hp : zMet t p) (h0 : p ≠ 0) : zMet t (zpar t p) ∧ t.2.2.2.2.1 p = t.2.2.2.2.1 (zpar t p) + 1 ∧ t.2.2.1 p = nI (zpar t p) := by
  obtain ⟨k, v, d1, d2, d3, d4, d5, d6, d7⟩ := h.2.2.2.1 p hp h0
  have hk := h.lt d1
  have := hv.1
  have e : zpar t p = k := by
    unfold zpar
    rw [d2, if_pos (by rw [nI_toInt (by omega)]; omega), nI_clamp (by omega)]
  rw [e]
  exact ⟨d1, d6, d2⟩
theorem zTi.par0 {G : zG} {t : zT} (h : zTi G t) : zpar t 0 = 0 := by
  unfold zpar
  rw [h.1.2.2.1]
  decide
def zDi (G : zG) (m : Nat) (s : zT × Nat) : Prop := zTi G s.1 ∧ zMet s.1 s.2 ∧ (∃ st, zStk s.1 s.2 st ∧ ∀ p, zMet s.1 p → p ∈ st ∨ zDone G s.1 p) ∧ (s.1.1 < G.1 → 2 * s.1.1 = m + 2 + s.1.2.2.2.2.1 s.2)
theorem zltn_none {G : zG} {t : zT} {k : Nat} (h : zltn G t k = none) : zDone G t k := fun l hl => by
  refine Classical.byContradiction fun q => ?_
  have : ∃ l, l < 2 * G.2.1 ∧ ¬ zMet t (zmv G k (zlt l)) ∧ ∀ j, j < l → ¬ ¬ zMet t (zmv G k (zlt j)) := by
    have key : ∀ m, m ≤ 2 * G.2.1 → (∃ l, l < m ∧ ¬ zMet t (zmv G k (zlt l))) → ∃ l, l < 2 * G.2.1 ∧ ¬ zMet t (zmv G k (zlt l)) ∧ ∀ j, j < l → ¬ ¬ zMet t (zmv G k (zlt j)) := by
      intro m
      induction m with
      | zero => rintro _ ⟨l, hl, _⟩; cases hl
      | succ m ih =>
        intro hm hx
        by_cases c : ∃ l, l < m ∧ ¬ zMet t (zmv G k (zlt l))
        · exact ih (by omega) c
        · obtain ⟨l, hl, hn⟩ := hx
          have : l = m := by
            refine Classical.byContradiction fun e => c ⟨l, by omega, hn⟩
          subst this
          exact ⟨l, by omega, hn, fun j hj hq => c ⟨j, hj, hq⟩⟩
    exact key (2 * G.2.1) (Nat.le_refl _) ⟨l, hl, q⟩
  obtain ⟨l', a, b, c⟩ := this
  have e := zfirst_yes (P := fun l => ¬ zMet t (zmv G k (zlt l))) b c a
  unfold zltn at h
  rw [e] at h
  cases h
theorem zds_ok {G : zG} {m : Nat} {s : zT × Nat} (hv : zGv G) (htr : zTr G) (h : zDi G m s) : zDi G (m + 1) (zds G s) := by
  obtain ⟨hT, hk, ⟨st, hs, hd⟩, hc⟩ := h
  unfold zds
  split
  · next l hl =>
    obtain ⟨a, b⟩ := zfirst_sp hl
    have hz := zlt_ok a
    have hq := zmv_lt hv (hT.lt hk) hz
    have hT2 := hT.reach hq b hk hz rfl
    have hp2 : ∀ p, zMet s.1 p → p ≠ 0 → zpar (zreach s.1 (zmv G s.2 (zlt l)) s.2 (zlt l)) p = zpar s.1 p := fun p hp hp0 => by
      unfold zpar
      have : (zreach s.1 (zmv G s.2 (zlt l)) s.2 (zlt l)).2.2.1 p = s.1.2.2.1 p := zup_n _ _ (fun e => b (e ▸ hp))
      rw [this]
    have q0 : zmv G s.2 (zlt l) ≠ 0 := fun e => b (Or.inl e)
    refine ⟨hT2, zMet_reach.mpr (Or.inr rfl), ⟨zmv G s.2 (zlt l) :: st, ⟨rfl, Or.inr ⟨q0, ?_⟩⟩, fun p hp => ?_⟩, fun hn => ?_⟩
    · have e : zpar (zreach s.1 (zmv G s.2 (zlt l)) s.2 (zlt l)) (zmv G s.2 (zlt l)) = s.2 := by
        have hlt := hT.lt hk
        have h5 := hv.1
        unfold zpar
        have : (zreach s.1 (zmv G s.2 (zlt l)) s.2 (zlt l)).2.2.1 (zmv G s.2 (zlt l)) = nI s.2 := zup_s _ _ _
        rw [this, if_pos (by rw [nI_toInt (by omega)]; omega), nI_clamp (by omega)]
      rw [e]
      exact zStk_mono hp2 (fun p hp h0 => (hT.par hv hp h0).1) st s.2 hk hs
    · rcases zMet_reach.mp hp with hp | hp
      · rcases hd p hp with q | q
        · exact Or.inl (List.mem_cons_of_mem _ q)
        · exact Or.inr fun l hl => zMet_reach.mpr (Or.inl (q l hl))
      · exact Or.inl (by rw [hp]; exact List.mem_cons_self)
    · have h1 : (zreach s.1 (zmv G s.2 (zlt l)) s.2 (zlt l)).1 = s.1.1 + 1 := rfl
      have h2 : (zreach s.1 (zmv G s.2 (zlt l)) s.2 (zlt l)).2.2.2.2.1 (zmv G s.2 (zlt l)) = s.1.2.2.2.2.1 s.2 + 1 := zup_s _ _ _
      have h3 : s.1.1 + 1 < G.1 := hn
      have := hc (by omega)
      show 2 * (s.1.1 + 1) = m + 1 + 2 + (zreach s.1 (zmv G s.2 (zlt l)) s.2 (zlt l)).2.2.2.2.1 (zmv G s.2 (zlt l))
      rw [h2]
      omega
  · next hl =>
    have hdk := zltn_none hl
    by_cases k0 : s.2 = 0
    · have e0 : zpar s.1 s.2 = 0 := by rw [k0]; exact hT.par0
      have hdall : ∀ p, zMet s.1 p → zDone G s.1 p := fun p hp => by
        rcases hd p hp with q | q
        · cases st with
          | nil => exact False.elim hs
          | cons p' s' =>
            obtain ⟨e, h | h⟩ := hs
            · rw [h.2] at q
              have : p = p' := by simpa using q
              rw [this, e]
              exact hdk
            · exact absurd k0 h.1
        · exact q
      have hall := hT.all (htr.met hv hdall)
      refine ⟨hT, by rw [e0]; exact Or.inl rfl, ⟨[0], ⟨by rw [e0], Or.inl ⟨e0, rfl⟩⟩, fun p hp => Or.inr (hdall p hp)⟩, fun hn => ?_⟩
      have : s.1.1 < G.1 := hn
      omega
    · obtain ⟨g1, g2, g3⟩ := hT.par hv hk k0
      refine ⟨hT, g1, ?_, fun hn => ?_⟩
      · cases st with
        | nil => exact False.elim hs
        | cons p' s' =>
          obtain ⟨e, h | h⟩ := hs
          · exact absurd h.1 k0
          · refine ⟨s', h.2, fun p hp => ?_⟩
            rcases hd p hp with q | q
            · rcases List.mem_cons.mp q with q | q
              · exact Or.inr (by rw [q, e]; exact hdk)
              · exact Or.inl q
            · exact Or.inr q
      · have := hc hn
        show 2 * s.1.1 = m + 1 + 2 + s.1.2.2.2.2.1 (zpar s.1 s.2)
        omega
theorem zdi_ok {G : zG} (hv : zGv G) (htr : zTr G) (hn : 1 ≤ G.1) : ∀ m, zDi G m (zdi G m)
  | 0 => ⟨zTi.zero hn, Or.inl rfl, ⟨[0], ⟨rfl, Or.inl ⟨rfl, rfl⟩⟩, fun p hp => Or.inl (by
      have : p = 0 := hp.elim id (fun q => absurd q (Nat.lt_irrefl 0))
      rw [this]
      exact List.mem_cons_self)⟩, fun _ => rfl⟩
  | m + 1 => zds_ok hv htr (zdi_ok hv htr hn m)
theorem zdi_full {G : zG} (hv : zGv G) (htr : zTr G) (hn : 1 ≤ G.1) {m : Nat} (hm : 7 ≤ m) : (zdi G m).1.1 = G.1 := by
  obtain ⟨hT, -, -, hc⟩ := zdi_ok hv htr hn m
  have h1 := hT.cnt
  have := hv.1
  refine Classical.byContradiction fun q => ?_
  have := hc (by omega)
  omega
theorem zall_met {G : zG} {t : zT} (hT : zTi G t) (hc : t.1 = G.1) {p : Nat} (hp : p < G.1) : zMet t p := by
  refine Classical.byContradiction fun q => ?_
  have := hT.new hp q
  omega
theorem zds_full {G : zG} {s : zT × Nat} (hv : zGv G) (hT : zTi G s.1) (hk : zMet s.1 s.2) (hc : s.1.1 = G.1) : (zds G s).1 = s.1 := by
  unfold zds
  split
  · next l hl =>
    obtain ⟨a, b⟩ := zfirst_sp hl
    exact absurd (zall_met hT hc (zmv_lt hv (hT.lt hk) (zlt_ok a))) b
  · rfl
theorem zdi_stay {G : zG} (hv : zGv G) (htr : zTr G) (hn : 1 ≤ G.1) {m : Nat} (hc : (zdi G m).1.1 = G.1) : ∀ d, (zdi G (m + d)).1 = (zdi G m).1
  | 0 => rfl
  | d + 1 => by
    have ih := zdi_stay hv htr hn hc d
    obtain ⟨hT, hk, -, -⟩ := zdi_ok hv htr hn (m + d)
    show (zds G (zdi G (m + d))).1 = _
    rw [zds_full hv hT hk (by rw [ih]; exact hc)]
    exact ih
/-- the tree by an order -/
noncomputable def ztree (G : zG) (o : Nat) : zT := if o = 2 then (zdi G 10).1 else zbl G (if o = 1 then 1 else 0) 5 0 zt0
theorem ztree_ok {G : zG} (hv : zGv G) (htr : zTr G) (hn : 1 ≤ G.1) (o : Nat) : zTi G (ztree G o) ∧ (∀ p, p < G.1 → zMet (ztree G o) p) ∧ (ztree G o).1 = G.1 := by
  have key : ∀ t, zTi G t → (∀ p, p < G.1 → zMet t p) → zTi G t ∧ (∀ p, p < G.1 → zMet t p) ∧ t.1 = G.1 := fun t h1 h2 => ⟨h1, h2, h1.all h2⟩
  unfold ztree
  split
  · obtain ⟨hT, -, -, -⟩ := zdi_ok hv htr hn 10
    exact key _ hT fun p hp => zall_met hT (zdi_full hv htr hn (by omega)) hp
  · obtain ⟨h1, h2, h3⟩ := zbl_ok (lt := if o = 1 then 1 else 0) hv 5 0 zt0 rfl (zTi.zero hn) (fun j hj => by cases hj)
    exact key _ h1 (htr.met hv h3)
