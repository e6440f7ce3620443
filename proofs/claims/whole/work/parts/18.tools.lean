/-! tools: what holds of the answer -/
/-- from a point on it comes to an answer of which Q holds -/
def zW (y : Nat) (x : zm_St) (Q : zm_Out → Prop) : Prop := ∃ out, zm_go zp_P y x out ∧ Q out
def zE (y : Nat) (b : Option (zm_St ⊕ zm_Out)) (Q : zm_Out → Prop) : Prop := match b with
  | none => False
  | some (.inl x) => zW y x Q
  | some (.inr o) => Q o
def zS (y : Nat) (av : List Value) (σ : zm_Sig) (Q : zm_Out → Prop) : Prop := ∃ out, zM y av zL σ = some out ∧ Q out
theorem zE_l {y : Nat} {x : zm_St} {Q : zm_Out → Prop} : zE y (some (.inl x)) Q = zW y x Q := rfl
theorem zE_r {y : Nat} {o : zm_Out} {Q : zm_Out → Prop} : zE y (some (.inr o)) Q = Q o := rfl
theorem zW_of {y : Nat} {x : zm_St} {b : Option (zm_St ⊕ zm_Out)} {Q : zm_Out → Prop} (hg : ∀ {out : zm_Out} {r : zm_St ⊕ zm_Out}, b = some r → zm_end zp_P y out r → zm_go zp_P y x out) (h : zE y b Q) : zW y x Q := by
  cases b with
  | none => exact False.elim h
  | some r =>
    cases r with
    | inl x' =>
      obtain ⟨o, h1, h2⟩ := h
      exact ⟨o, hg rfl h1, h2⟩
    | inr o => exact ⟨o, hg rfl rfl, h⟩
theorem zS_of {y : Nat} {av : List Value} {σ : zm_Sig} {b : Option (zm_St ⊕ zm_Out)} {Q : zm_Out → Prop} (hg : ∀ {out : zm_Out} {r : zm_St ⊕ zm_Out}, b = some r → zm_end zp_P y out r → zM y av zL σ = some out) (h : zE y b Q) : zS y av σ Q := by
  cases b with
  | none => exact False.elim h
  | some r =>
    cases r with
    | inl x' =>
      obtain ⟨o, h1, h2⟩ := h
      exact ⟨o, hg rfl h1, h2⟩
    | inr o => exact ⟨o, hg rfl rfl, h⟩
theorem zS_eq {y : Nat} {av : List Value} {σ : zm_Sig} {o : zm_Out} (h : zS y av σ (fun q => q = o)) : zM y av zL σ = some o := by
  obtain ⟨q, h1, rfl⟩ := h
  exact h1
theorem zS_ex {y : Nat} {av : List Value} {σ : zm_Sig} {a : Option Value} {P : zm_Sig → Prop} (h : zS y av σ (fun q => ∃ σ', q = (a, zL, σ') ∧ P σ')) : ∃ σ', zM y av zL σ = some (a, zL, σ') ∧ P σ' := by
  obtain ⟨q, h1, σ', rfl, h2⟩ := h
  exact ⟨σ', h1, h2⟩
/-- a loop of n turns -/
theorem zloop {y : Nat} {Q : zm_Out → Prop} (X : Nat → zm_Sig → zm_St) (I : Nat → zm_Sig → Prop) (n : Nat)
    (step : ∀ (i : Nat) (σ : zm_Sig), i < n → I i σ → (∀ σ', I (i + 1) σ' → zW y (X (i + 1) σ') Q) → zW y (X i σ) Q)
    (last : ∀ σ, I n σ → zW y (X n σ) Q) : ∀ (i : Nat) (σ : zm_Sig), i ≤ n → I i σ → zW y (X i σ) Q := by
  intro i σ hi
  generalize hd : n - i = d
  induction d generalizing i σ with
  | zero =>
    have : i = n := by omega
    subst this
    exact last σ
  | succ d ih => exact fun h => step i σ (by omega) h fun σ' h' => ih (i + 1) σ' (by omega) (by omega) h'
/-- numbers -/
theorem zn0 : (0 : Int32) = nI 0 := nI_0.symm
theorem zn1 : (1 : Int32) = nI 1 := rfl
theorem zT_le {a b : Int32} : (a ≤ b) = (a.toInt ≤ b.toInt) := propext Int32.le_iff_toInt_le
theorem zT_lt {a b : Int32} : (a < b) = (a.toInt < b.toInt) := propext Int32.lt_iff_toInt_lt
theorem zT_eq {a b : Int32} : (a = b) = (a.toInt = b.toInt) := propext Int32.toInt_inj.symm
theorem zT_m1 : (-1 : Int32).toInt = -1 := by decide
theorem zT_sub {a b : Nat} (ha : a < 2 ^ 30) (hb : b < 2 ^ 30) : (nI a - nI b).toInt = (a : Int) - b := pk_sub_toInt ha hb
theorem zT_neg {a : Nat} (ha : a < 2 ^ 30) : (-nI a).toInt = -(a : Int) := by
  have h := pk_sub_toInt (a := 0) (b := a) (by decide) ha
  rw [nI_0, Int32.zero_sub] at h
  rw [h]
  omega
theorem zne1 {a : Nat} (ha : a < 2 ^ 31) : (nI a = -nI 1) = False := eq_false fun e => by
  have := congrArg Int32.toInt e
  rw [nI_toInt ha, zT_neg (by decide)] at this
  omega
theorem zne2 {a : Nat} (ha : a < 2 ^ 31) : (-nI 1 = nI a) = False := eq_false fun e => by
  have := congrArg Int32.toInt e
  rw [nI_toInt ha, zT_neg (by decide)] at this
  omega
theorem zrem (a d : Nat) : nI a - nI (a / d * d) = nI (a % d) := by
  rw [pk_sub (Nat.div_mul_le_self a d)]
  congr 1
  have := Nat.div_add_mod a d
  rw [Nat.mul_comm] at this
  omega
theorem zpm1 (n : Nat) : nI (n + 1) + -nI 1 = nI n := pk_m1 n
theorem zne9 {a : Nat} (ha : a < 2 ^ 31) : (nI a = -9) = False := eq_false fun e => by
  have := congrArg Int32.toInt e
  rw [nI_toInt ha] at this
  have h9 : (-9 : Int32).toInt = -9 := by decide
  omega
theorem zadd0 (x : Int32) : x + nI 0 = x := by rw [nI_0, Int32.add_zero]
/-- a boolean answer -/
noncomputable def zB (p : Prop) : Int32 := @ite Int32 p (Classical.propDecidable p) (nI 1) (nI 0)
theorem zB_t {p : Prop} (h : p) : zB p = nI 1 := if_pos h
theorem zB_f {p : Prop} (h : ¬ p) : zB p = nI 0 := if_neg h
theorem zB_T : zB True = nI 1 := zB_t trivial
theorem zB_F : zB False = nI 0 := zB_f id
theorem zB_0 {p : Prop} : (zB p = nI 0) = ¬ p := by
  by_cases h : p
  · rw [zB_t h]; exact propext ⟨fun e => absurd e (by decide), fun e => absurd h e⟩
  · rw [zB_f h]; exact propext ⟨fun _ => h, fun _ => rfl⟩
theorem zB_1 {p : Prop} : (zB p = nI 1) = p := by
  by_cases h : p
  · rw [zB_t h]; exact propext ⟨fun _ => h, fun _ => rfl⟩
  · rw [zB_f h]; exact propext ⟨fun e => absurd e (by decide), fun e => absurd e h⟩
theorem zB_ok {p : Prop} : (zB p = nI 0 ∨ zB p = nI 1) = True := by
  rw [zB_0, zB_1]
  exact eq_true (Classical.em p).symm
theorem zB_i0 {α : Type} {p : Prop} {d : Decidable (zB p = nI 0)} (a b : α) : @ite α (zB p = nI 0) d a b = @ite α p (Classical.propDecidable p) b a := by
  by_cases h : p
  · rw [if_pos h, if_neg (by rw [zB_0]; exact not_not_intro h)]
  · rw [if_neg h, if_pos (by rw [zB_0]; exact h)]
theorem zB_i1 {α : Type} {p : Prop} {d : Decidable (zB p = nI 1)} (a b : α) : @ite α (zB p = nI 1) d a b = @ite α p (Classical.propDecidable p) a b := by
  by_cases h : p
  · rw [if_pos h, if_pos (by rw [zB_1]; exact h)]
  · rw [if_neg h, if_neg (by rw [zB_1]; exact h)]
theorem zB_c {p q : Prop} (h : p ↔ q) : zB p = zB q := congrArg zB (propext h)
/-- for all before k -/
def zAll (P : Nat → Prop) (k : Nat) : Prop := ∀ j, j < k → P j
theorem zAll_0 (P : Nat → Prop) : zAll P 0 = True := eq_true fun j h => by cases h
theorem zAll_s (P : Nat → Prop) (k : Nat) : zAll P (k + 1) = (zAll P k ∧ P k) := propext ⟨fun h => ⟨fun j hj => h j (by omega), h k (by omega)⟩, fun h j hj => by
  by_cases e : j = k
  · rw [e]; exact h.2
  · exact h.1 j (by omega)⟩
/-- some one before k -/
def zAny (P : Nat → Prop) (k : Nat) : Prop := ∃ j, j < k ∧ P j
theorem zAny_0 (P : Nat → Prop) : zAny P 0 = False := eq_false fun ⟨j, h, _⟩ => by cases h
theorem zAny_s (P : Nat → Prop) (k : Nat) : zAny P (k + 1) = (zAny P k ∨ P k) := propext ⟨fun ⟨j, hj, h⟩ => by
  by_cases e : j = k
  · rw [← e]; exact Or.inr h
  · exact Or.inl ⟨j, by omega, h⟩, fun h => by
  rcases h with ⟨j, hj, h⟩ | h
  · exact ⟨j, by omega, h⟩
  · exact ⟨k, by omega, h⟩⟩
/-- a loop that only reads -/
theorem zloopP {y : Nat} {Q : zm_Out → Prop} (X : Nat → zm_St) (J : Nat → Prop) (n : Nat)
    (step : ∀ k, k < n → J k → (J (k + 1) → zW y (X (k + 1)) Q) → zW y (X k) Q) (last : J n → zW y (X n) Q) (h0 : J 0) : zW y (X 0) Q := by
  have key : ∀ d k, n - k = d → k ≤ n → J k → zW y (X k) Q := by
    intro d
    induction d with
    | zero =>
      intro k h1 h2
      have : k = n := by omega
      subst this
      exact last
    | succ d ih => exact fun k h1 h2 h3 => step k (by omega) h3 (ih (k + 1) (by omega) (by omega))
  exact key (n - 0) 0 rfl (Nat.zero_le _) h0
/-- an Int32 against 0 .. N -/
theorem z_cs (x : Int32) (N : Nat) (hN : N < 1000000) : (x.toInt < 0 ∨ (N : Int) < x.toInt) ∨ ∃ j, j ≤ N ∧ x = nI j := by
  rcases z_ix x N hN with (h | h) | ⟨j, hj, rfl⟩
  · exact Or.inl (Or.inl (Int32.lt_iff_toInt_lt.mp h))
  · refine Or.inl (Or.inr ?_)
    have := Int32.lt_iff_toInt_lt.mp h
    rw [nI_toInt (by omega)] at this
    exact this
  · exact Or.inr ⟨j, by omega, rfl⟩
/-- what stays: S tells which slots may change -/
def zKeep (S : Nat → Nat → Bool) (σ σ' : zm_Sig) : Prop := ∀ a k, S a k = false → σ'.1 a k = σ.1 a k ∧ σ'.2.1 a k = σ.2.1 a k ∧ σ'.2.2 a k = σ.2.2 a k
theorem zKeep.i {S : Nat → Nat → Bool} {σ σ' : zm_Sig} (h : zKeep S σ σ') {a k : Nat} (e : S a k = false) : σ'.1 a k = σ.1 a k := (h a k e).1
theorem zKeep.l {S : Nat → Nat → Bool} {σ σ' : zm_Sig} (h : zKeep S σ σ') {a k : Nat} (e : S a k = false) : σ'.2.1 a k = σ.2.1 a k := (h a k e).2.1
theorem zKeep.r {S : Nat → Nat → Bool} {σ σ' : zm_Sig} (h : zKeep S σ σ') {a k : Nat} (e : S a k = false) : σ'.2.2 a k = σ.2.2 a k := (h a k e).2.2
theorem zKeep.rf (S : Nat → Nat → Bool) (σ : zm_Sig) : zKeep S σ σ := fun _ _ _ => ⟨rfl, rfl, rfl⟩
theorem zKeep.tr {S : Nat → Nat → Bool} {a b c : zm_Sig} (h1 : zKeep S a b) (h2 : zKeep S b c) : zKeep S a c := fun x k h => ⟨(h2.i h).trans (h1.i h), (h2.l h).trans (h1.l h), (h2.r h).trans (h1.r h)⟩
theorem zKeep.mo {S T : Nat → Nat → Bool} {a b : zm_Sig} (h1 : zKeep S a b) (h : ∀ x k, S x k = true → T x k = true) : zKeep T a b := fun x k hx => h1 x k (by
  cases e : S x k with
  | false => rfl
  | true => rw [h x k e] at hx; cases hx)
theorem zKeep.wI {S : Nat → Nat → Bool} {σ σ' : zm_Sig} (h : zKeep S σ σ') {a i : Nat} {v : Int32} (hn : S a i = true) : zKeep S σ (zm_wI σ' a i v) := fun b k hb => ⟨by
  rw [zw_ne]
  · exact h.i hb
  · by_cases e : b = a
    · refine Or.inr fun e2 => ?_
      rw [e, e2, hn] at hb
      cases hb
    · exact Or.inl e, h.l hb, h.r hb⟩
theorem zKeep.wF {S : Nat → Nat → Bool} {σ σ' : zm_Sig} (h : zKeep S σ σ') {a : Nat} {g : Nat → Int32} (hn : ∀ k, S a k = true) : zKeep S σ (zm_wF σ' a g) := fun b k hb => ⟨by
  by_cases e : b = a
  · rw [e, hn] at hb
    cases hb
  · rw [zF_ne _ _ e]
    exact h.i hb, h.l hb, h.r hb⟩
theorem zKeep.wR {S : Nat → Nat → Bool} {σ σ' : zm_Sig} (h : zKeep S σ σ') {a i : Nat} {v : Option Nat} (hn : S a i = true) : zKeep S σ (zm_wR σ' a i v) := fun b k hb => ⟨h.i hb, h.l hb, by
  by_cases e : b = a
  · subst e
    by_cases e2 : k = i
    · subst e2
      rw [hn] at hb
      cases hb
    · simp only [zm_wR, va_up, if_true, if_neg e2]
      exact h.r hb
  · simp only [zm_wR, va_up, if_neg e]
    exact h.r hb⟩
theorem zKeep.wL {S : Nat → Nat → Bool} {σ σ' : zm_Sig} (h : zKeep S σ σ') {a i : Nat} {v : Int64} (hn : S a i = true) : zKeep S σ (zm_wL σ' a i v) := fun b k hb => ⟨h.i hb, by
  by_cases e : b = a
  · subst e
    by_cases e2 : k = i
    · subst e2
      rw [hn] at hb
      cases hb
    · simp only [zm_wL, va_up, vp_updL, if_true, if_neg e2]
      exact h.l hb
  · simp only [zm_wL, va_up, if_neg e]
    exact h.l hb, h.r hb⟩
theorem zKeep.fix {S : Nat → Nat → Bool} {σ σ' : zm_Sig} (h : zKeep S σ σ') (hF : zFix σ) (hS : zFx.all (fun q => !S q.1 q.2.1) = true) : zFix σ' := fun q hq => by
  have := List.all_eq_true.mp hS q hq
  rw [h.r (by simpa using this)]
  exact hF q hq
theorem zKeep.cell {S : Nat → Nat → Bool} {σ σ' : zm_Sig} (h : zKeep S σ σ') {a : Nat} (hn : ∀ k, S a k = false) : σ'.1 a = σ.1 a := funext fun k => h.i (hn k)
