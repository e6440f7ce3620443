theorem zm_gI_spec {lay : zm_Lay} {σ : zm_Sig} {a : Nat} {i v : Int32} (h : zm_gI lay σ a i = some v) : ∃ n, lay[a]? = some (1, n) ∧ vp_in i n ∧ v = σ.1 a i.toNatClampNeg := by
  unfold zm_gI at h
  split at h
  · next n hn =>
    split at h
    · cases h
    · next hi => cases h; exact ⟨n, hn, hi, rfl⟩
  · cases h
theorem zm_gZ_spec {lay : zm_Lay} {σ : zm_Sig} {a : Nat} {i v : Int32} (h : zm_gZ lay σ a i = some v) : ∃ n, lay[a]? = some (3, n) ∧ vp_in i n ∧ v = σ.1 a i.toNatClampNeg := by
  unfold zm_gZ at h
  split at h
  · next n hn =>
    split at h
    · cases h
    · next hi => cases h; exact ⟨n, hn, hi, rfl⟩
  · cases h
theorem zm_gL_spec {lay : zm_Lay} {σ : zm_Sig} {a : Nat} {i : Int32} {v : Int64} (h : zm_gL lay σ a i = some v) : ∃ n, lay[a]? = some (2, n) ∧ vp_in i n ∧ v = σ.2.1 a i.toNatClampNeg := by
  unfold zm_gL at h
  split at h
  · next n hn =>
    split at h
    · cases h
    · next hi => cases h; exact ⟨n, hn, hi, rfl⟩
  · cases h
theorem zm_fk_sp {β : Type} {σ : zm_Sig} {a k t : Nat} {K : Value → Option β} {r : β} (h : zm_fk σ a k t K = some r) : K (zm_fv σ a k t) = some r := by
  unfold zm_fk at h
  unfold zm_fv
  split at h
  · next e => rw [if_pos e]; exact h
  · next e =>
    rw [if_neg e]
    split at h
    · next e => rw [if_pos e]; exact h
    · next e =>
      rw [if_neg e]
      split at h <;> (cases hq : σ.2.2 a k with
        | none => rw [hq] at h; first | exact h | cases h
        | some q => rw [hq] at h; exact h)
theorem zm_fv_min (σ : zm_Sig) (a k t : Nat) : zm_fv σ a k t = zm_fv σ a k (min t 2) := by
  unfold zm_fv
  match t with
  | 0 => rfl
  | 1 => rfl
  | t + 2 => simp [show min (t + 2) 2 = 2 by omega]
theorem zm_gR_spec {lay : zm_Lay} {σ : zm_Sig} {a : Nat} {i : Int32} {v : Option Nat} (h : zm_gR lay σ a i = some v) : ∃ n, (lay[a]? = some (4, n) ∨ lay[a]? = some (5, n)) ∧ vp_in i n ∧ v = σ.2.2 a i.toNatClampNeg := by
  unfold zm_gR at h
  split at h
  · next n hn =>
    split at h
    · cases h
    · next hi => cases h; exact ⟨n, Or.inl hn, hi, rfl⟩
  · next n hn =>
    split at h
    · cases h
    · next hi => cases h; exact ⟨n, Or.inr hn, hi, rfl⟩
  · cases h
theorem zm_sI_spec {lay : zm_Lay} {σ σ1 : zm_Sig} {a : Nat} {i v : Int32} (h : zm_sI lay σ a i v = some σ1) : ∃ n, lay[a]? = some (1, n) ∧ vp_in i n ∧ σ1 = zm_wI σ a i.toNatClampNeg v := by
  unfold zm_sI at h
  split at h
  · next n hn =>
    split at h
    · cases h
    · next hi => cases h; exact ⟨n, hn, hi, rfl⟩
  · cases h
theorem zm_sZ_spec {lay : zm_Lay} {σ σ1 : zm_Sig} {a : Nat} {i v : Int32} (h : zm_sZ lay σ a i v = some σ1) : ∃ n, lay[a]? = some (3, n) ∧ vp_in i n ∧ σ1 = zm_wI σ a i.toNatClampNeg (vp_nar .boolean v) := by
  unfold zm_sZ at h
  split at h
  · next n hn =>
    split at h
    · cases h
    · next hi => cases h; exact ⟨n, hn, hi, rfl⟩
  · cases h
theorem zm_sL_spec {lay : zm_Lay} {σ σ1 : zm_Sig} {a : Nat} {i : Int32} {v : Int64} (h : zm_sL lay σ a i v = some σ1) : ∃ n, lay[a]? = some (2, n) ∧ vp_in i n ∧ σ1 = zm_wL σ a i.toNatClampNeg v := by
  unfold zm_sL at h
  split at h
  · next n hn =>
    split at h
    · cases h
    · next hi => cases h; exact ⟨n, hn, hi, rfl⟩
  · cases h
theorem zm_sR_spec {lay : zm_Lay} {σ σ1 : zm_Sig} {a v : Nat} {i : Int32} (h : zm_sR lay σ a i v = some σ1) : ∃ n k, ((lay[a]? = some (4, n) ∧ lay[v]? = some (1, k)) ∨ (lay[a]? = some (5, n) ∧ lay[v]? = some (0, 6))) ∧ vp_in i n ∧ σ1 = zm_wR σ a i.toNatClampNeg (some v) := by
  unfold zm_sR at h
  split at h
  · next n k hn hk =>
    split at h
    · cases h
    · next hi => cases h; exact ⟨n, k, Or.inl ⟨hn, hk⟩, hi, rfl⟩
  · next n k hn hk =>
    split at h
    · next hc =>
      split at h
      · cases h
      · next hi => cases h; subst hc; exact ⟨n, 6, Or.inr ⟨hn, hk⟩, hi, rfl⟩
    · cases h
  · cases h
theorem zm_is_spec {lay : zm_Lay} {a c : Nat} {u : Unit} (h : zm_is lay a c = some u) : lay[a]? = some (0, c) := by
  unfold zm_is at h
  split at h
  · next d hd =>
    split at h
    · next e => subst e; exact hd
    · cases h
  · cases h
theorem zm_len_spec {lay : zm_Lay} {a : Nat} {v : Int32} (h : zm_len lay a = some v) : ∃ k n, lay[a]? = some (k + 1, n) ∧ v = Int32.ofNat n := by
  unfold zm_len at h
  split at h
  · cases h
  · next k n hne hn =>
    cases h
    cases k with
    | zero => exact (hne rfl).elim
    | succ k => exact ⟨k, n, hn, rfl⟩
  · cases h
theorem zm_tb_spec {β : Type} {pc : Nat} {x : Int32} {k : Nat → Option β} {d : Nat} {out : β} : ∀ (offs : List Int) (key : Int) (ps : List Nat), zm_tb pc offs key ps = true → 0 ≤ key → key + offs.length ≤ 2147483648 → zm_sw x k ps d = some out →
    (∃ (i : Nat) (o : Int) (t : Nat), offs[i]? = some o ∧ x.toInt = key + i ∧ (pc : Int) + o = (t : Int) ∧ k t = some out) ∨ ((x.toInt < key ∨ key + offs.length ≤ x.toInt) ∧ k d = some out)
  | [], key, [], _, _, _, h => Or.inr ⟨by simp; omega, h⟩
  | [], _, _ :: _, h, _, _, _ => by simp [zm_tb] at h
  | _ :: _, _, [], h, _, _, _ => by simp [zm_tb] at h
  | _ :: _, _, [_], h, _, _, _ => by simp [zm_tb] at h
  | o :: r, key, v :: t :: ps, hb, h0, h1, h => by
    simp only [zm_tb, Bool.and_eq_true, decide_eq_true_eq] at hb
    obtain ⟨⟨hv, ht⟩, hr⟩ := hb
    simp only [List.length_cons, Int.natCast_add, Int.natCast_one] at h1
    have hvx : (Int32.ofNat v).toInt = key := by rw [← hv]; exact nI_toInt (by omega)
    unfold zm_sw at h
    split at h
    · next hx => exact Or.inl ⟨0, o, t, rfl, by rw [hx, hvx]; simp, ht, h⟩
    · next hx =>
      have hne : x.toInt ≠ key := fun q => hx (Int32.toInt_inj.mp (by rw [hvx]; exact q))
      rcases zm_tb_spec r (key + 1) ps hr (by omega) (by omega) h with ⟨i, o', t', e1, e2, e3, e4⟩ | ⟨e1, e2⟩
      · exact Or.inl ⟨i + 1, o', t', by simpa using e1, by rw [e2]; push_cast; omega, e3, e4⟩
      · refine Or.inr ⟨?_, e2⟩
        simp only [List.length_cons, Int.natCast_add, Int.natCast_one]
        omega
theorem zm_lk_spec {β : Type} {pc : Nat} {x : Int32} {k : Nat → Option β} {d : Int} {dd : Nat} {out : β} (hd : (pc : Int) + d = (dd : Int)) : ∀ (qs : List (Int × Int)) (ps : List Nat), zm_lk pc qs ps = true → zm_sw x k ps dd = some out →
    ∃ t : Nat, (pc : Int) + Op.lookupswitch.offset qs d x.toInt = (t : Int) ∧ k t = some out
  | [], [], _, h => ⟨dd, by simpa [Op.lookupswitch.offset] using hd, h⟩
  | [], _ :: _, h, _ => by simp [zm_lk] at h
  | _ :: _, [], h, _ => by simp [zm_lk] at h
  | _ :: _, [_], h, _ => by simp [zm_lk] at h
  | q :: r, v :: t :: ps, hb, h => by
    simp only [zm_lk, Bool.and_eq_true, decide_eq_true_eq] at hb
    obtain ⟨⟨⟨hv, hv2⟩, ht⟩, hr⟩ := hb
    have hvx : (Int32.ofNat v).toInt = q.1 := by rw [← hv]; exact nI_toInt (by omega)
    unfold zm_sw at h
    split at h
    · next hx => exact ⟨t, by rw [Op.lookupswitch.offset_cons, if_pos (by rw [hx, hvx])]; exact ht, h⟩
    · next hx =>
      obtain ⟨t', e1, e2⟩ := zm_lk_spec hd r ps hr h
      refine ⟨t', ?_, e2⟩
      rw [Op.lookupswitch.offset_cons, if_neg]
      · exact e1
      · intro q'
        exact hx (Int32.toInt_inj.mp (by rw [hvx]; exact q'.symm))
