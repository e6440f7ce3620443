/-! words as lists: reduced, turned over -/
def zRed (w : List Int32) : Prop := ∀ (u v : List Int32) (x : Int32), w ≠ u ++ x :: (-x) :: v
theorem zRed.nil : zRed [] := fun u v x h => by
  have := congrArg List.length h
  simp at this
theorem zRed.one (a : Int32) : zRed [a] := fun u v x h => by
  have := congrArg List.length h
  simp at this
  omega
theorem zRed.pre {u v : List Int32} (h : zRed (u ++ v)) : zRed u := fun a b x e => h a (b ++ v) x (by rw [e]; simp)
theorem zRed.suf {u v : List Int32} (h : zRed (u ++ v)) : zRed v := fun a b x e => h (u ++ a) b x (by rw [e]; simp)
theorem zRed.app {w : List Int32} {v : Int32} (h : zRed w) (hl : w.getLast? ≠ some (-v)) : zRed (w ++ [v]) := fun a b x e => by
  rcases List.eq_nil_or_concat b with rfl | ⟨b', l, rfl⟩
  · have e2 : w ++ [v] = (a ++ [x]) ++ [-x] := by rw [e]; simp
    obtain ⟨e3, e4⟩ := List.append_inj' e2 rfl
    injection e4 with e4
    apply hl
    rw [e3, e4, Int32.neg_neg]
    simp
  · have e2 : w ++ [v] = (a ++ x :: (-x) :: b') ++ [l] := by rw [e]; simp
    exact h a b' x (List.append_inj' e2 rfl).1
theorem zpush_red {w : List Int32} (h : zRed w) (v : Int32) : zRed (zpush w v) := by
  unfold zpush
  split
  · rcases List.eq_nil_or_concat w with rfl | ⟨w', l, rfl⟩
    · exact h
    · rw [List.concat_eq_append, List.dropLast_concat]
      rw [List.concat_eq_append] at h
      exact h.pre
  · next hl => exact h.app hl
theorem zpush_snoc_eq (w : List Int32) (v : Int32) : zpush (w ++ [-v]) v = w := by
  unfold zpush
  rw [if_pos (by simp), List.dropLast_concat]
theorem zpush_two {w : List Int32} (h : zRed w) (x : Int32) : zpush (zpush w x) (-x) = w := by
  by_cases hl : w.getLast? = some (-x)
  · rcases List.eq_nil_or_concat w with rfl | ⟨w', l, rfl⟩
    · cases hl
    · rw [List.concat_eq_append] at hl h ⊢
      have : l = -x := by simpa using hl
      subst this
      rw [zpush_snoc_eq]
      unfold zpush
      rw [if_neg]
      intro hq
      rcases List.eq_nil_or_concat w' with rfl | ⟨w2, l2, rfl⟩
      · cases hq
      · rw [List.concat_eq_append] at hq h
        have e : l2 = x := by simpa [Int32.neg_neg] using hq
        subst e
        exact h w2 [] l2 (by simp)
  · have e : zpush w x = w ++ [x] := if_neg hl
    rw [e]
    have := zpush_snoc_eq w (-x)
    rw [Int32.neg_neg] at this
    exact this
theorem zfold_red {l : List Int32} : ∀ {w : List Int32}, zRed w → zRed (l.foldl zpush w) := by
  induction l with
  | nil => exact fun h => h
  | cons a l ih => exact fun h => ih (zpush_red h a)
def zred (l : List Int32) : List Int32 := l.foldl zpush []
theorem zred_red (l : List Int32) : zRed (zred l) := zfold_red zRed.nil
theorem zred_snoc (l : List Int32) (x : Int32) : zred (l ++ [x]) = zpush (zred l) x := by
  unfold zred
  rw [List.foldl_append]
  rfl
/-- induction from the right -/
theorem zsnoc_ind {P : List Int32 → Prop} (h0 : P []) (h1 : ∀ l x, P l → P (l ++ [x])) (l : List Int32) : P l := by
  have : ∀ (n : Nat) (l : List Int32), l.length = n → P l := by
    intro n
    induction n with
    | zero => intro l hl; rw [List.length_eq_zero_iff.mp hl]; exact h0
    | succ n ih =>
      intro l hl
      rcases List.eq_nil_or_concat l with rfl | ⟨l', x, rfl⟩
      · exact h0
      · rw [List.concat_eq_append]
        refine h1 l' x (ih l' ?_)
        simp at hl
        exact hl
  exact this l.length l rfl
theorem zfold_zred {w : List Int32} (hw : zRed w) (l : List Int32) : l.foldl zpush w = (zred l).foldl zpush w := by
  refine zsnoc_ind (P := fun l => l.foldl zpush w = (zred l).foldl zpush w) rfl (fun l x ih => ?_) l
  rw [List.foldl_append, ih, zred_snoc]
  show zpush (List.foldl zpush w (zred l)) x = _
  by_cases hl : (zred l).getLast? = some (-x)
  · rcases List.eq_nil_or_concat (zred l) with e | ⟨u, y, e⟩
    · rw [e] at hl; cases hl
    · rw [e, List.concat_eq_append] at hl ⊢
      have : y = -x := by simpa using hl
      subst this
      rw [zpush_snoc_eq, List.foldl_append]
      have := zpush_two (zfold_red (l := u) hw) (-x)
      rw [Int32.neg_neg] at this
      exact this
  · have e : zpush (zred l) x = zred l ++ [x] := if_neg hl
    rw [e, List.foldl_append]
    rfl
theorem zfold_app {w l : List Int32} (h : zRed (w ++ l)) : l.foldl zpush w = w ++ l := by
  induction l generalizing w with
  | nil => simp
  | cons a l ih =>
    have h2 : zRed ((w ++ [a]) ++ l) := by simpa using h
    have e : zpush w a = w ++ [a] := if_neg fun hq => by
      rcases List.eq_nil_or_concat w with rfl | ⟨w', y, rfl⟩
      · cases hq
      · rw [List.concat_eq_append] at hq h
        have : y = -a := by simpa using hq
        subst this
        exact h w' l (-a) (by rw [Int32.neg_neg]; simp)
    show List.foldl zpush (zpush w a) l = _
    rw [e, ih h2]
    simp
theorem zred_id {l : List Int32} (h : zRed l) : zred l = l := by
  have := zfold_app (w := []) (l := l) (by simpa using h)
  rw [List.nil_append] at this
  exact this
/-- turned over -/
def zinv (l : List Int32) : List Int32 := (l.map fun x => -x).reverse
theorem zinv_app (a b : List Int32) : zinv (a ++ b) = zinv b ++ zinv a := by simp [zinv]
theorem zinv_inv (a : List Int32) : zinv (zinv a) = a := by
  unfold zinv
  rw [List.map_reverse, List.reverse_reverse, List.map_map]
  have : (fun x : Int32 => -x) ∘ (fun x => -x) = id := by funext x; simp
  rw [this, List.map_id]
theorem zinv_len (a : List Int32) : (zinv a).length = a.length := by simp [zinv]
theorem zinv_red {l : List Int32} (h : zRed l) : zRed (zinv l) := fun u v x e => by
  have e2 := congrArg zinv e
  rw [zinv_inv, zinv_app] at e2
  have e3 : zinv (x :: (-x) :: v) = zinv v ++ [x, -x] := by simp [zinv]
  rw [e3] at e2
  exact h (zinv v) (zinv u) x (by rw [e2]; simp)
theorem zred_inv (l : List Int32) : zred (zinv l) = zinv (zred l) := by
  refine zsnoc_ind (P := fun l => zred (zinv l) = zinv (zred l)) rfl (fun l x ih => ?_) l
  rw [zinv_app]
  have e1 : zinv [x] = [-x] := rfl
  have e2 : zred ([-x] ++ zinv l) = (zinv l).foldl zpush [-x] := rfl
  rw [e1, e2, zfold_zred (zRed.one _), ih, zred_snoc]
  by_cases hl : (zred l).getLast? = some (-x)
  · rcases List.eq_nil_or_concat (zred l) with e | ⟨u, y, e⟩
    · rw [e] at hl; cases hl
    · have hr := zred_red l
      rw [e, List.concat_eq_append] at hl hr ⊢
      have : y = -x := by simpa using hl
      subst this
      rw [zpush_snoc_eq, zinv_app]
      have e3 : zinv [-x] = [x] := by simp [zinv]
      rw [e3]
      have e4 : zpush [-x] x = [] := zpush_snoc_eq [] x
      show List.foldl zpush (zpush [-x] x) (zinv u) = _
      rw [e4]
      exact zred_id (zinv_red hr.pre)
  · have e : zpush (zred l) x = zred l ++ [x] := if_neg hl
    rw [e, zinv_app, e1]
    refine zfold_app ?_
    rw [← e1, ← zinv_app]
    exact zinv_red ((zred_red l).app hl)
theorem zred_app (a b : List Int32) : zred (a ++ b) = b.foldl zpush (zred a) := by
  unfold zred
  rw [List.foldl_append]
theorem zpush_mem {w : List Int32} {v x : Int32} (h : x ∈ zpush w v) : x ∈ w ∨ x = v := by
  unfold zpush at h
  split at h
  · exact Or.inl (List.dropLast_subset w h)
  · simpa using h
theorem zfold_mem {l : List Int32} : ∀ {w : List Int32} {x : Int32}, x ∈ l.foldl zpush w → x ∈ w ∨ x ∈ l := by
  induction l with
  | nil => exact fun h => Or.inl h
  | cons a l ih =>
    intro w x h
    rcases ih h with h | h
    · rcases zpush_mem h with h | h
      · exact Or.inl h
      · exact Or.inr (by simp [h])
    · exact Or.inr (by simp [h])
theorem zfold_len (l : List Int32) : ∀ (w : List Int32), (l.foldl zpush w).length ≤ w.length + l.length := by
  induction l with
  | nil => intro w; simp
  | cons a l ih =>
    intro w
    have h1 := ih (zpush w a)
    have h2 := zpush_len w a
    simp only [List.foldl_cons, List.length_cons]
    omega
/-- the next one of a list -/
theorem ztake {α : Type} {l : List α} {i : Nat} (d : α) (h : i < l.length) : l.take (i + 1) = l.take i ++ [l.getD i d] := by
  rw [List.take_add_one, List.getD_eq_getElem?_getD, List.getElem?_eq_getElem h]
  rfl
theorem zdrop {α : Type} {l : List α} {i : Nat} (d : α) (h : i < l.length) : l.drop i = l.getD i d :: l.drop (i + 1) := by
  rw [List.getD_eq_getElem?_getD, List.getElem?_eq_getElem h]
  exact List.drop_eq_getElem_cons h
theorem zfold_take {β : Type} (f : β → Int32 → β) (b : β) {l : List Int32} {i : Nat} (h : i < l.length) : (l.take (i + 1)).foldl f b = f ((l.take i).foldl f b) (zat l i) := by
  rw [ztake 0 h, List.foldl_append]
  rfl
theorem zgetD_mem {α : Type} {l : List α} {i : Nat} (d : α) (h : i < l.length) : l.getD i d ∈ l := by
  rw [List.getD_eq_getElem?_getD, List.getElem?_eq_getElem h]
  exact List.getElem_mem h
theorem zget_set {α : Type} {l : List α} {i j : Nat} {a d : α} (hi : i < l.length) : (l.set i a).getD j d = if j = i then a else l.getD j d := by
  rw [List.getD_eq_getElem?_getD, List.getD_eq_getElem?_getD, List.getElem?_set]
  by_cases e : i = j
  · subst e; simp [hi]
  · rw [if_neg e, if_neg (fun q => e q.symm)]
theorem zlist_ext {α : Type} {a b : List α} (d : α) (hl : a.length = b.length) (h : ∀ i, i < a.length → a.getD i d = b.getD i d) : a = b := by
  refine List.ext_getElem hl fun i h1 h2 => ?_
  have := h i h1
  rw [List.getD_eq_getElem?_getD, List.getD_eq_getElem?_getD, List.getElem?_eq_getElem h1, List.getElem?_eq_getElem h2] at this
  exact this
