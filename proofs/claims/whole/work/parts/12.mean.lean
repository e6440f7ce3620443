/-! what a method means; blocks between cut points -/
abbrev zm_Res : Type := zm_St ⊕ zm_Out ⊕ (Nat × Nat × List Value × zm_Lay × zm_Sig × (zm_Out → zm_St))
def zm_el {β : Type} (kn : zm_St → Option β) (kr : zm_Out → Option β) (kc : Nat → Nat → List Value → zm_Lay → zm_Sig → (zm_Out → zm_St) → Option β) : zm_Res → Option β
  | .inl x => kn x
  | .inr (.inl o) => kr o
  | .inr (.inr (y, rk, av, lay, σ, f)) => kc y rk av lay σ f
abbrev zm_st1 (rt : Option FieldType) (cc cs : Nat) (pc : Nat) (ins : Instr) (rs : List Nat) (lo : List (Nat × Value)) (st : List Value) (lay : zm_Lay) (σ : zm_Sig) (nc ns : Nat) : Option zm_Res :=
  zm_stp rt cc cs pc ins rs lo st lay σ nc ns (fun x => some (.inl x)) (fun o => some (.inr (.inl o))) (fun y rk av lay σ f => some (.inr (.inr (y, rk, av, lay, σ, f))))
theorem zm_sw_nat {β : Type} {x : Int32} {k1 : Nat → Option zm_Res} {k2 : Nat → Option β} {g : zm_Res → Option β} (h : ∀ t, k2 t = (k1 t).bind g) : ∀ (ps : List Nat) (d : Nat), zm_sw x k2 ps d = (zm_sw x k1 ps d).bind g
  | [], d => h d
  | [_], d => h d
  | v :: t :: r, d => by
    unfold zm_sw
    split
    · exact h t
    · exact zm_sw_nat h r d
theorem zm_fk_nat {β : Type} (σ : zm_Sig) (a k t : Nat) {K1 : Value → Option zm_Res} {K2 : Value → Option β} {g : zm_Res → Option β} (h : ∀ v, K2 v = (K1 v).bind g) : zm_fk σ a k t K2 = (zm_fk σ a k t K1).bind g := by
  unfold zm_fk
  split
  · exact h _
  · split
    · exact h _
    · split <;> (cases σ.2.2 a k with
      | none => first | rfl | exact h _
      | some q => exact h _)
theorem zm_cnd_nat {β : Type} (c : ClassFile.Cond) (x y : Int32) {a b : Option zm_Res} {a2 b2 : Option β} {g : zm_Res → Option β} (h1 : a2 = a.bind g) (h2 : b2 = b.bind g) : zm_cnd c x y a2 b2 = (zm_cnd c x y a b).bind g := by
  subst h1; subst h2
  cases c <;> simp only [zm_cnd] <;> split <;> rfl
theorem zm_nat {β : Type} (rt : Option FieldType) (cc cs : Nat) (pc : Nat) (ins : Instr) (rs : List Nat) (lo : List (Nat × Value)) (st : List Value) (lay : zm_Lay) (σ : zm_Sig) (nc ns : Nat)
    (kn : zm_St → Option β) (kr : zm_Out → Option β) (kc : Nat → Nat → List Value → zm_Lay → zm_Sig → (zm_Out → zm_St) → Option β) :
    zm_stp rt cc cs pc ins rs lo st lay σ nc ns kn kr kc = (zm_st1 rt cc cs pc ins rs lo st lay σ nc ns).bind (zm_el kn kr kc) := by
  unfold zm_st1
  cases ins <;> simp only [zm_stp] <;> first
    | rfl
    | (repeat' (first | rfl | split)) <;> first
      | rfl
      | (simp only [Option.bind_assoc]; rfl)
      | (refine zm_sw_nat ?_ _ _; intro t; rfl)
      | exact zm_cnd_nat _ _ _ rfl rfl
      | (simp only [Option.bind_assoc]; congr 1; funext _; split <;> rfl)
      | (simp only [Option.bind_assoc]; congr 1; funext _; exact zm_fk_nat _ _ _ _ (fun _ => rfl))
      | (simp only [Option.bind_assoc]; congr 1; funext o; cases o <;> rfl)
/-- fuel -/
theorem zm_run_eq (P : Nat → Option zm_Mth) (n y : Nat) (x : zm_St) : zm_run P (n + 1) y x = (P y).bind fun M => (zm_find (zm_en M) x.1).bind fun e =>
    (zm_st1 (zm_rt M) (zm_ro M).2.2.1 (zm_ro M).2.2.2 x.1 e.2.1 e.2.2.2 x.2.1 x.2.2.1 x.2.2.2.1 x.2.2.2.2.1 x.2.2.2.2.2.1 x.2.2.2.2.2.2).bind
      (zm_el (fun x' => zm_run P n y (zm_nx (zm_cu M) x')) some (fun y' _ av lay σ f => (P y').bind fun N => if (lg_sl av).length ≤ zm_ml N then (zm_run P n y' (0, lv_args 0 av, [], lay, σ, 0, 0)).bind (fun o => zm_run P n y (zm_nx (zm_cu M) (f o))) else none)) := by
  conv => lhs; unfold zm_run
  simp only [zm_nat (β := zm_Out)]
theorem zm_mono {P : Nat → Option zm_Mth} : ∀ (n y : Nat) (x : zm_St) (out : zm_Out), zm_run P n y x = some out → zm_run P (n + 1) y x = some out
  | 0, _, _, _, h => by cases h
  | n + 1, y, x, out, h => by
    rw [zm_run_eq] at h ⊢
    obtain ⟨M, hM, h⟩ := Option.bind_eq_some_iff.mp h
    obtain ⟨e, he, h⟩ := Option.bind_eq_some_iff.mp h
    obtain ⟨r, hr, h⟩ := Option.bind_eq_some_iff.mp h
    rw [hM, Option.bind_some, he, Option.bind_some, hr, Option.bind_some]
    match r, h with
    | .inl x', h => exact zm_mono n y _ out h
    | .inr (.inl o), h => exact h
    | .inr (.inr (y', _, av, lay, σ, f)), h =>
      simp only [zm_el] at h ⊢
      obtain ⟨N, hN, h⟩ := Option.bind_eq_some_iff.mp h
      rw [hN, Option.bind_some]
      split at h
      · next hs =>
        rw [if_pos hs]
        obtain ⟨o, ho, h⟩ := Option.bind_eq_some_iff.mp h
        rw [zm_mono n y' _ o ho, Option.bind_some]
        exact zm_mono n y _ out h
      · cases h
theorem zm_mono_le {P : Nat → Option zm_Mth} {n k y : Nat} {x : zm_St} {out : zm_Out} (h : zm_run P n y x = some out) (hk : n ≤ k) : zm_run P k y x = some out := by
  induction hk with
  | refl => exact h
  | step _ ih => exact zm_mono _ _ _ _ ih
def zm_can (P : Nat → Option zm_Mth) (y : Nat) (av : List Value) (lay : zm_Lay) (σ : zm_Sig) (out : zm_Out) : Prop := ∃ (M : zm_Mth) (n : Nat), P y = some M ∧ (lg_sl av).length ≤ zm_ml M ∧ zm_run P n y (0, lv_args 0 av, [], lay, σ, 0, 0) = some out
theorem zm_can_one {P : Nat → Option zm_Mth} {y : Nat} {av : List Value} {lay : zm_Lay} {σ : zm_Sig} {o1 o2 : zm_Out} (h1 : zm_can P y av lay σ o1) (h2 : zm_can P y av lay σ o2) : o1 = o2 := by
  obtain ⟨_, n1, -, -, h1⟩ := h1
  obtain ⟨_, n2, -, -, h2⟩ := h2
  exact Option.some.inj ((zm_mono_le h1 (Nat.le_max_left n1 n2)).symm.trans (zm_mono_le h2 (Nat.le_max_right n1 n2)))
/-- what a method does: its answer and the memory behind it; none where it does not come to an end -/
noncomputable def zm_mean (P : Nat → Option zm_Mth) (y : Nat) (av : List Value) (lay : zm_Lay) (σ : zm_Sig) : Option zm_Out :=
  @dite _ (∃ out, zm_can P y av lay σ out) (Classical.propDecidable _) (fun h => some h.choose) (fun _ => none)
theorem zm_mean_of {P : Nat → Option zm_Mth} {y : Nat} {av : List Value} {lay : zm_Lay} {σ : zm_Sig} {out : zm_Out} (h : zm_can P y av lay σ out) : zm_mean P y av lay σ = some out := by
  unfold zm_mean
  rw [dif_pos ⟨out, h⟩]
  exact congrArg some (zm_can_one (Exists.choose_spec (p := zm_can P y av lay σ) ⟨out, h⟩) h)
theorem zm_can_of {P : Nat → Option zm_Mth} {y : Nat} {av : List Value} {lay : zm_Lay} {σ : zm_Sig} {out : zm_Out} (h : zm_mean P y av lay σ = some out) : zm_can P y av lay σ out := by
  unfold zm_mean at h
  split at h
  · next hq => cases h; exact hq.choose_spec
  · cases h
/-- from a point of a method on it comes to an answer -/
def zm_go (P : Nat → Option zm_Mth) (y : Nat) (x : zm_St) (out : zm_Out) : Prop := ∃ n, zm_run P n y x = some out
theorem zm_mean_go {P : Nat → Option zm_Mth} {y : Nat} {M : zm_Mth} {av : List Value} {lay : zm_Lay} {σ : zm_Sig} {out : zm_Out} (hM : P y = some M) (hs : (lg_sl av).length ≤ zm_ml M) (h : zm_go P y (0, lv_args 0 av, [], lay, σ, 0, 0) out) : zm_mean P y av lay σ = some out := by
  obtain ⟨n, h⟩ := h
  exact zm_mean_of ⟨M, n, hM, hs, h⟩
/-- a callee's answer by its kind -/
def zm_ai (o : Option zm_Out) : Option (Int32 × zm_Lay × zm_Sig) := match o with
  | some (some (.int v), l, s) => some (v, l, s)
  | _ => none
def zm_al (o : Option zm_Out) : Option (Int64 × zm_Lay × zm_Sig) := match o with
  | some (some (.long v), l, s) => some (v, l, s)
  | _ => none
def zm_av (o : Option zm_Out) : Option (zm_Lay × zm_Sig) := match o with
  | some (none, l, s) => some (l, s)
  | _ => none
/-- what is left behind a block -/
def zm_end (P : Nat → Option zm_Mth) (y : Nat) (out : zm_Out) (r : zm_St ⊕ zm_Out) : Prop := match r with
  | .inl x => zm_go P y x out
  | .inr o => o = out
/-- a block: up to the next cut point, or the answer; calls by what the callee means -/
def zm_bk (cu : List (Nat × List Nat)) (g : zm_St → Option (zm_St ⊕ zm_Out)) (x : zm_St) : Option (zm_St ⊕ zm_Out) := match zm_cut cu x.1 with
  | some live => some (.inl (x.1, zm_nrm x.2.1 live, x.2.2))
  | none => g x
def zm_ck (k : Nat) (o : Option zm_Out) (g : zm_Out → Option (zm_St ⊕ zm_Out)) : Option (zm_St ⊕ zm_Out) := match k with
  | 0 => (zm_av o).bind fun q => g (none, q.1, q.2)
  | 1 => (zm_ai o).bind fun q => g (some (.int q.1), q.2.1, q.2.2)
  | 2 => (zm_al o).bind fun q => g (some (.long q.1), q.2.1, q.2.2)
  | _ => none
/-- the entry at pc, and those behind it: looked for from a place on first -/
def zm_fnd : List zm_Ent → Nat → Option (zm_Ent × List zm_Ent)
  | [], _ => none
  | e :: r, pc => if e.1 = pc then some (e, r) else zm_fnd r pc
def zm_lkp (en sf : List zm_Ent) (pc : Nat) : Option (zm_Ent × List zm_Ent) := match zm_fnd sf pc with
  | some q => some q
  | none => zm_fnd en pc
def zm_srt : List zm_Ent → Bool
  | a :: b :: r => decide (a.1 < b.1) && zm_srt (b :: r)
  | _ => true
theorem zm_fnd_mem : ∀ {l : List zm_Ent} {pc : Nat} {e : zm_Ent} {r : List zm_Ent}, zm_fnd l pc = some (e, r) → e ∈ l ∧ e.1 = pc ∧ ∀ q ∈ r, q ∈ l
  | [], _, _, _, h => by cases h
  | a :: l, pc, e, r, h => by
    unfold zm_fnd at h
    split at h
    · next hq => cases h; exact ⟨List.mem_cons_self, hq, fun q hq => List.mem_cons_of_mem _ hq⟩
    · obtain ⟨h1, h2, h3⟩ := zm_fnd_mem h
      exact ⟨List.mem_cons_of_mem _ h1, h2, fun q hq => List.mem_cons_of_mem _ (h3 q hq)⟩
theorem zm_srt_lt : ∀ {l : List zm_Ent} {a : zm_Ent}, zm_srt (a :: l) = true → ∀ e ∈ l, a.1 < e.1
  | [], _, _, _, h => by cases h
  | b :: l, a, h, e, he => by
    simp only [zm_srt, Bool.and_eq_true, decide_eq_true_eq] at h
    rcases List.mem_cons.mp he with rfl | he
    · exact h.1
    · exact Nat.lt_trans h.1 (zm_srt_lt h.2 e he)
theorem zm_srt_tl {l : List zm_Ent} {a : zm_Ent} (h : zm_srt (a :: l) = true) : zm_srt l = true := by
  cases l with
  | nil => rfl
  | cons b r =>
    simp only [zm_srt, Bool.and_eq_true] at h
    exact h.2
theorem zm_find_of : ∀ {l : List zm_Ent}, zm_srt l = true → ∀ e ∈ l, zm_find l e.1 = some e
  | [], _, _, h => by cases h
  | a :: l, hs, e, he => by
    unfold zm_find
    rcases List.mem_cons.mp he with rfl | he
    · rw [if_pos rfl]
    · rw [if_neg (Nat.ne_of_lt (zm_srt_lt hs e he)), zm_find_of (zm_srt_tl hs) e he]
def zm_blk (mn : Nat → List Value → zm_Lay → zm_Sig → Option zm_Out) (en : List zm_Ent) (rt : Option FieldType) (cc cs : Nat) (cu : List (Nat × List Nat)) : Nat → List zm_Ent → zm_St → Option (zm_St ⊕ zm_Out)
  | 0, _, _ => none
  | n + 1, sf, x => (zm_lkp en sf x.1).bind fun e =>
    zm_stp rt cc cs x.1 e.1.2.1 e.1.2.2.2 x.2.1 x.2.2.1 x.2.2.2.1 x.2.2.2.2.1 x.2.2.2.2.2.1 x.2.2.2.2.2.2
      (zm_bk cu (zm_blk mn en rt cc cs cu n e.2)) (fun o => some (.inr o)) (fun y' rk av lay σ f => zm_ck rk (mn y' av lay σ) fun o => zm_bk cu (zm_blk mn en rt cc cs cu n e.2) (f o))
theorem zm_ck_spec {k : Nat} {o : Option zm_Out} {g : zm_Out → Option (zm_St ⊕ zm_Out)} {r : zm_St ⊕ zm_Out} (h : zm_ck k o g = some r) : ∃ q, o = some q ∧ g q = some r := by
  unfold zm_ck at h
  split at h
  · obtain ⟨q, hq, h⟩ := Option.bind_eq_some_iff.mp h
    unfold zm_av at hq
    split at hq
    · cases hq; exact ⟨_, rfl, h⟩
    · cases hq
  · obtain ⟨q, hq, h⟩ := Option.bind_eq_some_iff.mp h
    unfold zm_ai at hq
    split at hq
    · cases hq; exact ⟨_, rfl, h⟩
    · cases hq
  · obtain ⟨q, hq, h⟩ := Option.bind_eq_some_iff.mp h
    unfold zm_al at hq
    split at hq
    · cases hq; exact ⟨_, rfl, h⟩
    · cases hq
  · cases h
theorem zm_blk_go {P : Nat → Option zm_Mth} {y : Nat} {M : zm_Mth} (hM : P y = some M) (hsrt : zm_srt (zm_en M) = true) {out : zm_Out} : ∀ (n : Nat) (sf : List zm_Ent) (x : zm_St) (r : zm_St ⊕ zm_Out), (∀ e ∈ sf, e ∈ zm_en M) → zm_blk (zm_mean P) (zm_en M) (zm_rt M) (zm_ro M).2.2.1 (zm_ro M).2.2.2 (zm_cu M) n sf x = some r → zm_end P y out r → zm_go P y x out
  | 0, _, _, _, _, h, _ => by cases h
  | n + 1, sf, x, r, hsf, h, hg => by
    unfold zm_blk at h
    simp only [zm_nat (β := zm_St ⊕ zm_Out)] at h
    obtain ⟨⟨e, sf'⟩, he0, h⟩ := Option.bind_eq_some_iff.mp h
    obtain ⟨hmem, hpc, hsf'⟩ : e ∈ zm_en M ∧ e.1 = x.1 ∧ ∀ q ∈ sf', q ∈ zm_en M := by
      unfold zm_lkp at he0
      split at he0
      · next q hq =>
        cases he0
        obtain ⟨h1, h2, h3⟩ := zm_fnd_mem hq
        exact ⟨hsf _ h1, h2, fun q hq => hsf _ (h3 q hq)⟩
      · exact zm_fnd_mem he0
    have he : zm_find (zm_en M) x.1 = some e := by rw [← hpc]; exact zm_find_of hsrt e hmem
    obtain ⟨q, hq, h⟩ := Option.bind_eq_some_iff.mp h
    have key : ∀ (x' : zm_St), zm_bk (zm_cu M) (zm_blk (zm_mean P) (zm_en M) (zm_rt M) (zm_ro M).2.2.1 (zm_ro M).2.2.2 (zm_cu M) n sf') x' = some r → zm_go P y (zm_nx (zm_cu M) x') out := by
      intro x' h
      unfold zm_bk at h
      unfold zm_nx
      split at h
      · next live hl => rw [hl]; cases h; exact hg
      · next hl => rw [hl]; exact zm_blk_go hM hsrt n sf' x' r hsf' h hg
    match q, hq, h with
    | .inl x', hq, h =>
      obtain ⟨k, hk⟩ := key x' h
      refine ⟨k + 1, ?_⟩
      rw [zm_run_eq, hM, Option.bind_some, he, Option.bind_some, hq, Option.bind_some]
      exact hk
    | .inr (.inl o), hq, h =>
      cases h
      refine ⟨1, ?_⟩
      rw [zm_run_eq, hM, Option.bind_some, he, Option.bind_some, hq, Option.bind_some]
      exact congrArg some hg
    | .inr (.inr (y', rk, av, lay, σ, f)), hq, h =>
      simp only [zm_el] at h
      obtain ⟨o, ho, h⟩ := zm_ck_spec h
      obtain ⟨N, n1, hN, hs, h1⟩ := zm_can_of ho
      obtain ⟨k, hk⟩ := key _ h
      refine ⟨max n1 k + 1, ?_⟩
      rw [zm_run_eq, hM, Option.bind_some, he, Option.bind_some, hq, Option.bind_some]
      simp only [zm_el]
      rw [hN, Option.bind_some, if_pos hs, zm_mono_le h1 (Nat.le_max_left n1 k), Option.bind_some]
      exact zm_mono_le hk (Nat.le_max_right n1 k)
