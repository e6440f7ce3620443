/-! running the plain machine; the plain memory in the heap; what is known of tables and classes -/
def zm_nm (M : zm_Mth) : MethodName := M.1
def zm_by (M : zm_Mth) : ByteArray := M.2.1
def zm_ml (M : zm_Mth) : Nat := M.2.2.1
def zm_rt (M : zm_Mth) : Option FieldType := M.2.2.2.1
def zm_en (M : zm_Mth) : List zm_Ent := M.2.2.2.2.1
def zm_ix (M : zm_Mth) : Nat × Nat × Nat := M.2.2.2.2.2.1
def zm_ro (M : zm_Mth) : Nat × Nat × Nat × Nat := M.2.2.2.2.2.2.1
def zm_ps (M : zm_Mth) : List Nat := M.2.2.2.2.2.2.2.1
def zm_cu (M : zm_Mth) : List (Nat × List Nat) := M.2.2.2.2.2.2.2.2
def zm_find : List zm_Ent → Nat → Option zm_Ent
  | [], _ => none
  | e :: r, pc => if e.1 = pc then some e else zm_find r pc
theorem zm_find_mem {l : List zm_Ent} {pc : Nat} {e : zm_Ent} (h : zm_find l pc = some e) : e ∈ l ∧ e.1 = pc := by
  induction l with
  | nil => cases h
  | cons a r ih =>
    unfold zm_find at h
    split at h
    · next hq => cases h; exact ⟨List.mem_cons_self, hq⟩
    · obtain ⟨h1, h2⟩ := ih h
      exact ⟨List.mem_cons_of_mem _ h1, h2⟩
/-- at a cut point the locals that are needed, in a fixed order -/
def zm_nrm (lo : List (Nat × Value)) : List Nat → List (Nat × Value)
  | [] => []
  | i :: r => match lo.lookup i with
    | some v => (i, v) :: zm_nrm lo r
    | none => zm_nrm lo r
def zm_cut : List (Nat × List Nat) → Nat → Option (List Nat)
  | [], _ => none
  | e :: r, pc => if e.1 = pc then some e.2 else zm_cut r pc
def zm_nx (cu : List (Nat × List Nat)) (x : zm_St) : zm_St := match zm_cut cu x.1 with
  | some live => (x.1, zm_nrm x.2.1 live, x.2.2)
  | none => x
/-- a run with fuel: the answer, if it comes -/
def zm_run (P : Nat → Option zm_Mth) : Nat → Nat → zm_St → Option zm_Out
  | 0, _, _ => none
  | n + 1, y, x => (P y).bind fun M => (zm_find (zm_en M) x.1).bind fun e =>
    zm_stp (zm_rt M) (zm_ro M).2.2.1 (zm_ro M).2.2.2 x.1 e.2.1 e.2.2.2 x.2.1 x.2.2.1 x.2.2.2.1 x.2.2.2.2.1 x.2.2.2.2.2.1 x.2.2.2.2.2.2
      (fun x' => zm_run P n y (zm_nx (zm_cu M) x')) some (fun y' _ av lay σ f => (P y').bind fun N => if (lg_sl av).length ≤ zm_ml N then (zm_run P n y' (0, lv_args 0 av, [], lay, σ, 0, 0)).bind (fun o => zm_run P n y (zm_nx (zm_cu M) (f o))) else none)
/-- words -/
def zm_Tb : List Cond := lw_tbl.filter goodWord
def zm_isNest : Cond → Bool
  | .fieldLinkNest .. => true
  | .methodLinkNest .. => true
  | _ => false
def zm_wd (i : Nat) (w : Cond) : Bool := decide (lw_tbl[i]? = some w) && goodWord w
def zm_wn (i : Nat) (w : Cond) : Bool := decide (lw_tbl[i]? = some w) && zm_isNest w
theorem zm_wd_mem {i : Nat} {w : Cond} (h : zm_wd i w = true) : w ∈ zm_Tb := by
  simp only [zm_wd, Bool.and_eq_true, decide_eq_true_eq] at h
  exact List.mem_filter.mpr ⟨List.mem_of_getElem? h.1, h.2⟩
theorem zm_good {ws : List Cond} (h : ∀ w ∈ ws, w ∈ zm_Tb) {x : Cond} : GoodIn (x :: zm_Tb) ws := fun w hw =>
  ⟨List.mem_cons_of_mem _ (h w hw), good_of_word (List.mem_filter.mp (h w hw)).2⟩
/-- classes -/
def zm_T (c : String × List (String × String × Bool)) : u_T := fun k => (c.1, c.2.getD k ("", "", false))
def zm_cl : List vw_C := zm_CF.map fun c => (c.1, zm_T c, c.2.length)
def zm_ty0 (c : String × List (String × String × Bool)) (k : Nat) : FieldType := (parseFieldDescriptor (zm_T c k).2.2.1).getD .int
def zm_tyok (t : Nat) (ty : FieldType) : Bool := match t, ty with
  | 0, .int => true
  | 1, .long => true
  | 2, .object _ => true
  | 2, .array _ => true
  | _, _ => false
def zm_clok (c : Nat) : Bool := match zm_CF[c]?, zm_FT[c]? with
  | some cf, some ft => cf.2.length == ft.length && (Cond.instantiable cf.1 cf.2.length :: Cond.initialized cf.1 :: u_ws cf.1 (zm_T cf) cf.2.length).all (fun w => decide (w ∈ lw_tbl) && goodWord w)
      && (List.range cf.2.length).all (fun k => decide (parseFieldDescriptor (zm_T cf k).2.2.1 = some (zm_ty0 cf k)) && zm_tyok (ft.getD k 9) (zm_ty0 cf k) && (List.range cf.2.length).all (fun j => decide (j = k) || !decide ((zm_T cf k).2.1 = (zm_T cf j).2.1)))
  | _, _ => false
/-- values and cells -/
def zm_tr (base : Nat) (v : Value) : Value := match v with
  | .ref a => .ref (base + a)
  | w => w
theorem zm_tr_rf (base : Nat) (r : Option Nat) : zm_tr base (va_rf r) = va_rf (r.map (base + ·)) := by cases r <;> rfl
theorem zm_tr_cat (base : Nat) (v : Value) : (zm_tr base v).category = v.category := by cases v <;> rfl
def zm_fl (base : Nat) (σ : zm_Sig) (a c : Nat) : List Value := (zm_FT.getD c []).mapIdx fun k t => zm_tr base (zm_fv σ a k t)
def zm_cell (base : Nat) (ids : Nat → ClassId) (σ : zm_Sig) (a : Nat) (sh : Nat × Nat) : va_E := match sh with
  | (0, c) => .inr (c, zm_fl base σ a c)
  | (1, n) => .inl (ids 1, n, .inl (σ.1 a))
  | (2, n) => .inl (ids 2, n, .inr (.inl (σ.2.1 a)))
  | (3, n) => .inl (ids 3, n, .inl (σ.1 a))
  | (4, n) => .inl (ids 4, n, .inr (.inr (.inr (.inr (fun i => (σ.2.2 a i).map (base + ·))))))
  | (_, n) => .inl (ids 5, n, .inr (.inr (.inr (.inr (fun i => (σ.2.2 a i).map (base + ·))))))
def zm_tys (ids : Nat → ClassId) : List (ClassId × FieldType) := [(ids 1, .int), (ids 2, .long), (ids 3, .boolean), (ids 4, .array .int), (ids 5, .object "SubgroupWriter$Trail")]
/-- the heap holds the plain memory from base on -/
def zm_H (base : Nat) (D : va_G) (ids : Nat → ClassId) (lay : zm_Lay) (σ : zm_Sig) (H : Heap) : Prop :=
  H.size = base + lay.length ∧ ∀ (a : Nat) (sh : Nat × Nat), lay[a]? = some sh → va_at D zm_cl (base + a, zm_cell base ids σ a sh) H
def zm_KU (D : va_G) (ids : Nat → ClassId) (U : State) : Prop := va_K D zm_cl (zm_tys ids) U ∧ (∀ w ∈ lw_tbl, zm_isNest w = true → va_Nw w U) ∧ (∃ (k : Class), U.vm.classes[ids 4]? = some k ∧ k.kind = .array (ids 1) (.array .int)) ∧ va_AO "SubgroupWriter$Trail" U
def zm_Q (base : Nat) (D : va_G) (ids : Nat → ClassId) (out : zm_Out) : Array Value → State → Outcome → State → Prop := fun _ st o t =>
  o = .returned (out.1.map (zm_tr base)) ∧ zm_H base D ids out.2.1 out.2.2 t.heap ∧ va_F (fun q => base ≤ q) st t
def zm_Pc (base : Nat) (D : va_G) (ids : Nat → ClassId) (av : List Value) (lay : zm_Lay) (σ : zm_Sig) : Array Value → State → Prop :=
  va_Pc (av.map (zm_tr base)) fun U => zm_H base D ids lay σ U.heap ∧ zm_KU D ids U
def zm_rm (M : zm_Mth) : Room := { frames := (zm_ro M).1, locals := (zm_ro M).2.1, cells := (zm_ro M).2.2.1, slots := (zm_ro M).2.2.2 }
def zm_ws (M : zm_Mth) : List Cond := .code (zm_nm M) (zm_by M) (zm_ml M) (zm_rt M) :: zm_Tb
theorem zm_KU.warm {D : va_G} {ids : Nat → ClassId} {s U : State} (hW : s.WarmedH U.vm) (h : zm_KU D ids s) : zm_KU D ids U := by
  refine ⟨va_K.moved hW.alike h.1, fun w hw hn => ?_, ?_, va_AO.moved hW.alike h.2.2.2⟩
  · have hz := h.2.1 w hw hn
    cases w <;> first | (cases hn; done) | exact va_Nw.warmF hW hz | exact va_Nw.warmM hW hz
  · obtain ⟨k, h1, h2⟩ := h.2.2.1
    obtain ⟨k', h1', he⟩ := hW.alike.2.2 _ _ h1
    exact ⟨k', h1', by rw [he]; exact h2⟩
theorem zm_KU.call {D : va_G} {ids : Nat → ClassId} {U : State} {g : JFrame} {mk : MethodId} {a : Array Value} (h : zm_KU D ids U) : zm_KU D ids (U.calling g mk a) := by
  refine ⟨va_K.moved (u := U) (U := U.calling g mk a) (Vm.Alike.refl U.vm) h.1, fun w hw hn => ?_, h.2.2.1, va_AO.moved (u := U) (U := U.calling g mk a) (Vm.Alike.refl U.vm) h.2.2.2⟩
  have hz := h.2.1 w hw hn
  cases w <;> first | (cases hn; done) | exact va_Nw.same rfl rfl hz
theorem zm_blind {base : Nat} {D : va_G} {ids : Nat → ClassId} {av : List Value} {lay : zm_Lay} {σ : zm_Sig} : FrameBlind (zm_Pc base D ids av lay σ) := fun a U g mk q => ⟨q.1, q.2.1, q.2.2.call⟩
/-- the locals -/
def zm_lo (base : Nat) (lo : List (Nat × Value)) : List (Nat × Value) := lo.map fun q => (q.1, zm_tr base q.2)
theorem zm_lo_s1 (base : Nat) (lo : List (Nat × Value)) (i : Nat) (v : Value) : (i, zm_tr base v) :: (zm_lo base lo).filter (fun q => !(q.1 == i) && !(q.1 + 1 == i && q.2.category == 2)) = zm_lo base (zm_s1 lo i v) := by
  unfold zm_s1 zm_lo
  rw [List.map_cons, List.filter_map]
  congr 2
  apply List.filter_congr
  intro q _
  simp only [Function.comp, zm_tr_cat]
theorem zm_lo_s2 (base : Nat) (lo : List (Nat × Value)) (i : Nat) (v : Value) : (i, zm_tr base v) :: (zm_lo base lo).filter (fun q => !(q.1 == i) && (!(q.1 == i + 1) && !(q.1 + 1 == i && q.2.category == 2))) = zm_lo base (zm_s2 lo i v) := by
  unfold zm_s2 zm_lo
  rw [List.map_cons, List.filter_map]
  congr 2
  apply List.filter_congr
  intro q _
  simp only [Function.comp, zm_tr_cat]
theorem zm_lookup {lo : List (Nat × Value)} {i : Nat} {v : Value} (h : lo.lookup i = some v) : (i, v) ∈ lo := by
  induction lo with
  | nil => cases h
  | cons a r ih =>
    obtain ⟨j, w⟩ := a
    rw [List.lookup_cons] at h
    split at h
    · next hq =>
      cases h
      rw [beq_iff_eq] at hq
      subst hq
      exact List.mem_cons_self
    · exact List.mem_cons_of_mem _ (ih h)
theorem zm_ld {base nL : Nat} {ls : Array Slot} {lo : List (Nat × Value)} {i : Nat} {v : Value} (hl : lv_has ls nL (zm_lo base lo)) (h : lo.lookup i = some v) : ls[i]? = some (.val (zm_tr base v)) :=
  hl.2.2 (i, zm_tr base v) (List.mem_map.mpr ⟨(i, v), zm_lookup h, rfl⟩)
theorem zm_nrm_mem {lo : List (Nat × Value)} {q : Nat × Value} : ∀ {live : List Nat}, q ∈ zm_nrm lo live → q ∈ lo
  | [], h => by cases h
  | i :: r, h => by
    unfold zm_nrm at h
    split at h
    · next v hv =>
      rcases List.mem_cons.mp h with rfl | h
      · exact zm_lookup hv
      · exact zm_nrm_mem h
    · exact zm_nrm_mem h
theorem zm_lo_args (base : Nat) (vs : List Value) : ∀ i, lv_args i (vs.map (zm_tr base)) = zm_lo base (lv_args i vs) := by
  induction vs with
  | nil => intro i; rfl
  | cons v r ih =>
    intro i
    show (i, zm_tr base v) :: lv_args (if (zm_tr base v).category = 2 then i + 2 else i + 1) (r.map (zm_tr base)) = (i, zm_tr base v) :: zm_lo base (lv_args (if v.category = 2 then i + 2 else i + 1) r)
    rw [zm_tr_cat, ih]
/-- a write at one cell -/
theorem zm_H.put {base : Nat} {D : va_G} {ids : Nat → ClassId} {lay : zm_Lay} {σ σ' : zm_Sig} {H H1 : Heap} {a : Nat} {sh : Nat × Nat} (h : zm_H base D ids lay σ H) (ha : lay[a]? = some sh) (z : H1.size = H.size) (oq : ∀ q, q ≠ base + a → H1[q]? = H[q]?)
    (hv : va_at D zm_cl (base + a, zm_cell base ids σ' a sh) H1) (he : ∀ b sh, b ≠ a → zm_cell base ids σ' b sh = zm_cell base ids σ b sh) : zm_H base D ids lay σ' H1 := by
  refine ⟨by rw [z]; exact h.1, fun b sb hb => ?_⟩
  by_cases e : b = a
  · subst e
    rw [ha] at hb
    cases hb
    exact hv
  · rw [he b sb e]
    exact (h.2 b sb hb).kept (oq (base + b) (by omega))
theorem zm_cell_I {base : Nat} {ids : Nat → ClassId} {σ : zm_Sig} {a b : Nat} {f : Nat → Int32} (sh : Nat × Nat) (h : b ≠ a) : zm_cell base ids (va_up σ.1 a f, σ.2) b sh = zm_cell base ids σ b sh := by
  have e : (va_up σ.1 a f) b = σ.1 b := if_neg h
  unfold zm_cell zm_fl zm_fv
  simp only [e]
theorem zm_cell_L {base : Nat} {ids : Nat → ClassId} {σ : zm_Sig} {a b : Nat} {f : Nat → Int64} (sh : Nat × Nat) (h : b ≠ a) : zm_cell base ids (σ.1, va_up σ.2.1 a f, σ.2.2) b sh = zm_cell base ids σ b sh := by
  have e : (va_up σ.2.1 a f) b = σ.2.1 b := if_neg h
  unfold zm_cell zm_fl zm_fv
  simp only [e]
theorem zm_cell_R {base : Nat} {ids : Nat → ClassId} {σ : zm_Sig} {a b : Nat} {f : Nat → Option Nat} (sh : Nat × Nat) (h : b ≠ a) : zm_cell base ids (σ.1, σ.2.1, va_up σ.2.2 a f) b sh = zm_cell base ids σ b sh := by
  have e : (va_up σ.2.2 a f) b = σ.2.2 b := if_neg h
  unfold zm_cell zm_fl zm_fv
  simp only [e]
/-- new cells -/
theorem zm_H.grow {base : Nat} {D : va_G} {ids : Nat → ClassId} {lay L : zm_Lay} {σ σ' : zm_Sig} {H H1 : Heap} (h : zm_H base D ids lay σ H) (z : H1.size = H.size + L.length) (oq : ∀ q, q < H.size → H1[q]? = H[q]?)
    (hv : ∀ j sh, L[j]? = some sh → va_at D zm_cl (H.size + j, zm_cell base ids σ' (lay.length + j) sh) H1) (he : ∀ b sh, b < lay.length → zm_cell base ids σ' b sh = zm_cell base ids σ b sh) : zm_H base D ids (lay ++ L) σ' H1 := by
  refine ⟨by rw [z, h.1, List.length_append]; omega, fun b sh hb => ?_⟩
  by_cases hl : b < lay.length
  · rw [List.getElem?_append_left hl] at hb
    rw [he b sh hl]
    have h1 := h.2 b sh hb
    exact h1.kept (oq _ h1.lt)
  · rw [List.getElem?_append_right (by omega)] at hb
    have := hv _ _ hb
    rw [h.1] at this
    rw [show base + lay.length + (b - lay.length) = base + b by omega, show lay.length + (b - lay.length) = b by omega] at this
    exact this
theorem zm_cell_clr {base : Nat} {ids : Nat → ClassId} {σ : zm_Sig} {a b : Nat} (sh : Nat × Nat) (h : b ≠ a) : zm_cell base ids (zm_clr σ a) b sh = zm_cell base ids σ b sh := by
  have e1 : (va_up σ.1 a (fun _ => 0)) b = σ.1 b := if_neg h
  have e2 : (va_up σ.2.1 a (fun _ => 0)) b = σ.2.1 b := if_neg h
  have e3 : (va_up σ.2.2 a (fun _ => none)) b = σ.2.2 b := if_neg h
  unfold zm_clr zm_cell zm_fl zm_fv
  simp only [e1, e2, e3]
theorem zm_cell_mul {base : Nat} {ids : Nat → ClassId} {σ : zm_Sig} {a n b : Nat} (sh : Nat × Nat) (h : b < a) : zm_cell base ids (zm_mul σ a n) b sh = zm_cell base ids σ b sh := by
  have e1 : (zm_mul σ a n).1 b = σ.1 b := if_neg (by omega)
  have e2 : (zm_mul σ a n).2.1 b = σ.2.1 b := if_neg (by omega)
  have e3 : (zm_mul σ a n).2.2 b = σ.2.2 b := by
    show (if b = a then _ else if a ≤ b ∧ b ≤ a + n then _ else σ.2.2 b) = _
    rw [if_neg (by omega), if_neg (by omega)]
  unfold zm_cell zm_fl zm_fv
  simp only [e1, e2, e3]
