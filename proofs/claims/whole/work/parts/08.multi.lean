/-! new int[n][k]. The state behind it is one formula: behind the cells that were there the outer array, then equal rows.
A turn of the machine's loop leads from the formula at i to the formula at i + 1. -/
/-- the outer array when i rows are in their places -/
def zq_out (cA : ClassId) (n h0 i : Nat) : Cell := arrV cA n fun j => va_rf (if j < i then some (h0 + 1 + j) else none)
def zq_row (cI : ClassId) (k : Nat) : Cell := arrV cI k fun _ => .int 0
/-- behind T's cells: the outer array, and i rows -/
def zq_at (T : State) (cA cI : ClassId) (n k i : Nat) : State :=
  { T with heap := T.heap.push (zq_out cA n T.heap.size i) ++ Array.replicate i (zq_row cI k), slotsUsed := T.slotsUsed + n + i * k }
theorem zq_none (cA : ClassId) (n h : Nat) : zq_out cA n h 0 = ({ cls := cA, slots := Array.replicate n .null } : Cell) := by
  simp [zq_out, arrV_new, va_rf]
theorem zq_put (cA : ClassId) (n h i : Nat) : (zq_out cA n h i).setSlot i (.ref (h + 1 + i)) = zq_out cA n h (i + 1) := by
  refine (arrV_store _ _ _ _ _).trans (congrArg (arrV cA n) (funext fun j => ?_))
  rcases Nat.lt_trichotomy j i with g | g | g
  · simp [updV, Nat.ne_of_lt g, g, Nat.lt_succ_of_lt g]
  · simp [updV, g, va_rf]
  · simp [updV, Nat.ne_of_gt g, show ¬ j < i by omega, show ¬ j < i + 1 by omega]
theorem zq_first (T : State) (cA cI : ClassId) (n k : Nat) : T.pushCell ({ cls := cA, slots := Array.replicate n .null } : Cell) = zq_at T cA cI n k 0 := by
  rw [zq_at, zq_none]
  simp [State.pushCell]
theorem zq_heap (A : Heap) (x y r : Cell) (i : Nat) : ((A.push x ++ Array.replicate i r).push r).setIfInBounds A.size y = A.push y ++ Array.replicate (i + 1) r := by
  apply Array.ext_getElem?
  intro q
  simp only [Array.getElem?_setIfInBounds, Array.getElem?_push, Array.getElem?_append, Array.size_append, Array.size_push, Array.size_replicate, Array.getElem?_replicate]
  repeat' split
  all_goals first | rfl | (exfalso; omega)
theorem zq_more (T : State) (cA cI : ClassId) (n k i : Nat) : ((zq_at T cA cI n k i).pushCell (zq_row cI k)).setCell T.heap.size (zq_out cA n T.heap.size (i + 1)) = zq_at T cA cI n k (i + 1) := by
  have hs : T.slotsUsed + n + i * k + (zq_row cI k).slots.size = T.slotsUsed + n + (i + 1) * k := by
    rw [show (zq_row cI k).slots.size = k from arrV_size _ _ _, Nat.succ_mul, Nat.add_assoc]
  show ({ T with heap := _, slotsUsed := T.slotsUsed + n + i * k + (zq_row cI k).slots.size } : State) = _
  rw [hs]
  exact congrArg (fun A : Heap => ({ T with heap := A, slotsUsed := T.slotsUsed + n + (i + 1) * k } : State)) (zq_heap T.heap _ _ _ i)
section ZQA
variable {T : State} {cA cI : ClassId} {n k i : Nat}
theorem zq_size : (zq_at T cA cI n k i).heap.size = T.heap.size + 1 + i := by
  simp [zq_at]
theorem zq_old {q : Nat} (hq : q < T.heap.size) : (zq_at T cA cI n k i).heap[q]? = T.heap[q]? := by
  show (T.heap.push _ ++ _)[q]? = _
  rw [Array.getElem?_append_left (by rw [Array.size_push]; omega), Array.getElem?_push, if_neg (by omega)]
theorem zq_here : (zq_at T cA cI n k i).heap[T.heap.size]? = some (zq_out cA n T.heap.size i) := by
  show (T.heap.push _ ++ _)[T.heap.size]? = _
  rw [Array.getElem?_append_left (by rw [Array.size_push]; omega), Array.getElem?_push, if_pos rfl]
theorem zq_rows {j : Nat} (hj : j < i) : (zq_at T cA cI n k i).heap[T.heap.size + 1 + j]? = some (zq_row cI k) := by
  show (T.heap.push _ ++ Array.replicate i _)[T.heap.size + 1 + j]? = _
  rw [Array.getElem?_append_right (by rw [Array.size_push]; omega), Array.size_push, Array.getElem?_replicate, if_pos (by omega)]
end ZQA
section ZQS
variable {p : Program} {l : Launch} {e : Env} {R : Room} {s : State} {m : MethodId} {args : Array Value} {below : List Frame} {meth : Method} {c : Code} {locs : List Loc} {cells slots : Nat}
/-- the walk stands there at every turn; what is written lies beyond the caller's cells, so no place is named -/
theorem zq_stand {T : State} (X : Stand p l e R s m args below meth c T locs cells slots) (hnew : s.heap.size ≤ T.heap.size) (cA cI : ClassId) (n k i : Nat) :
    Stand p l e R s m args below meth c (zq_at T cA cI n k i) locs (cells + 1 + i) (slots + n + i * k) := by
  induction i with
  | zero =>
    have g := X.pushed ({ cls := cA, slots := Array.replicate n .null } : Cell)
    rw [zq_first T cA cI n k] at g
    simpa using g
  | succ i ih =>
    have hc : ((zq_at T cA cI n k i).pushCell (zq_row cI k)).heap[T.heap.size]? = some (zq_out cA n T.heap.size i) := by
      show ((zq_at T cA cI n k i).heap.push _)[T.heap.size]? = _
      rw [Array.getElem?_push, if_neg (by rw [zq_size]; omega)]
      exact zq_here
    have g := (ih.pushed (zq_row cI k)).stored hc i (.ref (T.heap.size + 1 + i))
    rw [zq_put, zq_more] at g
    have g' := g.forget fun y hy => by
      rw [List.mem_singleton.mp hy]
      exact hnew
    rw [show (zq_row cI k).slots.size = k from arrV_size _ _ _] at g'
    rw [Nat.succ_mul, ← Nat.add_assoc (slots + n)]
    exact g'
end ZQS
section ZQL
variable {E : CtlPost} {e : Env}
/-- a loop that counts: what holds at i leads to what holds at i + 1 -/
theorem zq_turns {f : Nat → PUnit → Sem (ForInStep PUnit)} (I : Nat → State → Prop) {top : Nat}
    (turn : ∀ i, i < top → ∀ (S : State) (d : Bool) (acts : List Action) (G : ForInStep PUnit → Pre), I i S → (∀ S' d' acts', I (i + 1) S' → G (.yield PUnit.unit) d' acts' S') → wp (f i PUnit.unit) G E e d acts S)
    {Q : PUnit → Pre} (last : ∀ S d acts, I top S → Q PUnit.unit d acts S) (len : Nat) : ∀ i, i + len = top → ∀ (S : State) (d : Bool) (acts : List Action), I i S → wp (forIn (List.range' i len 1) PUnit.unit f) Q E e d acts S := by
  induction len with
  | zero =>
    intro i hi S d acts h
    have hi' : i = top := hi
    subst hi'
    exact last S d acts h
  | succ len ih =>
    intro i hi S d acts h
    rw [List.range'_succ, List.forIn_cons, wp_bind']
    exact turn i (by omega) S d acts _ h fun S' d' acts' h' => ih (i + 1) (by omega) S' d' acts' h'
/-- a row is made -/
theorem zq_inner {d : Bool} {acts : List Action} {S : State} {cI c1 : ClassId} {kI : Class} {k : Int32} (hc : S.vm.classes[cI]? = some kI) (hkd : kI.kind = .array c1 .int) (h0 : ¬ k < 0) (b1 : k.toNatClampNeg ≤ e.platform.arrayLengthLimit) (b2 : k.toNatClampNeg * 4 ≤ e.platform.maxHeapBytes)
    (r1 : S.heap.size < e.platform.maxCells) (r2 : S.slotsUsed + k.toNatClampNeg ≤ e.platform.maxSlots) {G : Addr → Pre} (next : ∀ acts', G S.heap.size d acts' (S.pushCell (zq_row cI k.toNatClampNeg))) : wp (multianewarray.make cI [k]) G E e d acts S := by
  rw [multianewarray.make]
  simp [h0, hc, hkd]
  refine W.newArray_of hc hkd (Nat.not_lt.mpr b1) (Nat.not_lt.mpr b2) r1 r2 rfl fun acts' => ?_
  have g := next acts'
  rw [zq_row, ← arrV_new] at g
  exact g
end ZQL
section ZQM
variable {p : Program} {l : Launch} {e : Env} {R : Room} {s : State} {m : MethodId} {args : Array Value} {below : List Frame} {meth : Method} {c : Code} {locs : List Loc} {cells slots : Nat} {E : CtlPost}
/-- the outer array and its rows are made, in a state in which the walk stands -/
theorem zq_outer {T : State} (X : Stand p l e R s m args below meth c T locs cells slots) (hnew : s.heap.size ≤ T.heap.size) {cA cI c1 : ClassId} {kA kI : Class} {n k : Int32} (hA : T.vm.classes[cA]? = some kA) (hAk : kA.kind = .array cI (.array .int)) (hI : T.vm.classes[cI]? = some kI) (hIk : kI.kind = .array c1 .int)
    (n0 : ¬ n < 0) (k0 : ¬ k < 0) (bn : n.toNatClampNeg ≤ 60000) (bk : k.toNatClampNeg ≤ 60000) (rc : cells + (1 + n.toNatClampNeg) ≤ R.cells) (rs : slots + (n.toNatClampNeg + n.toNatClampNeg * k.toNatClampNeg) ≤ R.slots) {f : JFrame} {d : Bool} {acts : List Action} {G : Addr → Pre}
    (next : ∀ d' acts', G T.heap.size d' acts' ((zq_at T cA cI n.toNatClampNeg k.toNatClampNeg n.toNatClampNeg).setTop f)) : wp (multianewarray.make cA [n, k]) G E e d acts (T.setTop f) := by
  have lim : ∀ q : Nat, q ≤ 60000 → q ≤ e.platform.arrayLengthLimit := fun q hq => by
    rw [Launch.admits_arrayLengthLimit X.admits]; omega
  have mem : ∀ q : Nat, q ≤ 60000 → q * 4 ≤ e.platform.maxHeapBytes := fun q hq => by
    rw [Launch.admits_maxHeapBytes X.admits]; omega
  have room0 := X.roomAbove (a := 1) (b := n.toNatClampNeg) (by omega) (by have := Nat.zero_le (n.toNatClampNeg * k.toNatClampNeg); omega)
  have room : ∀ i, i < n.toNatClampNeg → (zq_at T cA cI n.toNatClampNeg k.toNatClampNeg i).heap.size + 1 ≤ e.platform.maxCells ∧ (zq_at T cA cI n.toNatClampNeg k.toNatClampNeg i).slotsUsed + k.toNatClampNeg ≤ e.platform.maxSlots := fun i hi => by
    refine (zq_stand X hnew cA cI n.toNatClampNeg k.toNatClampNeg i).roomAbove (by omega) ?_
    have g := Nat.mul_le_mul_right k.toNatClampNeg (Nat.succ_le_of_lt hi)
    have g2 : (i + 1) * k.toNatClampNeg = i * k.toNatClampNeg + k.toNatClampNeg := Nat.succ_mul _ _
    have g3 : (i + 1) * k.toNatClampNeg ≤ n.toNatClampNeg * k.toNatClampNeg := g
    omega
  rw [multianewarray.make]
  simp only [wp_bind', W.ite, if_neg n0, wp_pure', W.theClass]
  refine ⟨kA, hA, ?_⟩
  rw [hAk]
  simp only [wp_bind']
  refine W.newArray_of (s := T.setTop f) hA hAk (Nat.not_lt.mpr (lim _ bn)) (Nat.not_lt.mpr (mem _ bn)) room0.1 room0.2 rfl fun acts' => ?_
  rw [State.pushCell_setTop, zq_first T cA cI n.toNatClampNeg k.toNatClampNeg]
  have nobad : List.find? (fun q : Int32 => decide (q < 0)) [k] = none := by simp [k0]
  simp only [nobad, ite_self, wp_pure', Std.Legacy.Range.forIn_eq_forIn_range', Std.Legacy.Range.size, Nat.sub_zero, Nat.add_sub_cancel, Nat.div_one, State.heap_setTop, wp_bind']
  refine zq_turns (fun i S => S = (zq_at T cA cI n.toNatClampNeg k.toNatClampNeg i).setTop f) ?_ (fun S d' acts' h => ?_) n.toNatClampNeg 0 (Nat.zero_add _) _ _ _ rfl
  · rintro i hi S d' acts' G' rfl more
    simp only [wp_bind', W.writeLoc, wp_pure']
    refine zq_inner (S := (zq_at T cA cI n.toNatClampNeg k.toNatClampNeg i).setTop f) (kI := kI) (c1 := c1) hI hIk k0 (lim _ bk) (mem _ bk) (room i hi).1 (room i hi).2 fun acts2 => ?_
    have hs : ((zq_at T cA cI n.toNatClampNeg k.toNatClampNeg i).setTop f).heap.size = T.heap.size + 1 + i := zq_size
    rw [hs, State.pushCell_setTop]
    refine ⟨zq_out cA n.toNatClampNeg T.heap.size i, ?_, (fun h => by cases h), ?_, ?_, more _ _ _ ?_⟩
    · show ((zq_at T cA cI n.toNatClampNeg k.toNatClampNeg i).heap.push _)[T.heap.size]? = _
      rw [Array.getElem?_push, if_neg (by rw [zq_size]; omega)]
      exact zq_here
    · rw [show (zq_out cA n.toNatClampNeg T.heap.size i).slots.size = n.toNatClampNeg from arrV_size _ _ _]
      exact hi
    · have hA' : (((zq_at T cA cI n.toNatClampNeg k.toNatClampNeg i).pushCell (zq_row cI k.toNatClampNeg)).setTop f).vm.classes[cA]? = some kA := hA
      show State.fitsSlot _ cA .none i _ = true
      simp only [State.fitsSlot, State.slotType?, hA', Option.bind_eq_bind, Option.bind_some, hAk]
      rfl
    · rw [zq_put, State.setCell_setTop, zq_more]
  · subst h
    exact next _ _
end ZQM
section ZQW
variable {p : Program} {l : Launch} {e : Env} {R : Room} {s : State} {m : MethodId} {args : Array Value} {below : List Frame} {meth : Method} {c : Code} {H : Heap} {locs : List Loc} {cells slots : Nat} {Q : State → Prop} {cc : ByteArray} {pc : Nat} {ls : Array Slot} {rest : List Value}
theorem zq_W (hx : p.tables.exec = Jvm.exec) (hcc : c.code = cc) {own : String} {idx : Nat} {cA cI c1 : ClassId} {kA kI : Class} (hown : s.vm.findClass own = some m.cls) (hlink : (Cond.classLink own idx "[[I").before args s = true) (hfA : s.vm.findClass "[[I" = some cA)
    (hA : s.vm.classes[cA]? = some kA) (hAk : kA.kind = .array cI (.array .int)) (hI : s.vm.classes[cI]? = some kI) (hIk : kI.kind = .array c1 .int) {n k : Int32} (n0 : ¬ n < 0) (k0 : ¬ k < 0) (bn : n.toNatClampNeg ≤ 60000) (bk : k.toNatClampNeg ≤ 60000)
    (hnew : s.heap.size ≤ H.size) (rc : cells + (1 + n.toNatClampNeg) ≤ R.cells) (rs : slots + (n.toNatClampNeg + n.toNatClampNeg * k.toNatClampNeg) ≤ R.slots) (hd : decode cc pc = .ok (.multianewarray idx 2, 4))
    (kk : ∀ H1 : Heap, H1.size = H.size + 1 + n.toNatClampNeg → (∀ q : Nat, q < H.size → H1[q]? = H[q]?) → H1[H.size]? = some (zq_out cA n.toNatClampNeg H.size n.toNatClampNeg) → (∀ j, j < n.toNatClampNeg → H1[H.size + 1 + j]? = some (zq_row cI k.toNatClampNeg)) →
      W p l e R s m args below meth c H1 locs (cells + 1 + n.toNatClampNeg) (slots + n.toNatClampNeg + n.toNatClampNeg * k.toNatClampNeg) Q (F0 m (pc + 4) ls (.ref H.size :: rest))) :
    W p l e R s m args below meth c H locs cells slots Q (F0 m pc ls (.int k :: .int n :: rest)) := by
  intro T hT X
  cases hT
  cases hcc
  obtain ⟨cB, hB, links⟩ := Cond.classLink_spec hown hlink e.platform (by rw [X.admits.platform])
  have hBA : cB = cA := Option.some.inj (hB.symm.trans hfA)
  cases hBA
  obtain ⟨gives, warm, -⟩ := State.classEntry (e := e) X.warmed links
  generalize T.vm.noted m.cls idx (.cls cA) = w at gives warm
  obtain ⟨kA', hA', eA⟩ := warm.alike.2.2 _ _ hA
  obtain ⟨kI', hI', eI⟩ := warm.alike.2.2 _ _ hI
  have Y : Stand p l e R s m args below meth c (T.setVm w) locs cells slots := X.noted warm
  have Z := zq_stand Y hnew cA cI n.toNatClampNeg k.toNatClampNeg n.toNatClampNeg
  obtain ⟨t, st, fin⟩ := kk (zq_at (T.setVm w) cA cI n.toNatClampNeg k.toNatClampNeg n.toNatClampNeg).heap zq_size (fun q hq => zq_old (T := T.setVm w) hq) zq_here (fun j hj => zq_rows hj) _ rfl Z
  refine ⟨t, ?_, fin⟩
  jvm_step X.here [hx, hd]
  simp only [multianewarray.sem, wp_bind', W.resolveClassAt_links (State.method?_setTop (F0 m pc ls (.int k :: .int n :: rest)) X.here.top) gives]
  refine (popN_top (s := T.setVm w) (f := F0 m pc ls (.int k :: .int n :: rest)) (args := [.int n, .int k]) (rest := rest) Y.here.top rfl).mpr ?_
  simp only [List.mapM_cons, List.mapM_nil, wp_bind', wp_pure']
  refine zq_outer Y hnew hA' (by rw [eA]; exact hAk) hI' (by rw [eI]; exact hIk) n0 k0 bn bk rc rs fun d' acts' => ?_
  rw [wp_bind', W.mark, W.pushRef]
  refine ⟨_, State.topJava?_setTop' _ Z.here.top, fun acts2 => ?_⟩
  simpa [jvm, Z.here.top] using st
end ZQW
