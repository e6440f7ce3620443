/-! THE PLAIN MACHINE'S RUNS ARE RUNS OF THE REAL ONE -/
def zm_B (p : Program) (s : State) (m : MethodId) (args : Array Value) (meth : Method) (c : Code) (M : zm_Mth) : Prop :=
  p.tables.exec = Jvm.exec ∧ c.code = zm_by M ∧ meth.sig.returnType = zm_rt M ∧ c.maxLocals = zm_ml M ∧ s.vm.findClass (zm_nm M).cls = some m.cls ∧ (∀ w ∈ zm_ws M, w.before args s = true) ∧ meth.locks = false ∧ meth.name = (zm_nm M).name
abbrev zm_A (base : Nat) : Nat → Prop := fun q => base ≤ q
def zm_Snd (P : Nat → Option zm_Mth) (l : Launch) (base : Nat) (D : va_G) (ids : Nat → ClassId) (n : Nat) : Prop :=
  ∀ (y : Nat) (M : zm_Mth) (x : zm_St) (out : zm_Out), P y = some M → zm_run P n y x = some out → ∀ (p : Program) (e : Env) (s : State) (m : MethodId) (args : Array Value) (below : List Frame) (meth : Method) (c : Code) (H : Heap) (locs : List Loc) (ls : Array Slot),
    zm_B p s m args meth c M → zm_KU D ids s → base ≤ s.heap.size → zm_H base D ids x.2.2.2.1 x.2.2.2.2.1 H → va_S (zm_A base) s.heap H locs → lv_has ls (zm_ml M) (zm_lo base x.2.1) →
    W p l e (zm_rm M) s m args below meth c H locs x.2.2.2.2.2.1 x.2.2.2.2.2.2 (MQ below (zm_Q base D ids out) args s (zm_ro M).2.2.1 (zm_ro M).2.2.2 (zm_A base)) (F0 m x.1 ls (x.2.2.1.map (zm_tr base)))
theorem zm_sl_len (base : Nat) (av : List Value) : (lg_sl (av.map (zm_tr base))).length = (lg_sl av).length := by
  unfold lg_sl
  induction av with
  | nil => rfl
  | cons v r ih =>
    simp only [List.map_cons, List.flatMap_cons, List.length_append, zm_tr_cat, ih]
    split <;> simp
theorem zm_met {P : Nat → Option zm_Mth} {l : Launch} {base : Nat} {D : va_G} {ids : Nat → ClassId} {n : Nat} (hS : zm_Snd P l base D ids n) {y : Nat} {M : zm_Mth} (hy : P y = some M) (hp : plainFor (zm_nm M) = true) {av : List Value} {lay : zm_Lay} {σ : zm_Sig} {out : zm_Out}
    (hsl : (lg_sl av).length ≤ zm_ml M) (h : zm_run P n y (0, lv_args 0 av, [], lay, σ, 0, 0) = some out) :
    Met l (zm_nm M) (zm_ws M) (zm_rm M) (zm_Pc base D ids av lay σ) (zm_Q base D ids out) (zm_ro M).2.2.1 (zm_ro M).2.2.2 (zm_A base) := by
  refine va_MetF (cc := zm_by M) (maxL := zm_ml M) (ret := zm_rt M) hp rfl ?_
  intro p e s m args below meth c s₁ B hml hv
  obtain ⟨rfl, hH, hK⟩ := hv
  have hl' : (lg_sl (av.map (zm_tr base))).length ≤ zm_ml M := by
    rw [zm_sl_len]; exact hsl
  have hl := lv_entry (av.map (zm_tr base)) hl'
  rw [lg_entry_eq]
  rw [zm_lo_args] at hl
  have hb : base ≤ s.heap.size := by rw [hH.1]; exact Nat.le_add_right _ _
  exact hS y M _ out hy h p e s m _ below meth c s.heap [] _ ⟨B.exec, B.bytes, B.returns, hml, findClass_of_methodNamed B.named, atoms_spec (ws := zm_ws M) B.pre, B.notSynchronized, (name_of_methodNamed B.named B.method).1⟩ hK hb hH va_S.rf hl
section ZMW
variable {p : Program} {l : Launch} {e : Env} {R : Room} {s : State} {m : MethodId} {args : Array Value} {below : List Frame} {meth : Method} {c : Code} {H : Heap} {locs : List Loc} {cells slots : Nat} {Q : State → Prop}
variable {base : Nat} {D : va_G} {ids : Nat → ClassId} {lay : zm_Lay} {σ : zm_Sig} {pc : Nat} {ls : Array Slot} {rest st0 : List Value} {mc ms : Nat}
/-- behind a call -/
theorem zm_called {out : zm_Out} {a : Array Value} (hr : va_Run p l e R s m args below meth c H locs cells slots mc ms (F0 m pc ls st0) rest (zm_Q base D ids out a) (zm_A base)) (hS : va_S (zm_A base) s.heap H locs)
    (kk : ∀ (H1 : Heap) (locs1 : List Loc), zm_H base D ids out.2.1 out.2.2 H1 → va_S (zm_A base) s.heap H1 locs1 → W p l e R s m args below meth c H1 locs1 (cells + mc) (slots + ms) Q (F0 m (pc + 3) ls ((out.1.map (zm_tr base)).toList ++ rest))) : W p l e R s m args below meth c H locs cells slots Q (F0 m pc ls st0) := by
  intro T hT X
  obtain ⟨v, st₀, t, T', L, h0, X', hL, e1, e2, ⟨hv, hH1, hz, hk⟩, st⟩ := hr T hT X
  cases hv
  rw [h0] at hz hk
  obtain ⟨t2, a1, b1⟩ := kk T'.heap (locs ++ L) (by rw [e1]; exact hH1)
    ⟨Nat.le_trans hS.1 (by rw [e1]; exact hz), fun q h1 h2 => by rw [e1, hk q (Nat.lt_of_lt_of_le h1 hS.1) h2]; exact hS.2.1 q h1 h2, fun q hq => by
      rcases List.mem_append.mp hq with h | h
      · exact hS.2.2 q h
      · exact hL q h⟩ T' rfl X'
  exact ⟨t2, st t2 a1, b1⟩
theorem zm_one (hH : zm_H base D ids lay σ H) {a : Nat} {sh : Nat × Nat} (ha : lay[a]? = some sh) : va_P D zm_cl [(base + a, zm_cell base ids σ a sh)] H := by
  intro k q hk
  have hz : k < 1 := (List.getElem?_eq_some_iff.mp hk).1
  rw [show k = 0 by omega] at hk
  cases hk
  exact hH.2 a sh ha
end ZMW
