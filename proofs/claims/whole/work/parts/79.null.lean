/-! the plain machine with null put into a field, for the constructors (parts 03, 04, 06, 09, 10, 11 once more, by a program of ours) -/
def zn_fw (σ : zm_Sig) (a k t : Nat) (v : Value) : Option zm_Sig := match t, v with
  | 0, .int x => some (zm_wI σ a k x)
  | 1, .long x => some (zm_wL σ a k x)
  | 2, .ref x => some (zm_wR σ a k (some x))
  | 2, .null => some (zm_wR σ a k none)
  | _, _ => none
def zn_stp {β : Type} (rt : Option FieldType) (cc cs : Nat) (pc : Nat) (ins : Instr) (rs : List Nat) (lo : List (Nat × Value)) (st : List Value) (lay : zm_Lay) (σ : zm_Sig) (nc ns : Nat)
    (kn : zm_St → Option β) (kr : zm_Out → Option β) (kc : Nat → Nat → List Value → zm_Lay → zm_Sig → (zm_Out → zm_St) → Option β) : Option β :=
  match ins with
  | .iconst n => kn (pc + 1, lo, .int (Int32.ofInt n) :: st, lay, σ, nc, ns)
  | .bipush n => kn (pc + 2, lo, .int (Int32.ofInt n) :: st, lay, σ, nc, ns)
  | .sipush n => kn (pc + 3, lo, .int (Int32.ofInt n) :: st, lay, σ, nc, ns)
  | .lconst n => kn (pc + 1, lo, .long (Int64.ofNat n.val) :: st, lay, σ, nc, ns)
  | .ldc_w _ => match rs with
    | v :: _ => kn (pc + 3, lo, .int (Int32.ofNat v) :: st, lay, σ, nc, ns)
    | _ => none
  | .ldc2_w _ => match rs with
    | v :: _ => kn (pc + 3, lo, .long (Int64.ofNat v) :: st, lay, σ, nc, ns)
    | _ => none
  | .aconst_null => kn (pc + 1, lo, .null :: st, lay, σ, nc, ns)
  | .iload_n n => match lo.lookup n.val with
    | some (.int x) => kn (pc + 1, lo, .int x :: st, lay, σ, nc, ns)
    | _ => none
  | .iload n => match lo.lookup n with
    | some (.int x) => kn (pc + 2, lo, .int x :: st, lay, σ, nc, ns)
    | _ => none
  | .lload_n n => match lo.lookup n.val with
    | some (.long x) => kn (pc + 1, lo, .long x :: st, lay, σ, nc, ns)
    | _ => none
  | .lload n => match lo.lookup n with
    | some (.long x) => kn (pc + 2, lo, .long x :: st, lay, σ, nc, ns)
    | _ => none
  | .aload_n n => match lo.lookup n.val with
    | some (.ref x) => kn (pc + 1, lo, .ref x :: st, lay, σ, nc, ns)
    | _ => none
  | .aload n => match lo.lookup n with
    | some (.ref x) => kn (pc + 2, lo, .ref x :: st, lay, σ, nc, ns)
    | _ => none
  | .istore_n n => match st with
    | .int x :: r => kn (pc + 1, zm_s1 lo n.val (.int x), r, lay, σ, nc, ns)
    | _ => none
  | .istore n => match st with
    | .int x :: r => kn (pc + 2, zm_s1 lo n (.int x), r, lay, σ, nc, ns)
    | _ => none
  | .lstore_n n => match st with
    | .long x :: r => kn (pc + 1, zm_s2 lo n.val (.long x), r, lay, σ, nc, ns)
    | _ => none
  | .lstore n => match st with
    | .long x :: r => kn (pc + 2, zm_s2 lo n (.long x), r, lay, σ, nc, ns)
    | _ => none
  | .astore_n n => match st with
    | .ref x :: r => kn (pc + 1, zm_s1 lo n.val (.ref x), r, lay, σ, nc, ns)
    | _ => none
  | .astore n => match st with
    | .ref x :: r => kn (pc + 2, zm_s1 lo n (.ref x), r, lay, σ, nc, ns)
    | _ => none
  | .iinc i n => match lo.lookup i with
    | some (.int x) => kn (pc + 3, zm_s1 lo i (.int (x + Int32.ofInt n)), st, lay, σ, nc, ns)
    | _ => none
  | .iadd => match st with
    | .int y :: .int x :: r => kn (pc + 1, lo, .int (x + y) :: r, lay, σ, nc, ns)
    | _ => none
  | .isub => match st with
    | .int y :: .int x :: r => kn (pc + 1, lo, .int (x - y) :: r, lay, σ, nc, ns)
    | _ => none
  | .imul => match st with
    | .int y :: .int x :: r => kn (pc + 1, lo, .int (x * y) :: r, lay, σ, nc, ns)
    | _ => none
  | .idiv => match st with
    | .int y :: .int x :: r => if y = 0 then none else kn (pc + 1, lo, .int (x / y) :: r, lay, σ, nc, ns)
    | _ => none
  | .irem => match st with
    | .int y :: .int x :: r => if y = 0 then none else kn (pc + 1, lo, .int (x - x / y * y) :: r, lay, σ, nc, ns)
    | _ => none
  | .ineg => match st with
    | .int x :: r => kn (pc + 1, lo, .int (-x) :: r, lay, σ, nc, ns)
    | _ => none
  | .iand => match st with
    | .int y :: .int x :: r => kn (pc + 1, lo, .int (x &&& y) :: r, lay, σ, nc, ns)
    | _ => none
  | .ior => match st with
    | .int y :: .int x :: r => kn (pc + 1, lo, .int (x ||| y) :: r, lay, σ, nc, ns)
    | _ => none
  | .ixor => match st with
    | .int y :: .int x :: r => kn (pc + 1, lo, .int (x ^^^ y) :: r, lay, σ, nc, ns)
    | _ => none
  | .ishl => match st with
    | .int y :: .int x :: r => kn (pc + 1, lo, .int (x <<< (y &&& 31)) :: r, lay, σ, nc, ns)
    | _ => none
  | .ishr => match st with
    | .int y :: .int x :: r => kn (pc + 1, lo, .int (x >>> (y &&& 31)) :: r, lay, σ, nc, ns)
    | _ => none
  | .iushr => match st with
    | .int y :: .int x :: r => kn (pc + 1, lo, .int ((x.toUInt32 >>> (y.toUInt32 &&& Int32.toUInt32 31)).toInt32) :: r, lay, σ, nc, ns)
    | _ => none
  | .ladd => match st with
    | .long y :: .long x :: r => kn (pc + 1, lo, .long (x + y) :: r, lay, σ, nc, ns)
    | _ => none
  | .lmul => match st with
    | .long y :: .long x :: r => kn (pc + 1, lo, .long (x * y) :: r, lay, σ, nc, ns)
    | _ => none
  | .ldiv => match st with
    | .long y :: .long x :: r => if y = 0 then none else kn (pc + 1, lo, .long (x / y) :: r, lay, σ, nc, ns)
    | _ => none
  | .lrem => match st with
    | .long y :: .long x :: r => if y = 0 then none else kn (pc + 1, lo, .long (x - x / y * y) :: r, lay, σ, nc, ns)
    | _ => none
  | .i2l => match st with
    | .int x :: r => kn (pc + 1, lo, .long x.toInt64 :: r, lay, σ, nc, ns)
    | _ => none
  | .l2i => match st with
    | .long x :: r => kn (pc + 1, lo, .int x.toInt32 :: r, lay, σ, nc, ns)
    | _ => none
  | .i2b => match st with
    | .int x :: r => kn (pc + 1, lo, .int x.toInt8.toInt32 :: r, lay, σ, nc, ns)
    | _ => none
  | .lcmp => match st with
    | .long y :: .long x :: r => kn (pc + 1, lo, .int (lg_cmp x y) :: r, lay, σ, nc, ns)
    | _ => none
  | .dup => match st with
    | .int x :: r => kn (pc + 1, lo, .int x :: .int x :: r, lay, σ, nc, ns)
    | .ref x :: r => kn (pc + 1, lo, .ref x :: .ref x :: r, lay, σ, nc, ns)
    | _ => none
  | .dup2 => match st with
    | .int y :: .ref x :: r => kn (pc + 1, lo, .int y :: .ref x :: .int y :: .ref x :: r, lay, σ, nc, ns)
    | _ => none
  | .pop => match st with
    | .int _ :: r => kn (pc + 1, lo, r, lay, σ, nc, ns)
    | _ => none
  | .ifCond c _ => match rs, st with
    | t :: _, .int x :: r => zm_cnd c x 0 (kn (t, lo, r, lay, σ, nc, ns)) (kn (pc + 3, lo, r, lay, σ, nc, ns))
    | _, _ => none
  | .if_icmp c _ => match rs, st with
    | t :: _, .int y :: .int x :: r => zm_cnd c x y (kn (t, lo, r, lay, σ, nc, ns)) (kn (pc + 3, lo, r, lay, σ, nc, ns))
    | _, _ => none
  | .ifnonnull _ => match rs, st with
    | t :: _, .ref _ :: r => kn (t, lo, r, lay, σ, nc, ns)
    | _, .null :: r => kn (pc + 3, lo, r, lay, σ, nc, ns)
    | _, _ => none
  | .goto _ => match rs with
    | t :: _ => kn (t, lo, st, lay, σ, nc, ns)
    | _ => none
  | .tableswitch _ _ _ _ => match rs, st with
    | d :: ps, .int x :: r => zm_sw x (fun t => kn (t, lo, r, lay, σ, nc, ns)) ps d
    | _, _ => none
  | .lookupswitch _ _ => match rs, st with
    | d :: ps, .int x :: r => zm_sw x (fun t => kn (t, lo, r, lay, σ, nc, ns)) ps d
    | _, _ => none
  | .iaload => match st with
    | .int i :: .ref a :: r => (zm_gI lay σ a i).bind fun v => kn (pc + 1, lo, .int v :: r, lay, σ, nc, ns)
    | _ => none
  | .baload => match st with
    | .int i :: .ref a :: r => (zm_gZ lay σ a i).bind fun v => kn (pc + 1, lo, .int v :: r, lay, σ, nc, ns)
    | _ => none
  | .laload => match st with
    | .int i :: .ref a :: r => (zm_gL lay σ a i).bind fun v => kn (pc + 1, lo, .long v :: r, lay, σ, nc, ns)
    | _ => none
  | .aaload => match st with
    | .int i :: .ref a :: r => (zm_gR lay σ a i).bind fun o => zm_opt o (fun q => kn (pc + 1, lo, .ref q :: r, lay, σ, nc, ns)) none
    | _ => none
  | .arraylength => match st with
    | .ref a :: r => (zm_len lay a).bind fun v => kn (pc + 1, lo, .int v :: r, lay, σ, nc, ns)
    | _ => none
  | .iastore => match st with
    | .int v :: .int i :: .ref a :: r => (zm_sI lay σ a i v).bind fun σ1 => kn (pc + 1, lo, r, lay, σ1, nc, ns)
    | _ => none
  | .bastore => match st with
    | .int v :: .int i :: .ref a :: r => (zm_sZ lay σ a i v).bind fun σ1 => kn (pc + 1, lo, r, lay, σ1, nc, ns)
    | _ => none
  | .lastore => match st with
    | .long v :: .int i :: .ref a :: r => (zm_sL lay σ a i v).bind fun σ1 => kn (pc + 1, lo, r, lay, σ1, nc, ns)
    | _ => none
  | .aastore => match st with
    | .ref v :: .int i :: .ref a :: r => (zm_sR lay σ a i v).bind fun σ1 => kn (pc + 1, lo, r, lay, σ1, nc, ns)
    | _ => none
  | .getfield _ => match rs, st with
    | c :: k :: t :: _, .ref a :: r => (zm_is lay a c).bind fun _ => zm_fk σ a k t (fun v => kn (pc + 3, lo, v :: r, lay, σ, nc, ns))
    | _, _ => none
  | .putfield _ => match rs, st with
    | c :: k :: t :: _, v :: .ref a :: r => (zm_is lay a c).bind fun _ => (zn_fw σ a k t v).bind fun σ1 => kn (pc + 3, lo, r, lay, σ1, nc, ns)
    | _, _ => none
  | .invokevirtual _ => match rs with
    | y :: np :: c :: mc :: ms :: rk :: _ => match st.drop np with
      | .ref a :: r => (zm_is lay a c).bind fun _ => if (r.map fun v => v.category).sum ≤ 8 ∧ nc + mc ≤ cc ∧ ns + ms ≤ cs then kc y rk (.ref a :: (st.take np).reverse) lay σ (fun o => (pc + 3, lo, o.1.toList ++ r, o.2.1, o.2.2, nc + mc, ns + ms)) else none
      | _ => none
    | _ => none
  | .invokespecial _ => match rs with
    | y :: np :: c :: mc :: ms :: rk :: _ => match st.drop np with
      | .ref a :: r => (zm_is lay a c).bind fun _ => if (r.map fun v => v.category).sum ≤ 8 ∧ nc + mc ≤ cc ∧ ns + ms ≤ cs then kc y rk (.ref a :: (st.take np).reverse) lay σ (fun o => (pc + 3, lo, o.1.toList ++ r, o.2.1, o.2.2, nc + mc, ns + ms)) else none
      | _ => none
    | _ => match st with
      | .ref _ :: r => if (r.map fun v => v.category).sum ≤ 8 then kn (pc + 3, lo, r, lay, σ, nc, ns) else none
      | _ => none
  | .new _ => match rs with
    | c :: nf :: _ => if nc + 1 ≤ cc ∧ ns + nf ≤ cs then kn (pc + 3, lo, .ref lay.length :: st, lay ++ [(0, c)], zm_clr σ lay.length, nc + 1, ns + nf) else none
    | _ => none
  | .newarray _ => match rs, st with
    | kd :: _, .int n :: r => if ¬ n < 0 ∧ n.toNatClampNeg ≤ 60000 ∧ nc + 1 ≤ cc ∧ ns + n.toNatClampNeg ≤ cs then kn (pc + 2, lo, .ref lay.length :: r, lay ++ [(kd, n.toNatClampNeg)], zm_clr σ lay.length, nc + 1, ns + n.toNatClampNeg) else none
    | _, _ => none
  | .anewarray _ => match st with
    | .int n :: r => if ¬ n < 0 ∧ n.toNatClampNeg ≤ 60000 ∧ nc + 1 ≤ cc ∧ ns + n.toNatClampNeg ≤ cs then kn (pc + 3, lo, .ref lay.length :: r, lay ++ [(5, n.toNatClampNeg)], zm_clr σ lay.length, nc + 1, ns + n.toNatClampNeg) else none
    | _ => none
  | .multianewarray _ _ => match st with
    | .int k :: .int n :: r => if ¬ n < 0 ∧ ¬ k < 0 ∧ n.toNatClampNeg ≤ 60000 ∧ k.toNatClampNeg ≤ 60000 ∧ nc + (1 + n.toNatClampNeg) ≤ cc ∧ ns + (n.toNatClampNeg + n.toNatClampNeg * k.toNatClampNeg) ≤ cs then
        kn (pc + 4, lo, .ref lay.length :: r, lay ++ (4, n.toNatClampNeg) :: List.replicate n.toNatClampNeg (1, k.toNatClampNeg), zm_mul σ lay.length n.toNatClampNeg, nc + 1 + n.toNatClampNeg, ns + n.toNatClampNeg + n.toNatClampNeg * k.toNatClampNeg) else none
    | _ => none
  | .invokestatic _ => match rs with
    | y :: np :: _ :: mc :: ms :: rk :: _ => if np ≤ st.length ∧ ((st.drop np).map fun v => v.category).sum ≤ 8 ∧ nc + mc ≤ cc ∧ ns + ms ≤ cs then kc y rk ((st.take np).reverse) lay σ (fun o => (pc + 3, lo, o.1.toList ++ st.drop np, o.2.1, o.2.2, nc + mc, ns + ms)) else none
    | _ => match st with
      | .int n :: .int dp :: .ref d :: .int sp :: .ref s0 :: r =>
        if (r.map fun v => v.category).sum ≤ 8 then (zm_cpy lay σ s0 sp d dp n).bind fun σ1 => kn (pc + 3, lo, r, lay, σ1, nc, ns) else none
      | _ => none
  | .ireturn => match st with
    | [.int v] => if nc ≤ cc ∧ ns ≤ cs then (if rt = some .int then kr (some (.int v), lay, σ) else if rt = some .boolean then (if v = 0 ∨ v = 1 then kr (some (.int v), lay, σ) else none) else none) else none
    | _ => none
  | .lreturn => match st with
    | [.long v] => if nc ≤ cc ∧ ns ≤ cs then (if rt = some .long then kr (some (.long v), lay, σ) else none) else none
    | _ => none
  | .return_ => match st with
    | [] => if nc ≤ cc ∧ ns ≤ cs then (if rt = none then kr (none, lay, σ) else none) else none
    | _ => none
  | _ => none
def zn_run (P : Nat → Option zm_Mth) : Nat → Nat → zm_St → Option zm_Out
  | 0, _, _ => none
  | n + 1, y, x => (P y).bind fun M => (zm_find (zm_en M) x.1).bind fun e =>
    zn_stp (zm_rt M) (zm_ro M).2.2.1 (zm_ro M).2.2.2 x.1 e.2.1 e.2.2.2 x.2.1 x.2.2.1 x.2.2.2.1 x.2.2.2.2.1 x.2.2.2.2.2.1 x.2.2.2.2.2.2
      (fun x' => zn_run P n y (zm_nx (zm_cu M) x')) some (fun y' _ av lay σ f => (P y').bind fun N => if (lg_sl av).length ≤ zm_ml N then (zn_run P n y' (0, lv_args 0 av, [], lay, σ, 0, 0)).bind (fun o => zn_run P n y (zm_nx (zm_cu M) (f o))) else none)
def zn_Snd (P : Nat → Option zm_Mth) (l : Launch) (base : Nat) (D : va_G) (ids : Nat → ClassId) (n : Nat) : Prop :=
  ∀ (y : Nat) (M : zm_Mth) (x : zm_St) (out : zm_Out), P y = some M → zn_run P n y x = some out → ∀ (p : Program) (e : Env) (s : State) (m : MethodId) (args : Array Value) (below : List Frame) (meth : Method) (c : Code) (H : Heap) (locs : List Loc) (ls : Array Slot),
    zm_B p s m args meth c M → zm_KU D ids s → base ≤ s.heap.size → zm_H base D ids x.2.2.2.1 x.2.2.2.2.1 H → va_S (zm_A base) s.heap H locs → lv_has ls (zm_ml M) (zm_lo base x.2.1) →
    W p l e (zm_rm M) s m args below meth c H locs x.2.2.2.2.2.1 x.2.2.2.2.2.2 (MQ below (zm_Q base D ids out) args s (zm_ro M).2.2.1 (zm_ro M).2.2.2 (zm_A base)) (F0 m x.1 ls (x.2.2.1.map (zm_tr base)))
theorem zn_met {P : Nat → Option zm_Mth} {l : Launch} {base : Nat} {D : va_G} {ids : Nat → ClassId} {n : Nat} (hS : zn_Snd P l base D ids n) {y : Nat} {M : zm_Mth} (hy : P y = some M) (hp : plainFor (zm_nm M) = true) {av : List Value} {lay : zm_Lay} {σ : zm_Sig} {out : zm_Out}
    (hsl : (lg_sl av).length ≤ zm_ml M) (h : zn_run P n y (0, lv_args 0 av, [], lay, σ, 0, 0) = some out) :
    Met l (zm_nm M) (zm_ws M) (zm_rm M) (zm_Pc base D ids av lay σ) (zm_Q base D ids out) (zm_ro M).2.2.1 (zm_ro M).2.2.2 (zm_A base) := by
  refine va_MetF (cc := zm_by M) (maxL := zm_ml M) (ret := zm_rt M) hp rfl ?_
  intro p e s m args below meth c s₁ B hml hv
  obtain ⟨rfl, hH, hK⟩ := hv
  have hl' : (lg_sl (av.map (zm_tr base))).length ≤ zm_ml M := by
    rw [zm_sl_len]; exact hsl
  have hl := lv_entry (av.map (zm_tr base)) hl'
  rw [lg_entry_eq]
  rw [zm_lo_args] at hl
  have hb : base ≤ s.heap.size := by rw [hH.1]; exact Nat.le_add_right _ _
  exact hS y M _ out hy h p e s m _ below meth c s.heap [] _ ⟨B.exec, B.bytes, B.returns, hml, findClass_of_methodNamed B.named, atoms_spec (ws := zm_ws M) B.pre, B.notSynchronized, (name_of_methodNamed B.named B.method).1⟩ hK hb hH va_S.rf hl
theorem zn_fw_spec {σ σ1 : zm_Sig} {a k t : Nat} {v : Value} (h : zn_fw σ a k t v = some σ1) : zm_fv σ1 a k t = v ∧ (∀ j tj, j ≠ k → zm_fv σ1 a j tj = zm_fv σ a j tj) ∧ (∀ (base : Nat) (ids : Nat → ClassId) b sh, b ≠ a → zm_cell base ids σ1 b sh = zm_cell base ids σ b sh)
    ∧ ((t = 0 ∧ ∃ x, v = .int x) ∨ (t = 1 ∧ ∃ x, v = .long x) ∨ (t = 2 ∧ ∃ x, v = .ref x) ∨ (t = 2 ∧ v = .null)) := by
  unfold zn_fw at h
  split at h
  · cases h
    refine ⟨?_, fun j tj hj => ?_, fun base ids b sh hb => zm_cell_I sh hb, Or.inl ⟨rfl, _, rfl⟩⟩
    · simp [zm_fv, zm_wI, va_up, upd]
    · simp [zm_fv, zm_wI, va_up, upd, hj]
  · cases h
    refine ⟨?_, fun j tj hj => ?_, fun base ids b sh hb => zm_cell_L sh hb, Or.inr (Or.inl ⟨rfl, _, rfl⟩)⟩
    · simp [zm_fv, zm_wL, va_up, vp_updL]
    · simp [zm_fv, zm_wL, va_up, vp_updL, hj]
  · cases h
    refine ⟨?_, fun j tj hj => ?_, fun base ids b sh hb => zm_cell_R sh hb, Or.inr (Or.inr (Or.inl ⟨rfl, _, rfl⟩))⟩
    · simp [zm_fv, zm_wR, va_up, va_rf]
    · simp [zm_fv, zm_wR, va_up, hj]
  · cases h
    refine ⟨?_, fun j tj hj => ?_, fun base ids b sh hb => zm_cell_R sh hb, Or.inr (Or.inr (Or.inr ⟨rfl, rfl⟩))⟩
    · simp [zm_fv, zm_wR, va_up, va_rf]
    · simp [zm_fv, zm_wR, va_up, hj]
  · cases h
theorem zn_tyok_spec {base t : Nat} {ty : FieldType} {v : Value} (ht : zm_tyok t ty = true) (hv : (t = 0 ∧ ∃ x, v = .int x) ∨ (t = 1 ∧ ∃ x, v = .long x) ∨ (t = 2 ∧ ∃ x, v = .ref x) ∨ (t = 2 ∧ v = .null)) : narrow ty (zm_tr base v) = zm_tr base v ∧ fits ty (zm_tr base v) = true := by
  rcases hv with ⟨rfl, x, rfl⟩ | ⟨rfl, x, rfl⟩ | ⟨rfl, x, rfl⟩ | ⟨rfl, rfl⟩ <;> cases ty <;> first | (simp [zm_tyok] at ht; done) | exact ⟨rfl, rfl⟩
section ZMF
variable {p : Program} {l : Launch} {e : Env} {R : Room} {s : State} {m : MethodId} {args : Array Value} {below : List Frame} {meth : Method} {c : Code} {H : Heap} {locs : List Loc} {cells slots : Nat} {Q : State → Prop}
variable {base : Nat} {D : va_G} {ids : Nat → ClassId} {lay : zm_Lay} {σ : zm_Sig} {pc a : Nat} {ls : Array Slot} {rest : List Value} {P : Nat → Option zm_Mth} {M : zm_Mth}
theorem zn_wput (hOk : zm_Ok P) (B : zm_B p s m args meth c M) (hK : zm_KU D ids s) (hH : zm_H base D ids lay σ H) (hS : va_S (zm_A base) s.heap H locs) {cN k t idx : Nat} {rs : List Nat} (hkr : zm_okf M idx (cN :: k :: t :: rs) true = true) (ha : lay[a]? = some (0, cN)) (hdg : decode (zm_by M) pc = .ok (.putfield idx, 3)) {v : Value} {σ1 : zm_Sig} (hw0 : zn_fw σ a k t v = some σ1)
    (kk : ∀ (H1 : Heap) (locs1 : List Loc), zm_H base D ids lay σ1 H1 → va_S (zm_A base) s.heap H1 locs1 → W p l e R s m args below meth c H1 locs1 cells slots Q (F0 m (pc + 3) ls rest)) : W p l e R s m args below meth c H locs cells slots Q (F0 m pc ls (zm_tr base v :: .ref (base + a) :: rest)) := by
  obtain ⟨hx, hb, hr, hml, hown, hts, hlocks, hname⟩ := B
  obtain ⟨f1, f2, f3, f4⟩ := zn_fw_spec hw0
  unfold zm_okf at hkr
  split at hkr
  · next cN' k' t' ti nest heq =>
    cases heq
    split at hkr
    · next cf ft hcf hft =>
      split at hkr
      · next f hf =>
        simp only [Bool.and_eq_true, decide_eq_true_eq, Bool.not_true, Bool.false_and, Bool.false_or, Bool.or_eq_true, Bool.not_eq_true'] at hkr
        obtain ⟨⟨ht, hw⟩, hfin⟩ := hkr
        have hmin : min t 2 = t := by rcases f4 with ⟨rfl, -⟩ | ⟨rfl, -⟩ | ⟨rfl, -⟩ | ⟨rfl, -⟩ <;> rfl
        rw [hmin] at ht
        obtain ⟨c1, c2, c3, c4, c5, c6, c7, c8⟩ := zm_class hOk (M := M) hcf hft hf ht
        have hn : nest = 0 := by
          by_cases hn : nest = 0
          · exact hn
          · rw [if_neg hn] at hw; cases hw
        rw [if_pos hn] at hw
        have hlink : (Cond.fieldLink (zm_nm M).cls idx cf.1 (zm_T cf k).2.1 (zm_T cf k).2.2.1).before args s = true := by
          rw [c6]
          exact hts _ (List.mem_cons_of_mem _ (zm_wd_mem hw))
        have hap := va_apart (own := (zm_nm M).cls) hts c2 (zm_ty0 cf) c3 c4 hK.1 c1
        obtain ⟨r, h1, cell, q1, q2, q3, q4⟩ := hH.2 a _ ha
        have hr0 : r = (cf.1, zm_T cf, cf.2.length) := Option.some.inj (h1.symm.trans c1)
        subst hr0
        obtain ⟨hSl, hfc, kC, hkC, hkind⟩ := hK.1.1 cN _ c1
        obtain ⟨cfx, kf, fi, fd, hi, hsl⟩ := hSl k c5
        have hlay := hts _ (c2 _ (u_in_lay c5))
        have hst := (u_facts hfc hkC (u_lays hts c2 c5) hi).1
        obtain ⟨hnar, hfit⟩ := zn_tyok_spec (base := base) c7 f4
        have e9 : (zm_T cf k).1 = cf.1 := by rw [c6]
        have hi' : s.fieldFound? cf.1 (zm_T cf k).2.1 (zm_T cf k).2.2.1 = some (cfx, kf, fi, fd) := by rw [← e9]; exact hi
        have fin : ∀ H1 : Heap, H1[base + a]? = some (cell.setSlot (D.2 cN k) (zm_tr base v)) → H1.size = H.size → (∀ q, q ≠ base + a → H1[q]? = H[q]?) → zm_H base D ids lay σ1 H1 := by
          intro H1 e1 e2 e3
          refine hH.put ha e2 e3 ⟨_, c1, t_OB.to (V := updV (vp_V (zm_fl base σ a cN)) k (zm_tr base v)) ⟨_, e1, q2, q3, t_set q4 hap c5 _⟩ (fun j hj => ?_)⟩ (fun b sh hb => f3 base ids b sh hb)
          have hj' : j < ft.length := by rw [← c8]; exact hj
          have htj : ft[j]? = some ft[j] := List.getElem?_eq_getElem hj'
          show (if j = k then zm_tr base v else vp_V (zm_fl base σ a cN) j) = vp_V (zm_fl base σ1 a cN) j
          unfold vp_V
          rw [List.getD_eq_getElem?_getD, List.getD_eq_getElem?_getD, zm_fl_at hft htj, zm_fl_at hft htj]
          by_cases hjk : j = k
          · subst hjk
            rw [if_pos rfl]
            have : ft[j] = t := Option.some.inj (htj.symm.trans ht)
            rw [this, f1]
            rfl
          · rw [if_neg hjk, f2 j _ hjk]
        unfold u_lay at hlay
        by_cases hff : (zm_T cf k).2.2.2 = true
        · rw [if_pos hff] at hlay
          have hff2 : f.2.2 = true := by rw [c6] at hff; exact hff
          rcases hfin with hfin | ⟨hi1, hi2⟩
          · rw [hfin] at hff2; cases hff2
          have hcf2 : m.cls = cfx := by
            obtain ⟨_, _, c', _, _, _, -, -, hf', -, -, -, hown2, -⟩ := Cond.laysFinal_spec hlay
            have e1 : c' = cfx := by have := hi.symm.trans hf'; simp at this; exact this.1.symm
            rw [e9, ← hi2] at hown2
            rw [← e1]; exact Option.some.inj (hown.symm.trans hown2)
          have h6 := u_fits hfc hkC hkind (Or.inr hlay) hi (c3 k c5) hnar hfit
          refine W.putFinK hx hb hown hlink hi' hst hcf2 (hname.trans hi1) (by rw [q2]; exact h6) q1 q3 (by rw [hsl]; exact k2_hasslot (q4 k c5)) rfl rfl hdg fun H' e1 e2 e3 => ?_
          rw [hsl] at e1 ⊢
          exact kk H' _ (fin H' e1 e2 e3) (hS.put e2 e3 (Nat.le_add_right _ _))
        · rw [if_neg hff] at hlay
          have h6 := u_store hfc hkC hkind hlay hi (c3 k c5) hnar hfit
          refine W.putK hx hb (f := fd) ⟨hown, hlink, ⟨_, _, _, hi'⟩, hst⟩ (by rw [q2]; exact h6) q1 q3 (by rw [hsl]; exact k2_hasslot (q4 k c5)) rfl rfl hdg fun H' e1 e2 e3 => ?_
          rw [hsl] at e1 ⊢
          exact kk H' _ (fin H' e1 e2 e3) (hS.put e2 e3 (Nat.le_add_right _ _))
      · cases hkr
    · cases hkr
  · cases hkr
end ZMF
section ZMC
variable {p : Program} {l : Launch} {e : Env} {R : Room} {s : State} {m : MethodId} {args : Array Value} {below : List Frame} {meth : Method} {c : Code} {H : Heap} {locs : List Loc} {cells slots : Nat} {Q : State → Prop}
variable {base : Nat} {D : va_G} {ids : Nat → ClassId} {lay : zm_Lay} {σ : zm_Sig} {pc a : Nat} {ls : Array Slot} {rest : List Value} {P : Nat → Option zm_Mth} {M : zm_Mth}
theorem zn_wvirt (hOk : zm_Ok P) {n : Nat} (ih : zn_Snd P l base D ids n) (B : zm_B p s m args meth c M) (hK : zm_KU D ids s) (hH : zm_H base D ids lay σ H) (hS : va_S (zm_A base) s.heap H locs) (hls : ls.size = zm_ml M) {idx y np cN mc ms : Nat} {rs : List Nat} (hkr : zm_okc P M 0 idx (y :: np :: cN :: mc :: ms :: rs) = true)
    {N : zm_Mth} (hN : P y = some N) {st : List Value} {r : List Value} (hst : st.drop np = .ref a :: r) (ha : lay[a]? = some (0, cN)) (hroom : (r.map fun v => v.category).sum ≤ 8) (hcap : cells + mc ≤ (zm_ro M).2.2.1 ∧ slots + ms ≤ (zm_ro M).2.2.2)
    (hsl : (lg_sl (.ref a :: (st.take np).reverse)).length ≤ zm_ml N) {out : zm_Out} (hrun : zn_run P n y (0, lv_args 0 (.ref a :: (st.take np).reverse), [], lay, σ, 0, 0) = some out) (hdg : decode (zm_by M) pc = .ok (.invokevirtual idx, 3))
    (kk : ∀ (H1 : Heap) (locs1 : List Loc), zm_H base D ids out.2.1 out.2.2 H1 → va_S (zm_A base) s.heap H1 locs1 → W p l e (zm_rm M) s m args below meth c H1 locs1 (cells + mc) (slots + ms) Q (F0 m (pc + 3) ls ((out.1.map (zm_tr base)).toList ++ r.map (zm_tr base)))) :
    W p l e (zm_rm M) s m args below meth c H locs cells slots Q (F0 m pc ls (st.map (zm_tr base))) := by
  obtain ⟨hx, hb, hr, hml, hown, hts, hlocks, hname⟩ := B
  obtain ⟨y', np', cN', mc', ms', rk', ti, nest, N', hrs, hN', o1, o2, o3, o4, o5, o6, o7, o8⟩ := zm_okc_spec hkr
  cases hrs
  have hNN : N' = N := Option.some.inj (hN'.symm.trans hN)
  subst hNN
  obtain ⟨m1, m2, m3, m4, m5, -, -⟩ := zm_okm_spec (hOk.1 y N' hN).1
  obtain ⟨m6, m7, m8⟩ := m5 o3
  have hM := zn_met ih hN m1 hsl hrun (base := base) (D := D) (ids := ids)
  rw [o4, o5] at hM
  have hlen : np ≤ st.length := by
    rcases Nat.lt_or_ge st.length np with q | q
    · rw [List.drop_eq_nil_of_le (by omega)] at hst; cases hst
    · exact q
  have hAs : (((st.take np).reverse).map (zm_tr base)).length = np := by simp [Nat.min_eq_left hlen]
  have hstack : st.map (zm_tr base) = (((st.take np).reverse).map (zm_tr base)).reverse ++ .ref (base + a) :: r.map (zm_tr base) := by
    conv => lhs; rw [← List.take_append_drop np st, hst]
    simp [zm_tr]
  have hrec : ∃ cellB : Cell, H[base + a]? = some cellB ∧ cellB.vm.isStatics = false ∧ s.vm.findClass (zm_nm N').cls = some cellB.cls := by
    obtain ⟨r9, h9, -⟩ := hH.2 a _ ha
    have e9 : r9.1 = (zm_nm N').cls := by
      rw [← o2] at h9
      have h9 : zm_cl[(zm_ix N').1]? = some r9 := h9
      unfold zm_cl at h9
      rw [List.getElem?_map] at h9
      cases hz : zm_CF[(zm_ix N').1]? with
      | none => rw [hz] at h9; cases h9
      | some z =>
        rw [hz] at h9 m8
        cases h9
        exact Option.some.inj m8
    rw [← e9]
    exact va_recv hK.1 (zm_one hH ha) h9 (q0 := 0) rfl
  have hcat : ((r.map (zm_tr base)).map fun v => v.category).sum ≤ 8 := by
    rw [List.map_map]
    have : (r.map ((fun v => v.category) ∘ zm_tr base)) = r.map fun v => v.category := List.map_congr_left fun v _ => zm_tr_cat base v
    rw [this]; exact hroom
  rw [hstack]
  rcases o8 with ⟨-, hw⟩ | ⟨-, hw⟩
  · refine zm_called (va_runV (C := (zm_nm N').cls) (b := base + a) (As := ((st.take np).reverse).map (zm_tr base)) (rest := r.map (zm_tr base)) ⟨hx, hb, hml, hown, hts⟩ hM (cwV np hts (zm_good fun w hw' => ?_) rfl o4 o5 ⟨rfl, m2.1, m2.2.1, by rw [m2.2.2, o1]⟩ ⟨o6, o7⟩) ⟨zm_blind, hrec, zm_pre (av := .ref a :: (st.take np).reverse) hK hH⟩ rfl hAs hls rfl (lv_room hcat) hdg hcap) hS kk
    rcases List.mem_append.mp hw' with h | h
    · simp only [List.mem_cons, List.not_mem_nil, or_false] at h
      rcases h with rfl | rfl | rfl | rfl
      · exact zm_wd_mem hw
      · exact m6
      · exact m7
      · exact m4
    · exact zm_wsgood m3 w h
  · simp only [zm_wn, Bool.and_eq_true, decide_eq_true_eq] at hw
    have hts' : ∀ w ∈ zm_Tb, w.before args s = true := fun w h => hts w (List.mem_cons_of_mem _ h)
    exact zm_called (va_runVN (C := (zm_nm N').cls) (host := "SubgroupWriter") (b := base + a) (As := ((st.take np).reverse).map (zm_tr base)) (rest := r.map (zm_tr base)) ⟨hx, hb, hml, hown, hts⟩ hM ⟨va_cnB np hts (zm_good (zm_wsgood m3)) rfl o4 o5 (hK.2.1 _ (List.mem_of_getElem? hw.1) hw.2) (hts' _ m4) ⟨m2.1, m2.2.1, by rw [m2.2.2, o1]⟩ ⟨o6, o7⟩, hts' _ m6, hts' _ m7⟩ ⟨zm_blind, hrec, zm_pre (av := .ref a :: (st.take np).reverse) hK hH⟩ rfl hAs hls rfl (lv_room hcat) hdg hcap) hS kk
theorem zn_wstat (hOk : zm_Ok P) {n : Nat} (ih : zn_Snd P l base D ids n) (B : zm_B p s m args meth c M) (hK : zm_KU D ids s) (hH : zm_H base D ids lay σ H) (hS : va_S (zm_A base) s.heap H locs) (hls : ls.size = zm_ml M) {idx y np cN mc ms : Nat} {rs : List Nat} (hkr : zm_okc P M 1 idx (y :: np :: cN :: mc :: ms :: rs) = true)
    {N : zm_Mth} (hN : P y = some N) {st : List Value} (hlen : np ≤ st.length) (hroom : ((st.drop np).map fun v => v.category).sum ≤ 8) (hcap : cells + mc ≤ (zm_ro M).2.2.1 ∧ slots + ms ≤ (zm_ro M).2.2.2)
    (hsl : (lg_sl ((st.take np).reverse)).length ≤ zm_ml N) {out : zm_Out} (hrun : zn_run P n y (0, lv_args 0 ((st.take np).reverse), [], lay, σ, 0, 0) = some out) (hdg : decode (zm_by M) pc = .ok (.invokestatic idx, 3))
    (kk : ∀ (H1 : Heap) (locs1 : List Loc), zm_H base D ids out.2.1 out.2.2 H1 → va_S (zm_A base) s.heap H1 locs1 → W p l e (zm_rm M) s m args below meth c H1 locs1 (cells + mc) (slots + ms) Q (F0 m (pc + 3) ls ((out.1.map (zm_tr base)).toList ++ (st.drop np).map (zm_tr base)))) :
    W p l e (zm_rm M) s m args below meth c H locs cells slots Q (F0 m pc ls (st.map (zm_tr base))) := by
  obtain ⟨hx, hb, hr, hml, hown, hts, hlocks, hname⟩ := B
  obtain ⟨y', np', cN', mc', ms', rk', ti, nest, N', hrs, hN', o1, o2, o3, o4, o5, o6, o7, o8⟩ := zm_okc_spec hkr
  cases hrs
  have hNN : N' = N := Option.some.inj (hN'.symm.trans hN)
  subst hNN
  obtain ⟨m1, m2, m3, m4, -, m5, -⟩ := zm_okm_spec (hOk.1 y N' hN).1
  have m6 := m5 o3
  have hM := zn_met ih hN m1 hsl hrun (base := base) (D := D) (ids := ids)
  rw [o4, o5] at hM
  have hAs : (((st.take np).reverse).map (zm_tr base)).length = np := by simp [Nat.min_eq_left hlen]
  have hstack : st.map (zm_tr base) = (((st.take np).reverse).map (zm_tr base)).reverse ++ (st.drop np).map (zm_tr base) := by
    conv => lhs; rw [← List.take_append_drop np st]
    simp
  have hcat : (((st.drop np).map (zm_tr base)).map fun v => v.category).sum ≤ 8 := by
    rw [List.map_map]
    have : ((st.drop np).map ((fun v => v.category) ∘ zm_tr base)) = (st.drop np).map fun v => v.category := List.map_congr_left fun v _ => zm_tr_cat base v
    rw [this]; exact hroom
  have hts' : ∀ w ∈ zm_Tb, w.before args s = true := fun w h => hts w (List.mem_cons_of_mem _ h)
  rw [hstack]
  rcases o8 with ⟨-, hw⟩ | ⟨-, hw⟩
  · exact zm_called (va_runS (As := ((st.take np).reverse).map (zm_tr base)) (rest := (st.drop np).map (zm_tr base)) ⟨hx, hb, hml, hown, hts⟩ hM ⟨callB_of np hts (zm_good (zm_wsgood m3)) rfl o4 o5 (hts' _ m4) (hts' _ (zm_wd_mem hw)) ⟨m2.1, m2.2.1, by rw [m2.2.2, o1]⟩ ⟨o6, o7⟩, hts' _ m6⟩ ⟨zm_blind, zm_pre (av := (st.take np).reverse) hK hH⟩ rfl hAs hls rfl (lv_room hcat) hdg hcap) hS kk
  · simp only [zm_wn, Bool.and_eq_true, decide_eq_true_eq] at hw
    exact zm_called (va_runSN (host := "SubgroupWriter") (As := ((st.take np).reverse).map (zm_tr base)) (rest := (st.drop np).map (zm_tr base)) ⟨hx, hb, hml, hown, hts⟩ hM ⟨va_cnB np hts (zm_good (zm_wsgood m3)) rfl o4 o5 (hK.2.1 _ (List.mem_of_getElem? hw.1) hw.2) (hts' _ m4) ⟨m2.1, m2.2.1, by rw [m2.2.2, o1]⟩ ⟨o6, o7⟩, hts' _ m6, trivial⟩ ⟨zm_blind, zm_pre (av := (st.take np).reverse) hK hH⟩ rfl hAs hls rfl (lv_room hcat) hdg hcap) hS kk
theorem zn_wctor (hOk : zm_Ok P) {n : Nat} (ih : zn_Snd P l base D ids n) (B : zm_B p s m args meth c M) (hK : zm_KU D ids s) (hH : zm_H base D ids lay σ H) (hS : va_S (zm_A base) s.heap H locs) (hls : ls.size = zm_ml M) {idx y np cN mc ms : Nat} {rs : List Nat} (hkr : zm_okc P M 2 idx (y :: np :: cN :: mc :: ms :: rs) = true)
    {N : zm_Mth} (hN : P y = some N) {st : List Value} {r : List Value} (hst : st.drop np = .ref a :: r) (hroom : (r.map fun v => v.category).sum ≤ 8) (hcap : cells + mc ≤ (zm_ro M).2.2.1 ∧ slots + ms ≤ (zm_ro M).2.2.2)
    (hsl : (lg_sl (.ref a :: (st.take np).reverse)).length ≤ zm_ml N) {out : zm_Out} (hrun : zn_run P n y (0, lv_args 0 (.ref a :: (st.take np).reverse), [], lay, σ, 0, 0) = some out) (hdg : decode (zm_by M) pc = .ok (.invokespecial idx, 3))
    (kk : ∀ (H1 : Heap) (locs1 : List Loc), zm_H base D ids out.2.1 out.2.2 H1 → va_S (zm_A base) s.heap H1 locs1 → W p l e (zm_rm M) s m args below meth c H1 locs1 (cells + mc) (slots + ms) Q (F0 m (pc + 3) ls ((out.1.map (zm_tr base)).toList ++ r.map (zm_tr base)))) :
    W p l e (zm_rm M) s m args below meth c H locs cells slots Q (F0 m pc ls (st.map (zm_tr base))) := by
  obtain ⟨hx, hb, hr, hml, hown, hts, hlocks, hname⟩ := B
  obtain ⟨y', np', cN', mc', ms', rk', ti, nest, N', hrs, hN', o1, o2, o3, o4, o5, o6, o7, o8⟩ := zm_okc_spec hkr
  cases hrs
  have hNN : N' = N := Option.some.inj (hN'.symm.trans hN)
  subst hNN
  obtain ⟨m1, m2, m3, m4, -, -, m5⟩ := zm_okm_spec (hOk.1 y N' hN).1
  obtain ⟨m6, m7, m8⟩ := m5 o3
  have hM := zn_met ih hN m1 hsl hrun (base := base) (D := D) (ids := ids)
  rw [o4, o5] at hM
  have hlen : np ≤ st.length := by
    rcases Nat.lt_or_ge st.length np with q | q
    · rw [List.drop_eq_nil_of_le (by omega)] at hst; cases hst
    · exact q
  have hAs : (((st.take np).reverse).map (zm_tr base)).length = np := by simp [Nat.min_eq_left hlen]
  have hstack : st.map (zm_tr base) = (((st.take np).reverse).map (zm_tr base)).reverse ++ .ref (base + a) :: r.map (zm_tr base) := by
    conv => lhs; rw [← List.take_append_drop np st, hst]
    simp [zm_tr]
  have hcat : ((r.map (zm_tr base)).map fun v => v.category).sum ≤ 8 := by
    rw [List.map_map]
    have : (r.map ((fun v => v.category) ∘ zm_tr base)) = r.map fun v => v.category := List.map_congr_left fun v _ => zm_tr_cat base v
    rw [this]; exact hroom
  have hts' : ∀ w ∈ zm_Tb, w.before args s = true := fun w h => hts w (List.mem_cons_of_mem _ h)
  have hws : zm_ws N' = Cond.code (zm_nm N') (zm_by N') (zm_ml N') none :: zm_Tb := by unfold zm_ws; rw [m8]
  rw [hstack]
  rcases o8 with ⟨-, hw⟩ | ⟨-, hw⟩
  · exact zm_called (va_runI (bytes := zm_by N') (maxL := zm_ml N') (b := base + a) (As := ((st.take np).reverse).map (zm_tr base)) (rest := r.map (zm_tr base)) ⟨hx, hb, hml, hown, hts⟩ hM ⟨callB_of np hts (zm_good (zm_wsgood m3)) hws o4 o5 (hts' _ m4) (hts' _ (zm_wd_mem hw)) ⟨m2.1, m2.2.1, by rw [m2.2.2, o1]⟩ ⟨o6, o7⟩, m7, hts' _ m6⟩ ⟨zm_blind, zm_pre (av := .ref a :: (st.take np).reverse) hK hH⟩ rfl hAs hls rfl (lv_room hcat) hdg hcap) hS kk
  · simp only [zm_wn, Bool.and_eq_true, decide_eq_true_eq] at hw
    exact zm_called (va_runIN (bytes := zm_by N') (maxL := zm_ml N') (host := "SubgroupWriter") (b := base + a) (As := ((st.take np).reverse).map (zm_tr base)) (rest := r.map (zm_tr base)) ⟨hx, hb, hml, hown, hts⟩ hM ⟨va_cnB np hts (zm_good (zm_wsgood m3)) hws o4 o5 (hK.2.1 _ (List.mem_of_getElem? hw.1) hw.2) (hts' _ m4) ⟨m2.1, m2.2.1, by rw [m2.2.2, o1]⟩ ⟨o6, o7⟩, m7, hts' _ m6⟩ ⟨zm_blind, zm_pre (av := .ref a :: (st.take np).reverse) hK hH⟩ rfl hAs hls rfl (lv_room hcat) hdg hcap) hS kk
end ZMC
theorem zn_snd_succ {P : Nat → Option zm_Mth} (hOk : zm_Ok P) {l : Launch} {base : Nat} {D : va_G} {ids : Nat → ClassId} {n : Nat} (ih : zn_Snd P l base D ids n) : zn_Snd P l base D ids (n + 1) := by
  intro y M x out hy hrun p e s m args below meth c H locs ls B hK hbs hH hS hl
  obtain ⟨pc, lo, st, lay, σ, nc, ns⟩ := x
  obtain ⟨hx, hb, hr, hml, hown, hts, hlocks, hname⟩ := id B
  obtain ⟨hok1, hok2, hok3⟩ := hOk.1 y M hy
  unfold zn_run at hrun
  rw [hy] at hrun
  dsimp only at hH hl hrun ⊢
  cases hf : zm_find (zm_en M) pc with
  | none => simp [hf] at hrun
  | some en =>
    obtain ⟨hmem, hpc⟩ := zm_find_mem hf
    obtain ⟨pc', ins, ln, rs⟩ := en
    have hpc : pc' = pc := hpc
    subst hpc
    have hdg : decode (zm_by M) pc' = .ok (ins, ln) := by simpa using List.all_eq_true.mp hok2 _ hmem
    have hkr : zm_okr P M pc' ins ln rs = true := List.all_eq_true.mp hok3 _ hmem
    have h := hrun
    simp only [Option.bind_some, hf] at h
    clear hrun hf hmem hok2 hok3
    have go : ∀ (x : zm_St), zn_run P n y (zm_nx (zm_cu M) x) = some out → ∀ (H : Heap) (locs : List Loc) (ls : Array Slot), zm_H base D ids x.2.2.2.1 x.2.2.2.2.1 H → va_S (zm_A base) s.heap H locs → lv_has ls (zm_ml M) (zm_lo base x.2.1) →
      W p l e (zm_rm M) s m args below meth c H locs x.2.2.2.2.2.1 x.2.2.2.2.2.2 (MQ below (zm_Q base D ids out) args s (zm_ro M).2.2.1 (zm_ro M).2.2.2 (zm_A base)) (F0 m x.1 ls (x.2.2.1.map (zm_tr base))) := fun x hx H locs ls a b d => by
      have := ih y M (zm_nx (zm_cu M) x) out hy hx p e s m args below meth c H locs ls B hK hbs
      unfold zm_nx at this
      split at this
      · next live hlv => exact this a b ⟨d.1, d.2.1, fun q hq => by
          obtain ⟨q0, h0, rfl⟩ := List.mem_map.mp hq
          exact d.2.2 _ (List.mem_map.mpr ⟨q0, zm_nrm_mem h0, rfl⟩)⟩
      · exact this a b d
    have hq : ∀ (v : Option Value) (H : Heap) (locs : List Loc), va_S (zm_A base) s.heap H locs → out = (v, lay, σ) → zm_H base D ids lay σ H → ∀ t : State, t.heap = H → s.WarmedH t.vm → zm_Q base D ids out args s (.returned (v.map (zm_tr base))) t := fun v H locs hS ho hH t ht _ => by
      subst ho
      exact ⟨rfl, by rw [ht]; exact hH, hS.F ht⟩
    cases ins with
    | iconst n =>
      simp only [zm_okr, decide_eq_true_eq] at hkr
      subst hkr
      exact lv_iconst hx hb hdg rfl (go _ h H locs ls hH hS hl)
    | bipush n =>
      simp only [zm_okr, Bool.and_eq_true, decide_eq_true_eq] at hkr
      obtain ⟨rfl, hv⟩ := hkr
      exact lv_bipush hx hb hdg hv (go _ h H locs ls hH hS hl)
    | sipush n =>
      simp only [zm_okr, Bool.and_eq_true, decide_eq_true_eq] at hkr
      obtain ⟨rfl, hv⟩ := hkr
      exact lv_sipush hx hb hdg hv (go _ h H locs ls hH hS hl)
    | lconst n =>
      simp only [zm_okr, decide_eq_true_eq] at hkr
      subst hkr
      exact lv_lconst hx hb hdg rfl (go _ h H locs ls hH hS hl)
    | ldc_w i =>
      simp only [zm_okr] at hkr
      split at hkr
      · simp only [Bool.and_eq_true, decide_eq_true_eq] at hkr
        obtain ⟨rfl, hw⟩ := hkr
        exact lv_ldcw hx hb hown (hts _ (List.mem_cons_of_mem _ (zm_wd_mem hw))) hdg (go _ h H locs ls hH hS hl)
      · cases hkr
    | ldc2_w i =>
      simp only [zm_okr] at hkr
      split at hkr
      · simp only [Bool.and_eq_true, decide_eq_true_eq] at hkr
        obtain ⟨rfl, hw⟩ := hkr
        exact lv_ldc2 hx hb hown (hts _ (List.mem_cons_of_mem _ (zm_wd_mem hw))) hdg (go _ h H locs ls hH hS hl)
      · cases hkr
    | aconst_null =>
      simp only [zm_okr, decide_eq_true_eq] at hkr
      subst hkr
      exact lv_null hx hb hdg (go _ h H locs ls hH hS hl)
    | iload_n k =>
      simp only [zm_okr, decide_eq_true_eq] at hkr
      subst hkr
      simp only [zn_stp] at h
      split at h
      · next v hv => exact lv_iload_n hx hb hdg rfl (zm_ld hl hv) (go _ h H locs ls hH hS hl)
      · cases h
    | iload k =>
      simp only [zm_okr, decide_eq_true_eq] at hkr
      subst hkr
      simp only [zn_stp] at h
      split at h
      · next v hv => exact lv_iload hx hb hdg (zm_ld hl hv) (go _ h H locs ls hH hS hl)
      · cases h
    | lload_n k =>
      simp only [zm_okr, decide_eq_true_eq] at hkr
      subst hkr
      simp only [zn_stp] at h
      split at h
      · next v hv => exact lv_lload_n hx hb hdg rfl (zm_ld hl hv) (go _ h H locs ls hH hS hl)
      · cases h
    | lload k =>
      simp only [zm_okr, decide_eq_true_eq] at hkr
      subst hkr
      simp only [zn_stp] at h
      split at h
      · next v hv => exact lv_lload hx hb hdg (zm_ld hl hv) (go _ h H locs ls hH hS hl)
      · cases h
    | aload_n k =>
      simp only [zm_okr, decide_eq_true_eq] at hkr
      subst hkr
      simp only [zn_stp] at h
      split at h
      · next v hv => exact lv_aload_n hx hb hdg rfl (zm_ld hl hv) (go _ h H locs ls hH hS hl)
      · cases h
    | aload k =>
      simp only [zm_okr, decide_eq_true_eq] at hkr
      subst hkr
      simp only [zn_stp] at h
      split at h
      · next v hv => exact lv_aload hx hb hdg (zm_ld hl hv) (go _ h H locs ls hH hS hl)
      · cases h
    | istore_n k =>
      simp only [zm_okr, Bool.and_eq_true, decide_eq_true_eq] at hkr
      obtain ⟨rfl, hn⟩ := hkr
      simp only [zn_stp] at h
      split at h
      · next v r => exact lv_istore_n hx hb hdg rfl hl hn (zm_lo_s1 base lo _ (.int v)) (fun ls hl => go _ h H locs ls hH hS hl)
      · cases h
    | istore k =>
      simp only [zm_okr, Bool.and_eq_true, decide_eq_true_eq] at hkr
      obtain ⟨rfl, hn⟩ := hkr
      simp only [zn_stp] at h
      split at h
      · next v r => exact lv_istore hx hb hdg hl hn (zm_lo_s1 base lo _ (.int v)) (fun ls hl => go _ h H locs ls hH hS hl)
      · cases h
    | lstore_n k =>
      simp only [zm_okr, Bool.and_eq_true, decide_eq_true_eq] at hkr
      obtain ⟨rfl, hn⟩ := hkr
      simp only [zn_stp] at h
      split at h
      · next v r => exact lv_lstore_n hx hb hdg rfl hl hn (zm_lo_s2 base lo _ (.long v)) (fun ls hl => go _ h H locs ls hH hS hl)
      · cases h
    | lstore k =>
      simp only [zm_okr, Bool.and_eq_true, decide_eq_true_eq] at hkr
      obtain ⟨rfl, hn⟩ := hkr
      simp only [zn_stp] at h
      split at h
      · next v r => exact lv_lstore hx hb hdg hl hn (zm_lo_s2 base lo _ (.long v)) (fun ls hl => go _ h H locs ls hH hS hl)
      · cases h
    | astore_n k =>
      simp only [zm_okr, Bool.and_eq_true, decide_eq_true_eq] at hkr
      obtain ⟨rfl, hn⟩ := hkr
      simp only [zn_stp] at h
      split at h
      · next v r => exact lv_astore_n hx hb hdg rfl hl hn (zm_lo_s1 base lo _ (.ref v)) (fun ls hl => go _ h H locs ls hH hS hl)
      · cases h
    | astore k =>
      simp only [zm_okr, Bool.and_eq_true, decide_eq_true_eq] at hkr
      obtain ⟨rfl, hn⟩ := hkr
      simp only [zn_stp] at h
      split at h
      · next v r => exact lv_astore hx hb hdg hl hn (zm_lo_s1 base lo _ (.ref v)) (fun ls hl => go _ h H locs ls hH hS hl)
      · cases h
    | iinc i k =>
      simp only [zm_okr, Bool.and_eq_true, decide_eq_true_eq] at hkr
      obtain ⟨rfl, hn⟩ := hkr
      simp only [zn_stp] at h
      split at h
      · next v hv =>
        obtain ⟨j, hj⟩ := List.getElem?_of_mem (zm_lookup hv)
        have hj2 : (zm_lo base lo)[j]? = some (i, .int v) := by unfold zm_lo; rw [List.getElem?_map, hj]; rfl
        exact lv_iinc hx hb hdg hl hj2 rfl hn (zm_lo_s1 base lo i (.int (v + Int32.ofInt k))) (fun ls hl => go _ h H locs ls hH hS hl)
      · cases h
    | iadd =>
      simp only [zm_okr, decide_eq_true_eq] at hkr
      subst hkr
      simp only [zn_stp] at h
      split at h
      · exact lv_iadd hx hb hdg (go _ h H locs ls hH hS hl)
      · cases h
    | isub =>
      simp only [zm_okr, decide_eq_true_eq] at hkr
      subst hkr
      simp only [zn_stp] at h
      split at h
      · exact lv_isub hx hb hdg (go _ h H locs ls hH hS hl)
      · cases h
    | imul =>
      simp only [zm_okr, decide_eq_true_eq] at hkr
      subst hkr
      simp only [zn_stp] at h
      split at h
      · exact lv_imul hx hb hdg (go _ h H locs ls hH hS hl)
      · cases h
    | iand =>
      simp only [zm_okr, decide_eq_true_eq] at hkr
      subst hkr
      simp only [zn_stp] at h
      split at h
      · exact lv_iand hx hb hdg (go _ h H locs ls hH hS hl)
      · cases h
    | ior =>
      simp only [zm_okr, decide_eq_true_eq] at hkr
      subst hkr
      simp only [zn_stp] at h
      split at h
      · exact lv_ior hx hb hdg (go _ h H locs ls hH hS hl)
      · cases h
    | ixor =>
      simp only [zm_okr, decide_eq_true_eq] at hkr
      subst hkr
      simp only [zn_stp] at h
      split at h
      · exact lv_ixor hx hb hdg (go _ h H locs ls hH hS hl)
      · cases h
    | ishl =>
      simp only [zm_okr, decide_eq_true_eq] at hkr
      subst hkr
      simp only [zn_stp] at h
      split at h
      · exact lv_ishl hx hb hdg (go _ h H locs ls hH hS hl)
      · cases h
    | ishr =>
      simp only [zm_okr, decide_eq_true_eq] at hkr
      subst hkr
      simp only [zn_stp] at h
      split at h
      · exact lv_ishr hx hb hdg (go _ h H locs ls hH hS hl)
      · cases h
    | ladd =>
      simp only [zm_okr, decide_eq_true_eq] at hkr
      subst hkr
      simp only [zn_stp] at h
      split at h
      · exact lv_ladd hx hb hdg (go _ h H locs ls hH hS hl)
      · cases h
    | lmul =>
      simp only [zm_okr, decide_eq_true_eq] at hkr
      subst hkr
      simp only [zn_stp] at h
      split at h
      · exact lv_lmul hx hb hdg (go _ h H locs ls hH hS hl)
      · cases h
    | idiv =>
      simp only [zm_okr, decide_eq_true_eq] at hkr
      subst hkr
      simp only [zn_stp] at h
      split at h
      · split at h
        · cases h
        · next hne => exact lv_idiv hx hb hdg hne (go _ h H locs ls hH hS hl)
      · cases h
    | irem =>
      simp only [zm_okr, decide_eq_true_eq] at hkr
      subst hkr
      simp only [zn_stp] at h
      split at h
      · split at h
        · cases h
        · next hne => exact lv_irem hx hb hdg hne (go _ h H locs ls hH hS hl)
      · cases h
    | ldiv =>
      simp only [zm_okr, decide_eq_true_eq] at hkr
      subst hkr
      simp only [zn_stp] at h
      split at h
      · split at h
        · cases h
        · next hne => exact lv_ldiv hx hb hdg hne (go _ h H locs ls hH hS hl)
      · cases h
    | lrem =>
      simp only [zm_okr, decide_eq_true_eq] at hkr
      subst hkr
      simp only [zn_stp] at h
      split at h
      · split at h
        · cases h
        · next hne => exact lv_lrem hx hb hdg hne (go _ h H locs ls hH hS hl)
      · cases h
    | ineg =>
      simp only [zm_okr, decide_eq_true_eq] at hkr
      subst hkr
      simp only [zn_stp] at h
      split at h
      · exact lv_ineg hx hb hdg (go _ h H locs ls hH hS hl)
      · cases h
    | iushr =>
      simp only [zm_okr, decide_eq_true_eq] at hkr
      subst hkr
      simp only [zn_stp] at h
      split at h
      · exact lv_iushr hx hb hdg rfl (go _ h H locs ls hH hS hl)
      · cases h
    | i2l =>
      simp only [zm_okr, decide_eq_true_eq] at hkr
      subst hkr
      simp only [zn_stp] at h
      split at h
      · exact lv_i2l hx hb hdg rfl (go _ h H locs ls hH hS hl)
      · cases h
    | l2i =>
      simp only [zm_okr, decide_eq_true_eq] at hkr
      subst hkr
      simp only [zn_stp] at h
      split at h
      · exact lv_l2i hx hb hdg rfl (go _ h H locs ls hH hS hl)
      · cases h
    | i2b =>
      simp only [zm_okr, decide_eq_true_eq] at hkr
      subst hkr
      simp only [zn_stp] at h
      split at h
      · exact lv_i2b hx hb hdg rfl (go _ h H locs ls hH hS hl)
      · cases h
    | lcmp =>
      simp only [zm_okr, decide_eq_true_eq] at hkr
      subst hkr
      simp only [zn_stp] at h
      split at h
      · exact W.lcmp hx hb hdg (go _ h H locs ls hH hS hl)
      · cases h
    | dup =>
      simp only [zm_okr, decide_eq_true_eq] at hkr
      subst hkr
      simp only [zn_stp] at h
      split at h
      · exact lv_dup hx hb hdg rfl (go _ h H locs ls hH hS hl)
      · exact lv_dup hx hb hdg rfl (go _ h H locs ls hH hS hl)
      · cases h
    | dup2 =>
      simp only [zm_okr, decide_eq_true_eq] at hkr
      subst hkr
      simp only [zn_stp] at h
      split at h
      · exact lv_dup2_11 hx hb hdg rfl rfl (go _ h H locs ls hH hS hl)
      · cases h
    | pop =>
      simp only [zm_okr, decide_eq_true_eq] at hkr
      subst hkr
      simp only [zn_stp] at h
      split at h
      · exact lv_pop hx hb hdg rfl (go _ h H locs ls hH hS hl)
      · cases h
    | ifCond cd o =>
      simp only [zm_okr] at hkr
      split at hkr
      · simp only [Bool.and_eq_true, decide_eq_true_eq] at hkr
        obtain ⟨rfl, ht⟩ := hkr
        simp only [zn_stp] at h
        split at h
        · next heq =>
          cases heq
          cases cd <;> simp only [zm_cnd] at h
          · refine lv_if_eq hx hb hdg ht (fun c1 => ?_) (fun c1 => ?_)
            · rw [if_pos c1] at h; exact go _ h H locs ls hH hS hl
            · rw [if_neg c1] at h; exact go _ h H locs ls hH hS hl
          · refine lv_if_ne hx hb hdg ht (fun c1 => ?_) (fun c1 => ?_)
            · rw [if_pos c1] at h; exact go _ h H locs ls hH hS hl
            · rw [if_neg (fun z => z c1)] at h; exact go _ h H locs ls hH hS hl
          · refine lv_if_lt hx hb hdg ht (fun c1 => ?_) (fun c1 => ?_)
            · rw [if_pos c1] at h; exact go _ h H locs ls hH hS hl
            · rw [if_neg c1] at h; exact go _ h H locs ls hH hS hl
          · refine lv_if_ge hx hb hdg ht (fun c1 => ?_) (fun c1 => ?_)
            · rw [if_pos c1] at h; exact go _ h H locs ls hH hS hl
            · rw [if_neg c1] at h; exact go _ h H locs ls hH hS hl
          · refine lv_if_gt hx hb hdg ht (fun c1 => ?_) (fun c1 => ?_)
            · rw [if_pos c1] at h; exact go _ h H locs ls hH hS hl
            · rw [if_neg c1] at h; exact go _ h H locs ls hH hS hl
          · refine lv_if_le hx hb hdg ht (fun c1 => ?_) (fun c1 => ?_)
            · rw [if_pos c1] at h; exact go _ h H locs ls hH hS hl
            · rw [if_neg c1] at h; exact go _ h H locs ls hH hS hl
        · cases h
      · cases hkr
    | if_icmp cd o =>
      simp only [zm_okr] at hkr
      split at hkr
      · simp only [Bool.and_eq_true, decide_eq_true_eq] at hkr
        obtain ⟨rfl, ht⟩ := hkr
        simp only [zn_stp] at h
        split at h
        · next heq =>
          cases heq
          cases cd <;> simp only [zm_cnd] at h
          · refine lv_icmp_eq hx hb hdg ht (fun c1 => ?_) (fun c1 => ?_)
            · rw [if_pos c1] at h; exact go _ h H locs ls hH hS hl
            · rw [if_neg c1] at h; exact go _ h H locs ls hH hS hl
          · refine lv_icmp_ne hx hb hdg ht (fun c1 => ?_) (fun c1 => ?_)
            · rw [if_pos c1] at h; exact go _ h H locs ls hH hS hl
            · rw [if_neg (fun z => z c1)] at h; exact go _ h H locs ls hH hS hl
          · refine lv_icmp_lt hx hb hdg ht (fun c1 => ?_) (fun c1 => ?_)
            · rw [if_pos c1] at h; exact go _ h H locs ls hH hS hl
            · rw [if_neg c1] at h; exact go _ h H locs ls hH hS hl
          · refine lv_icmp_ge hx hb hdg ht (fun c1 => ?_) (fun c1 => ?_)
            · rw [if_pos c1] at h; exact go _ h H locs ls hH hS hl
            · rw [if_neg c1] at h; exact go _ h H locs ls hH hS hl
          · refine lv_icmp_gt hx hb hdg ht (fun c1 => ?_) (fun c1 => ?_)
            · rw [if_pos c1] at h; exact go _ h H locs ls hH hS hl
            · rw [if_neg c1] at h; exact go _ h H locs ls hH hS hl
          · refine lv_icmp_le hx hb hdg ht (fun c1 => ?_) (fun c1 => ?_)
            · rw [if_pos c1] at h; exact go _ h H locs ls hH hS hl
            · rw [if_neg c1] at h; exact go _ h H locs ls hH hS hl
        · cases h
      · cases hkr
    | ifnonnull o =>
      simp only [zm_okr] at hkr
      split at hkr
      · simp only [Bool.and_eq_true, decide_eq_true_eq] at hkr
        obtain ⟨rfl, ht⟩ := hkr
        simp only [zn_stp] at h
        split at h
        · next heq => cases heq; exact lv_ifnonnull hx hb hdg ht (go _ h H locs ls hH hS hl)
        · exact lv_ifnonnullN hx hb hdg (go _ h H locs ls hH hS hl)
        · cases h
      · cases hkr
    | goto o =>
      simp only [zm_okr] at hkr
      split at hkr
      · simp only [Bool.and_eq_true, decide_eq_true_eq] at hkr
        obtain ⟨rfl, ht⟩ := hkr
        exact lv_goto hx hb hdg ht (go _ h H locs ls hH hS hl)
      · cases hkr
    | tableswitch d0 lo0 hi0 offs =>
      simp only [zm_okr] at hkr
      split at hkr
      · simp only [Bool.and_eq_true, decide_eq_true_eq] at hkr
        obtain ⟨⟨⟨⟨hd, h0⟩, h1⟩, h2⟩, h3⟩ := hkr
        simp only [zn_stp] at h
        split at h
        · next heq =>
          cases heq
          rcases zm_tb_spec offs.toList lo0 _ h3 h0 (by omega) h with ⟨i, o, t, e1, e2, e3, e4⟩ | ⟨e1, e2⟩
          · have hi : i < offs.toList.length := (List.getElem?_eq_some_iff.mp e1).1
            refine lv_tableIn hx hb hdg (by omega) (by omega) (off := o) ?_ e3 (go _ e4 H locs ls hH hS hl)
            rw [e2, show (lo0 + (i : Int) - lo0).toNat = i by omega, ← Array.getElem?_toList]
            exact e1
          · exact lv_tableOut hx hb hdg (by omega) hd (go _ e2 H locs ls hH hS hl)
        · cases h
      · cases hkr
    | lookupswitch d0 qs =>
      simp only [zm_okr] at hkr
      split at hkr
      · simp only [Bool.and_eq_true, decide_eq_true_eq] at hkr
        obtain ⟨⟨hd, h1⟩, h3⟩ := hkr
        simp only [zn_stp] at h
        split at h
        · next heq =>
          cases heq
          obtain ⟨t, e1, e2⟩ := zm_lk_spec hd qs.toList _ h3 h
          exact lv_lookup hx hb hdg h1 rfl e1 (go _ e2 H locs ls hH hS hl)
        · cases h
      · cases hkr
    | aaload =>
      simp only [zm_okr, decide_eq_true_eq] at hkr
      subst hkr
      simp only [zn_stp] at h
      split at h
      · obtain ⟨v, hv, h⟩ := Option.bind_eq_some_iff.mp h
        obtain ⟨n1, h1, h2, rfl⟩ := zm_gR_spec hv
        refine zm_waald hx hb hK hH h1 h2 hdg ?_
        generalize σ.2.2 _ _ = o at h ⊢
        cases o with
        | none => cases h
        | some q => exact go _ h H locs ls hH hS hl
      · cases h
    | iaload =>
      simp only [zm_okr, decide_eq_true_eq] at hkr
      subst hkr
      simp only [zn_stp] at h
      split at h
      · obtain ⟨v, hv, h⟩ := Option.bind_eq_some_iff.mp h
        obtain ⟨n1, h1, h2, rfl⟩ := zm_gI_spec hv
        exact va_iald hx hb hK.1 (zm_one hH h1) 0 0 rfl rfl h2 hdg (go _ h H locs ls hH hS hl)
      · cases h
    | baload =>
      simp only [zm_okr, decide_eq_true_eq] at hkr
      subst hkr
      simp only [zn_stp] at h
      split at h
      · obtain ⟨v, hv, h⟩ := Option.bind_eq_some_iff.mp h
        obtain ⟨n1, h1, h2, rfl⟩ := zm_gZ_spec hv
        exact va_zald hx hb hK.1 (zm_one hH h1) 0 2 rfl rfl h2 hdg (go _ h H locs ls hH hS hl)
      · cases h
    | laload =>
      simp only [zm_okr, decide_eq_true_eq] at hkr
      subst hkr
      simp only [zn_stp] at h
      split at h
      · obtain ⟨v, hv, h⟩ := Option.bind_eq_some_iff.mp h
        obtain ⟨n1, h1, h2, rfl⟩ := zm_gL_spec hv
        exact va_lald hx hb hK.1 (zm_one hH h1) 0 1 rfl rfl h2 hdg (go _ h H locs ls hH hS hl)
      · cases h
    | arraylength =>
      simp only [zm_okr, decide_eq_true_eq] at hkr
      subst hkr
      simp only [zn_stp] at h
      split at h
      · obtain ⟨v, hv, h⟩ := Option.bind_eq_some_iff.mp h
        obtain ⟨k1, n1, h1, rfl⟩ := zm_len_spec hv
        exact zm_walen hx hb hK hH h1 hdg (go _ h H locs ls hH hS hl)
      · cases h
    | iastore =>
      simp only [zm_okr, decide_eq_true_eq] at hkr
      subst hkr
      simp only [zn_stp] at h
      split at h
      · obtain ⟨v, hv, h⟩ := Option.bind_eq_some_iff.mp h
        obtain ⟨n1, h1, h2, rfl⟩ := zm_sI_spec hv
        exact zm_wiast hx hb hK hH hS h1 h2 hdg (fun H1 locs1 hH hS => go _ h H1 locs1 ls hH hS hl)
      · cases h
    | bastore =>
      simp only [zm_okr, decide_eq_true_eq] at hkr
      subst hkr
      simp only [zn_stp] at h
      split at h
      · obtain ⟨v, hv, h⟩ := Option.bind_eq_some_iff.mp h
        obtain ⟨n1, h1, h2, rfl⟩ := zm_sZ_spec hv
        exact zm_wzast hx hb hK hH hS h1 h2 hdg (fun H1 locs1 hH hS => go _ h H1 locs1 ls hH hS hl)
      · cases h
    | lastore =>
      simp only [zm_okr, decide_eq_true_eq] at hkr
      subst hkr
      simp only [zn_stp] at h
      split at h
      · obtain ⟨v, hv, h⟩ := Option.bind_eq_some_iff.mp h
        obtain ⟨n1, h1, h2, rfl⟩ := zm_sL_spec hv
        exact zm_wlast hx hb hK hH hS h1 h2 hdg (fun H1 locs1 hH hS => go _ h H1 locs1 ls hH hS hl)
      · cases h
    | aastore =>
      simp only [zm_okr, decide_eq_true_eq] at hkr
      subst hkr
      simp only [zn_stp] at h
      split at h
      · obtain ⟨v, hv, h⟩ := Option.bind_eq_some_iff.mp h
        obtain ⟨n1, k1, h1, h2, rfl⟩ := zm_sR_spec hv
        exact zm_waast hx hb hK hH hS h1 h2 hdg (fun H1 locs1 hH hS => go _ h H1 locs1 ls hH hS hl)
      · cases h
    | getfield i =>
      simp only [zm_okr, Bool.and_eq_true, decide_eq_true_eq] at hkr
      obtain ⟨rfl, hkr⟩ := hkr
      simp only [zn_stp] at h
      split at h
      · obtain ⟨u, hu, h⟩ := Option.bind_eq_some_iff.mp h
        exact zm_wget hOk B hK hH hkr (zm_is_spec hu) hdg (go _ (zm_fk_sp h) H locs ls hH hS hl)
      · cases h
    | putfield i =>
      simp only [zm_okr, Bool.and_eq_true, decide_eq_true_eq] at hkr
      obtain ⟨rfl, hkr⟩ := hkr
      simp only [zn_stp] at h
      split at h
      · obtain ⟨u, hu, h⟩ := Option.bind_eq_some_iff.mp h
        obtain ⟨σ1, hw, h⟩ := Option.bind_eq_some_iff.mp h
        exact zn_wput hOk B hK hH hS hkr (zm_is_spec hu) hdg hw (fun H1 locs1 hH hS => go _ h H1 locs1 ls hH hS hl)
      · cases h
    | invokevirtual i =>
      simp only [zm_okr, Bool.and_eq_true, decide_eq_true_eq] at hkr
      obtain ⟨rfl, hkr⟩ := hkr
      simp only [zn_stp] at h
      split at h
      · next y1 np c1 mc1 ms1 rk1 tl =>
        split at h
        · next a r hst =>
          obtain ⟨u, hu, h⟩ := Option.bind_eq_some_iff.mp h
          split at h
          · next hc =>
            obtain ⟨N, hN, h⟩ := Option.bind_eq_some_iff.mp h
            split at h
            · next hsl =>
              obtain ⟨o, ho, h⟩ := Option.bind_eq_some_iff.mp h
              refine zn_wvirt hOk ih B hK hH hS hl.1 hkr hN hst (zm_is_spec hu) hc.1 hc.2 hsl ho hdg (fun H1 locs1 hH hS => ?_)
              have := go _ h H1 locs1 ls hH hS hl
              rw [show (o.1.map (zm_tr base)).toList ++ r.map (zm_tr base) = (o.1.toList ++ r).map (zm_tr base) by cases o.1 <;> simp]
              exact this
            · cases h
          · cases h
        · cases h
      · cases h
    | invokestatic i =>
      simp only [zm_okr, Bool.and_eq_true, decide_eq_true_eq] at hkr
      obtain ⟨rfl, hkr⟩ := hkr
      simp only [zn_stp] at h
      split at h
      · next y1 np c1 mc1 ms1 rk1 tl =>
        split at h
        · next hc =>
          obtain ⟨N, hN, h⟩ := Option.bind_eq_some_iff.mp h
          split at h
          · next hsl =>
            obtain ⟨o, ho, h⟩ := Option.bind_eq_some_iff.mp h
            refine zn_wstat hOk ih B hK hH hS hl.1 hkr hN hc.1 hc.2.1 hc.2.2 hsl ho hdg (fun H1 locs1 hH hS => ?_)
            have := go _ h H1 locs1 ls hH hS hl
            rw [show (o.1.map (zm_tr base)).toList ++ (st.drop np).map (zm_tr base) = (o.1.toList ++ st.drop np).map (zm_tr base) by cases o.1 <;> simp]
            exact this
          · cases h
        · cases h
      · next hne =>
        split at hkr
        · next ti =>
          simp only [Bool.and_eq_true, decide_eq_true_eq] at hkr
          obtain ⟨⟨hw, hfr⟩, hlo⟩ := hkr
          split at h
          · next nn dp d sp s0 r =>
            split at h
            case isFalse => cases h
            next g4 =>
            obtain ⟨σ1, hcp, h⟩ := Option.bind_eq_some_iff.mp h
            unfold zm_cpy at hcp
            split at hcp
            · cases hcp
            · next hc =>
              simp only [not_or] at hc
              obtain ⟨g1, g2, g3⟩ := hc
              have hcat : ((r.map (zm_tr base)).map fun v => v.category).sum + (nativeFrameWords "java/lang/System" "arraycopy" 5 + 11) ≤ (zm_rm M).locals := by
                rw [List.map_map]
                have : (r.map ((fun v => v.category) ∘ zm_tr base)) = r.map fun v => v.category := List.map_congr_left fun v _ => zm_tr_cat base v
                rw [this]
                show _ ≤ (zm_ro M).2.1
                omega
              have w1 := hts _ (List.mem_cons_of_mem _ (zm_wd_mem hw))
              have w2 := hts _ (List.mem_cons_of_mem _ zm_acw.1)
              have w3 := hts _ (List.mem_cons_of_mem _ zm_acw.2.1)
              have w4 := hts _ (List.mem_cons_of_mem _ zm_acw.2.2)
              split at hcp
              · next n0 n1 hs0 hd0 =>
                split at hcp
                · cases hcp
                · next hc2 =>
                  cases hcp
                  simp only [not_or, Nat.not_lt] at hc2
                  refine zm_wcopy hx hb (hml.trans hl.1.symm) hown w1 w2 w3 w4 Value.int (hK.1.2 0 _ rfl).1 rfl (fun _ => rfl) (fun _ => Or.inl rfl) (hH.2 s0 _ hs0) (hH.2 d _ hd0) (fun z a h => by cases h) g1 g2 g3 hc2.1 hc2.2 hfr hcat hdg hS (Nat.le_add_right _ _) (fun H1 locs1 e1 z oq hS => ?_)
                  refine go _ h H1 locs1 ls (hH.put hd0 z oq ?_ (fun b sh hb => zm_cell_I sh hb)) hS hl
                  show H1[base + d]? = some (vp_cell (ids 1) (n1, .inl (va_up σ.1 d _ d)))
                  rw [e1, vp_cell_i]
                  simp [va_up]
              · next n0 n1 hs0 hd0 =>
                split at hcp
                · cases hcp
                · next hc2 =>
                  cases hcp
                  simp only [not_or, Nat.not_lt] at hc2
                  refine zm_wcopy hx hb (hml.trans hl.1.symm) hown w1 w2 w3 w4 Value.long (hK.1.2 1 _ rfl).1 rfl (fun _ => rfl) (fun _ => Or.inr rfl) (hH.2 s0 _ hs0) (hH.2 d _ hd0) (fun z a h => by cases h) g1 g2 g3 hc2.1 hc2.2 hfr hcat hdg hS (Nat.le_add_right _ _) (fun H1 locs1 e1 z oq hS => ?_)
                  refine go _ h H1 locs1 ls (hH.put hd0 z oq ?_ (fun b sh hb => zm_cell_L sh hb)) hS hl
                  show H1[base + d]? = some (vp_cell (ids 2) (n1, .inr (.inl (va_up σ.2.1 d _ d))))
                  rw [e1, vp_cell_l]
                  simp [va_up]
              · cases hcp
          · cases h
        · obtain ⟨y1, np, c1, mc1, ms1, rk1, ti, nest, N, rfl, -⟩ := zm_okc_spec hkr
          exact absurd rfl (hne _ _ _ _ _ _ _)
    | invokespecial i =>
      simp only [zm_okr, Bool.and_eq_true, decide_eq_true_eq] at hkr
      obtain ⟨rfl, hkr⟩ := hkr
      simp only [zn_stp] at h
      split at h
      · next y1 np c1 mc1 ms1 rk1 tl =>
        have hkr : zm_okc P M 2 i (y1 :: np :: c1 :: mc1 :: ms1 :: rk1 :: tl) = true := hkr
        split at h
        · next a r hst =>
          obtain ⟨u, hu, h⟩ := Option.bind_eq_some_iff.mp h
          split at h
          · next hc =>
            obtain ⟨N, hN, h⟩ := Option.bind_eq_some_iff.mp h
            split at h
            · next hsl =>
              obtain ⟨o, ho, h⟩ := Option.bind_eq_some_iff.mp h
              refine zn_wctor hOk ih B hK hH hS hl.1 hkr hN hst hc.1 hc.2 hsl ho hdg (fun H1 locs1 hH hS => ?_)
              have := go _ h H1 locs1 ls hH hS hl
              rw [show (o.1.map (zm_tr base)).toList ++ r.map (zm_tr base) = (o.1.toList ++ r).map (zm_tr base) by cases o.1 <;> simp]
              exact this
            · cases h
          · cases h
        · cases h
      · next hne =>
        split at hkr
        · next ti =>
          simp only [Bool.and_eq_true, decide_eq_true_eq] at hkr
          obtain ⟨⟨hw, hfr⟩, hlo⟩ := hkr
          split at h
          · next a r =>
            split at h
            · next g4 =>
              have hcat : 2 * (F0 m pc' ls (.ref (base + a) :: r.map (zm_tr base))).monitorRoom + ((r.map (zm_tr base)).map fun v => v.category).sum + 12 ≤ (zm_rm M).locals := by
                rw [List.map_map]
                have : (r.map ((fun v => v.category) ∘ zm_tr base)) = r.map fun v => v.category := List.map_congr_left fun v _ => zm_tr_cat base v
                rw [this]
                show 2 * 0 + _ + 12 ≤ (zm_ro M).2.1
                omega
              exact W.objInit hx hb hown (hts _ (List.mem_cons_of_mem _ (zm_wd_mem hw))) (hts _ (List.mem_cons_of_mem _ zm_obw.1)) (hts _ (List.mem_cons_of_mem _ zm_obw.2)) rfl (hl.1.trans hml.symm) rfl hdg hfr hcat (go _ h H locs ls hH hS hl)
            · cases h
          · cases h
        · obtain ⟨y1, np, c1, mc1, ms1, rk1, ti, nest, N, rfl, -⟩ := zm_okc_spec hkr
          exact absurd rfl (hne _ _ _ _ _ _ _)
    | new i =>
      simp only [zm_okr] at hkr
      split at hkr
      · split at hkr
        · next cf hcf =>
          simp only [Bool.and_eq_true, decide_eq_true_eq] at hkr
          obtain ⟨⟨rfl, rfl⟩, hw⟩ := hkr
          simp only [zn_stp] at h
          split at h
          · next hc =>
            exact zm_wnew hOk B hK hH hS hcf hw hc.1 hc.2 hdg (fun H1 hH hS => go _ h H1 locs ls hH hS hl)
          · cases h
        · cases hkr
      · cases hkr
    | newarray t =>
      simp only [zm_okr] at hkr
      split at hkr
      · simp only [Bool.and_eq_true, Bool.or_eq_true, decide_eq_true_eq] at hkr
        obtain ⟨rfl, hkt⟩ := hkr
        simp only [zn_stp] at h
        split at h
        · next heq =>
          cases heq
          split at h
          · next hc => exact zm_wnewa B hK hH hS (by rcases hkt with (q | q) | q; exact Or.inl q; exact Or.inr (Or.inl q); exact Or.inr (Or.inr q)) hc.1 hc.2.1 hc.2.2.1 hc.2.2.2 hdg zm_arw (fun H1 hH hS => go _ h H1 locs ls hH hS hl)
          · cases h
        · cases h
      · cases hkr
    | anewarray i =>
      simp only [zm_okr] at hkr
      split at hkr
      · simp only [Bool.and_eq_true, decide_eq_true_eq] at hkr
        obtain ⟨rfl, hw⟩ := hkr
        simp only [zn_stp] at h
        split at h
        · split at h
          · next hc => exact zm_wanew B hK hH hS hw hc.1 hc.2.1 hc.2.2.1 hc.2.2.2 hdg (fun H1 hH hS => go _ h H1 locs ls hH hS hl)
          · cases h
        · cases h
      · cases hkr
    | multianewarray i dd =>
      simp only [zm_okr] at hkr
      split at hkr
      · simp only [Bool.and_eq_true, decide_eq_true_eq] at hkr
        obtain ⟨⟨rfl, rfl⟩, hw⟩ := hkr
        simp only [zn_stp] at h
        split at h
        · split at h
          · next hc => exact zm_wmulti B hK hbs hH hS hw hc.1 hc.2.1 hc.2.2.1 hc.2.2.2.1 hc.2.2.2.2.1 hc.2.2.2.2.2 hdg (fun H1 hH hS => go _ h H1 locs ls hH hS hl)
          · cases h
        · cases h
      · cases hkr
    | ireturn =>
      simp only [zm_okr, decide_eq_true_eq] at hkr
      subst hkr
      simp only [zn_stp] at h
      split at h
      · next v =>
        split at h
        case isFalse => cases h
        next hcap =>
        split at h
        · next hrt =>
          have ho : out = (some (.int v), lay, σ) := (Option.some.inj h).symm
          refine W.widen (by first | exact hcap.1 | exact Nat.le_refl _) (by first | exact hcap.2 | exact Nat.le_refl _) ?_
          exact W.iret hx hb (hr.trans hrt) (hq _ H locs hS ho hH) hS.2.2 hdg
        · split at h
          · next hrt =>
            split at h
            · next hv =>
              have ho : out = (some (.int v), lay, σ) := (Option.some.inj h).symm
              refine W.widen (by first | exact hcap.1 | exact Nat.le_refl _) (by first | exact hcap.2 | exact Nat.le_refl _) ?_
              exact W.zret hx hb (hr.trans hrt) (by rcases hv with rfl | rfl <;> rfl) (hq _ H locs hS ho hH) hS.2.2 hdg
            · cases h
          · cases h
      · cases h
    | lreturn =>
      simp only [zm_okr, decide_eq_true_eq] at hkr
      subst hkr
      simp only [zn_stp] at h
      split at h
      · next v =>
        split at h
        case isFalse => cases h
        next hcap =>
        split at h
        · next hrt =>
          have ho : out = (some (.long v), lay, σ) := (Option.some.inj h).symm
          refine W.widen (by first | exact hcap.1 | exact Nat.le_refl _) (by first | exact hcap.2 | exact Nat.le_refl _) ?_
          exact W.lret hx hb (hr.trans hrt) (hq _ H locs hS ho hH) hS.2.2 hdg
        · cases h
      · cases h
    | return_ =>
      simp only [zm_okr, decide_eq_true_eq] at hkr
      subst hkr
      simp only [zn_stp] at h
      split at h
      · split at h
        case isFalse => cases h
        next hcap =>
        split at h
        · next hrt =>
          have ho : out = (none, lay, σ) := (Option.some.inj h).symm
          refine W.widen (by first | exact hcap.1 | exact Nat.le_refl _) (by first | exact hcap.2 | exact Nat.le_refl _) ?_
          exact W.vret hx hb (hr.trans hrt) (hq _ H locs hS ho hH) hS.2.2 hdg
        · cases h
      · cases h
    | _ => cases h
theorem zn_snd {P : Nat → Option zm_Mth} (hOk : zm_Ok P) (l : Launch) (base : Nat) (D : va_G) (ids : Nat → ClassId) : ∀ n, zn_Snd P l base D ids n
  | 0 => fun y M x out _ h => by cases h
  | n + 1 => zn_snd_succ hOk (zn_snd hOk l base D ids n)
