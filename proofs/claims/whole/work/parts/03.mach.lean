/-! THE PLAIN MACHINE: the same bytecode over a plain memory (cells by number; ints, longs, references apart). -/
abbrev zm_Sig : Type := (Nat → Nat → Int32) × (Nat → Nat → Int64) × (Nat → Nat → Option Nat)
abbrev zm_Lay : Type := List (Nat × Nat)
abbrev zm_Out : Type := Option Value × zm_Lay × zm_Sig
abbrev zm_St : Type := Nat × List (Nat × Value) × List Value × zm_Lay × zm_Sig × Nat × Nat
/-- reads: an int array (kind 1), a boolean array (3), a long array (2), an array of references (4: of int arrays, 5: of Trails) -/
def zm_gI (lay : zm_Lay) (σ : zm_Sig) (a : Nat) (i : Int32) : Option Int32 := match lay[a]? with
  | some (1, n) => if i < 0 ∨ n ≤ i.toNatClampNeg then none else some (σ.1 a i.toNatClampNeg)
  | _ => none
def zm_gZ (lay : zm_Lay) (σ : zm_Sig) (a : Nat) (i : Int32) : Option Int32 := match lay[a]? with
  | some (3, n) => if i < 0 ∨ n ≤ i.toNatClampNeg then none else some (σ.1 a i.toNatClampNeg)
  | _ => none
def zm_gL (lay : zm_Lay) (σ : zm_Sig) (a : Nat) (i : Int32) : Option Int64 := match lay[a]? with
  | some (2, n) => if i < 0 ∨ n ≤ i.toNatClampNeg then none else some (σ.2.1 a i.toNatClampNeg)
  | _ => none
def zm_gR (lay : zm_Lay) (σ : zm_Sig) (a : Nat) (i : Int32) : Option (Option Nat) := match lay[a]? with
  | some (4, n) => if i < 0 ∨ n ≤ i.toNatClampNeg then none else some (σ.2.2 a i.toNatClampNeg)
  | some (5, n) => if i < 0 ∨ n ≤ i.toNatClampNeg then none else some (σ.2.2 a i.toNatClampNeg)
  | _ => none
/-- a reference, or null -/
def zm_opt {β : Type} (o : Option Nat) (ks : Nat → Option β) (kn : Option β) : Option β := match o with
  | some q => ks q
  | none => kn
def zm_len (lay : zm_Lay) (a : Nat) : Option Int32 := match lay[a]? with
  | some (0, _) => none
  | some (_, n) => some (Int32.ofNat n)
  | none => none
/-- writes -/
def zm_wI (σ : zm_Sig) (a i : Nat) (v : Int32) : zm_Sig := (va_up σ.1 a (upd (σ.1 a) i v), σ.2)
def zm_wL (σ : zm_Sig) (a i : Nat) (v : Int64) : zm_Sig := (σ.1, va_up σ.2.1 a (vp_updL (σ.2.1 a) i v), σ.2.2)
def zm_wR (σ : zm_Sig) (a i : Nat) (v : Option Nat) : zm_Sig := (σ.1, σ.2.1, va_up σ.2.2 a (va_up (σ.2.2 a) i v))
def zm_sI (lay : zm_Lay) (σ : zm_Sig) (a : Nat) (i : Int32) (v : Int32) : Option zm_Sig := match lay[a]? with
  | some (1, n) => if i < 0 ∨ n ≤ i.toNatClampNeg then none else some (zm_wI σ a i.toNatClampNeg v)
  | _ => none
def zm_sZ (lay : zm_Lay) (σ : zm_Sig) (a : Nat) (i : Int32) (v : Int32) : Option zm_Sig := match lay[a]? with
  | some (3, n) => if i < 0 ∨ n ≤ i.toNatClampNeg then none else some (zm_wI σ a i.toNatClampNeg (vp_nar .boolean v))
  | _ => none
def zm_sL (lay : zm_Lay) (σ : zm_Sig) (a : Nat) (i : Int32) (v : Int64) : Option zm_Sig := match lay[a]? with
  | some (2, n) => if i < 0 ∨ n ≤ i.toNatClampNeg then none else some (zm_wL σ a i.toNatClampNeg v)
  | _ => none
/-- a reference into an array of int arrays (kind 4: the value must be an int array), of Trails (5: the value an object of class 6) -/
def zm_sR (lay : zm_Lay) (σ : zm_Sig) (a : Nat) (i : Int32) (v : Nat) : Option zm_Sig := match lay[a]?, lay[v]? with
  | some (4, n), some (1, _) => if i < 0 ∨ n ≤ i.toNatClampNeg then none else some (zm_wR σ a i.toNatClampNeg (some v))
  | some (5, n), some (0, c) => if c = 6 then (if i < 0 ∨ n ≤ i.toNatClampNeg then none else some (zm_wR σ a i.toNatClampNeg (some v))) else none
  | _, _ => none
/-- fields of an object of class c -/
def zm_is (lay : zm_Lay) (a c : Nat) : Option Unit := match lay[a]? with
  | some (0, d) => if d = c then some () else none
  | _ => none
/-- what a field holds: types 0 int, 1 long, 2 a reference (read: not null), 3 a reference or null -/
def zm_fv (σ : zm_Sig) (a k t : Nat) : Value := if t = 0 then .int (σ.1 a k) else if t = 1 then .long (σ.2.1 a k) else va_rf (σ.2.2 a k)
def zm_fk {β : Type} (σ : zm_Sig) (a k t : Nat) (K : Value → Option β) : Option β := if t = 0 then K (.int (σ.1 a k)) else if t = 1 then K (.long (σ.2.1 a k)) else if t = 2 then zm_opt (σ.2.2 a k) (fun q => K (.ref q)) none else zm_opt (σ.2.2 a k) (fun q => K (.ref q)) (K .null)
def zm_fw (σ : zm_Sig) (a k t : Nat) (v : Value) : Option zm_Sig := match t, v with
  | 0, .int x => some (zm_wI σ a k x)
  | 1, .long x => some (zm_wL σ a k x)
  | 2, .ref x => some (zm_wR σ a k (some x))
  | _, _ => none
/-- new cells: all nought -/
def zm_clr (σ : zm_Sig) (a : Nat) : zm_Sig := (va_up σ.1 a (fun _ => 0), va_up σ.2.1 a (fun _ => 0), va_up σ.2.2 a (fun _ => none))
/-- new int[n][..] at a: its rows at a + 1, .. -/
def zm_mul (σ : zm_Sig) (a n : Nat) : zm_Sig := (fun b => if a ≤ b ∧ b ≤ a + n then (fun _ => 0) else σ.1 b, fun b => if a ≤ b ∧ b ≤ a + n then (fun _ => 0) else σ.2.1 b, fun b => if b = a then (fun i => if i < n then some (a + 1 + i) else none) else if a ≤ b ∧ b ≤ a + n then (fun _ => none) else σ.2.2 b)
/-- System.arraycopy -/
def zm_cpy (lay : zm_Lay) (σ : zm_Sig) (s0 : Nat) (sp : Int32) (d : Nat) (dp n : Int32) : Option zm_Sig :=
  if sp < 0 ∨ dp < 0 ∨ n < 0 then none else
  match lay[s0]?, lay[d]? with
  | some (1, n0), some (1, n1) => if n0 < sp.toNatClampNeg + n.toNatClampNeg ∨ n1 < dp.toNatClampNeg + n.toNatClampNeg then none else some (va_up σ.1 d (va_cpy (σ.1 s0) (σ.1 d) sp.toNatClampNeg dp.toNatClampNeg n.toNatClampNeg), σ.2)
  | some (2, n0), some (2, n1) => if n0 < sp.toNatClampNeg + n.toNatClampNeg ∨ n1 < dp.toNatClampNeg + n.toNatClampNeg then none else some (σ.1, va_up σ.2.1 d (va_cpy (σ.2.1 s0) (σ.2.1 d) sp.toNatClampNeg dp.toNatClampNeg n.toNatClampNeg), σ.2.2)
  | _, _ => none
def zm_s1 (lo : List (Nat × Value)) (i : Nat) (v : Value) : List (Nat × Value) := (i, v) :: lo.filter (fun q => !(q.1 == i) && !(q.1 + 1 == i && q.2.category == 2))
def zm_s2 (lo : List (Nat × Value)) (i : Nat) (v : Value) : List (Nat × Value) := (i, v) :: lo.filter (fun q => !(q.1 == i) && (!(q.1 == i + 1) && !(q.1 + 1 == i && q.2.category == 2)))
/-- a switch: pairs of key and target, then the default -/
def zm_sw {β : Type} (x : Int32) (k : Nat → Option β) : List Nat → Nat → Option β
  | v :: t :: r, d => if x = Int32.ofNat v then k t else zm_sw x k r d
  | _, d => k d
def zm_cnd {β : Type} (c : ClassFile.Cond) (x y : Int32) (kt kf : Option β) : Option β := match c with
  | .eq => if x = y then kt else kf
  | .ne => if ¬ x = y then kt else kf
  | .lt => if x < y then kt else kf
  | .ge => if y ≤ x then kt else kf
  | .gt => if y < x then kt else kf
  | .le => if x ≤ y then kt else kf
/-- one instruction: kn goes on, kr returns, kc calls. What rs holds is resolved ahead: targets, constants, (class, field, type ..), (method, parameters, class, cells, slots ..) -/
def zm_stp {β : Type} (rt : Option FieldType) (cc cs : Nat) (pc : Nat) (ins : Instr) (rs : List Nat) (lo : List (Nat × Value)) (st : List Value) (lay : zm_Lay) (σ : zm_Sig) (nc ns : Nat)
    (kn : zm_St → Option β) (kr : zm_Out → Option β) (kc : Nat → Nat → List Value → zm_Lay → zm_Sig → (zm_Out → zm_St) → Option β) : Option β :=
  match ins with
  | .iconst n => kn (pc + 1, lo, .int (Int32.ofInt n) :: st, lay, σ, nc, ns)
  | .bipush n => kn (pc + 2, lo, .int (Int32.ofInt n) :: st, lay, σ, nc, ns)
  | .sipush n => kn (pc + 3, lo, .int (Int32.ofInt n) :: st, lay, σ, nc, ns)
  | .lconst n => kn (pc + 1, lo, .long (Int64.ofNat n.val) :: st, lay, σ, nc, ns)
  | .ldc_w _ => match rs with
    | v :: _ => kn (pc + 3, lo, .int (Int32.ofNat v) :: st, lay, σ, nc, ns)
    | _ => none
  | .ldc2_w _ => match rs with
    | v :: _ => kn (pc + 3, lo, .long (Int64.ofNat v) :: st, lay, σ, nc, ns)
    | _ => none
  | .aconst_null => kn (pc + 1, lo, .null :: st, lay, σ, nc, ns)
  | .iload_n n => match lo.lookup n.val with
    | some (.int x) => kn (pc + 1, lo, .int x :: st, lay, σ, nc, ns)
    | _ => none
  | .iload n => match lo.lookup n with
    | some (.int x) => kn (pc + 2, lo, .int x :: st, lay, σ, nc, ns)
    | _ => none
  | .lload_n n => match lo.lookup n.val with
    | some (.long x) => kn (pc + 1, lo, .long x :: st, lay, σ, nc, ns)
    | _ => none
  | .lload n => match lo.lookup n with
    | some (.long x) => kn (pc + 2, lo, .long x :: st, lay, σ, nc, ns)
    | _ => none
  | .aload_n n => match lo.lookup n.val with
    | some (.ref x) => kn (pc + 1, lo, .ref x :: st, lay, σ, nc, ns)
    | _ => none
  | .aload n => match lo.lookup n with
    | some (.ref x) => kn (pc + 2, lo, .ref x :: st, lay, σ, nc, ns)
    | _ => none
  | .istore_n n => match st with
    | .int x :: r => kn (pc + 1, zm_s1 lo n.val (.int x), r, lay, σ, nc, ns)
    | _ => none
  | .istore n => match st with
    | .int x :: r => kn (pc + 2, zm_s1 lo n (.int x), r, lay, σ, nc, ns)
    | _ => none
  | .lstore_n n => match st with
    | .long x :: r => kn (pc + 1, zm_s2 lo n.val (.long x), r, lay, σ, nc, ns)
    | _ => none
  | .lstore n => match st with
    | .long x :: r => kn (pc + 2, zm_s2 lo n (.long x), r, lay, σ, nc, ns)
    | _ => none
  | .astore_n n => match st with
    | .ref x :: r => kn (pc + 1, zm_s1 lo n.val (.ref x), r, lay, σ, nc, ns)
    | _ => none
  | .astore n => match st with
    | .ref x :: r => kn (pc + 2, zm_s1 lo n (.ref x), r, lay, σ, nc, ns)
    | _ => none
  | .iinc i n => match lo.lookup i with
    | some (.int x) => kn (pc + 3, zm_s1 lo i (.int (x + Int32.ofInt n)), st, lay, σ, nc, ns)
    | _ => none
  | .iadd => match st with
    | .int y :: .int x :: r => kn (pc + 1, lo, .int (x + y) :: r, lay, σ, nc, ns)
    | _ => none
  | .isub => match st with
    | .int y :: .int x :: r => kn (pc + 1, lo, .int (x - y) :: r, lay, σ, nc, ns)
    | _ => none
  | .imul => match st with
    | .int y :: .int x :: r => kn (pc + 1, lo, .int (x * y) :: r, lay, σ, nc, ns)
    | _ => none
  | .idiv => match st with
    | .int y :: .int x :: r => if y = 0 then none else kn (pc + 1, lo, .int (x / y) :: r, lay, σ, nc, ns)
    | _ => none
  | .irem => match st with
    | .int y :: .int x :: r => if y = 0 then none else kn (pc + 1, lo, .int (x - x / y * y) :: r, lay, σ, nc, ns)
    | _ => none
  | .ineg => match st with
    | .int x :: r => kn (pc + 1, lo, .int (-x) :: r, lay, σ, nc, ns)
    | _ => none
  | .iand => match st with
    | .int y :: .int x :: r => kn (pc + 1, lo, .int (x &&& y) :: r, lay, σ, nc, ns)
    | _ => none
  | .ior => match st with
    | .int y :: .int x :: r => kn (pc + 1, lo, .int (x ||| y) :: r, lay, σ, nc, ns)
    | _ => none
  | .ixor => match st with
    | .int y :: .int x :: r => kn (pc + 1, lo, .int (x ^^^ y) :: r, lay, σ, nc, ns)
    | _ => none
  | .ishl => match st with
    | .int y :: .int x :: r => kn (pc + 1, lo, .int (x <<< (y &&& 31)) :: r, lay, σ, nc, ns)
    | _ => none
  | .ishr => match st with
    | .int y :: .int x :: r => kn (pc + 1, lo, .int (x >>> (y &&& 31)) :: r, lay, σ, nc, ns)
    | _ => none
  | .iushr => match st with
    | .int y :: .int x :: r => kn (pc + 1, lo, .int ((x.toUInt32 >>> (y.toUInt32 &&& Int32.toUInt32 31)).toInt32) :: r, lay, σ, nc, ns)
    | _ => none
  | .ladd => match st with
    | .long y :: .long x :: r => kn (pc + 1, lo, .long (x + y) :: r, lay, σ, nc, ns)
    | _ => none
  | .lmul => match st with
    | .long y :: .long x :: r => kn (pc + 1, lo, .long (x * y) :: r, lay, σ, nc, ns)
    | _ => none
  | .ldiv => match st with
    | .long y :: .long x :: r => if y = 0 then none else kn (pc + 1, lo, .long (x / y) :: r, lay, σ, nc, ns)
    | _ => none
  | .lrem => match st with
    | .long y :: .long x :: r => if y = 0 then none else kn (pc + 1, lo, .long (x - x / y * y) :: r, lay, σ, nc, ns)
    | _ => none
  | .i2l => match st with
    | .int x :: r => kn (pc + 1, lo, .long x.toInt64 :: r, lay, σ, nc, ns)
    | _ => none
  | .l2i => match st with
    | .long x :: r => kn (pc + 1, lo, .int x.toInt32 :: r, lay, σ, nc, ns)
    | _ => none
  | .i2b => match st with
    | .int x :: r => kn (pc + 1, lo, .int x.toInt8.toInt32 :: r, lay, σ, nc, ns)
    | _ => none
  | .lcmp => match st with
    | .long y :: .long x :: r => kn (pc + 1, lo, .int (lg_cmp x y) :: r, lay, σ, nc, ns)
    | _ => none
  | .dup => match st with
    | .int x :: r => kn (pc + 1, lo, .int x :: .int x :: r, lay, σ, nc, ns)
    | .ref x :: r => kn (pc + 1, lo, .ref x :: .ref x :: r, lay, σ, nc, ns)
    | _ => none
  | .dup2 => match st with
    | .int y :: .ref x :: r => kn (pc + 1, lo, .int y :: .ref x :: .int y :: .ref x :: r, lay, σ, nc, ns)
    | _ => none
  | .pop => match st with
    | .int _ :: r => kn (pc + 1, lo, r, lay, σ, nc, ns)
    | _ => none
  | .ifCond c _ => match rs, st with
    | t :: _, .int x :: r => zm_cnd c x 0 (kn (t, lo, r, lay, σ, nc, ns)) (kn (pc + 3, lo, r, lay, σ, nc, ns))
    | _, _ => none
  | .if_icmp c _ => match rs, st with
    | t :: _, .int y :: .int x :: r => zm_cnd c x y (kn (t, lo, r, lay, σ, nc, ns)) (kn (pc + 3, lo, r, lay, σ, nc, ns))
    | _, _ => none
  | .ifnonnull _ => match rs, st with
    | t :: _, .ref _ :: r => kn (t, lo, r, lay, σ, nc, ns)
    | _, .null :: r => kn (pc + 3, lo, r, lay, σ, nc, ns)
    | _, _ => none
  | .goto _ => match rs with
    | t :: _ => kn (t, lo, st, lay, σ, nc, ns)
    | _ => none
  | .tableswitch _ _ _ _ => match rs, st with
    | d :: ps, .int x :: r => zm_sw x (fun t => kn (t, lo, r, lay, σ, nc, ns)) ps d
    | _, _ => none
  | .lookupswitch _ _ => match rs, st with
    | d :: ps, .int x :: r => zm_sw x (fun t => kn (t, lo, r, lay, σ, nc, ns)) ps d
    | _, _ => none
  | .iaload => match st with
    | .int i :: .ref a :: r => (zm_gI lay σ a i).bind fun v => kn (pc + 1, lo, .int v :: r, lay, σ, nc, ns)
    | _ => none
  | .baload => match st with
    | .int i :: .ref a :: r => (zm_gZ lay σ a i).bind fun v => kn (pc + 1, lo, .int v :: r, lay, σ, nc, ns)
    | _ => none
  | .laload => match st with
    | .int i :: .ref a :: r => (zm_gL lay σ a i).bind fun v => kn (pc + 1, lo, .long v :: r, lay, σ, nc, ns)
    | _ => none
  | .aaload => match st with
    | .int i :: .ref a :: r => (zm_gR lay σ a i).bind fun o => zm_opt o (fun q => kn (pc + 1, lo, .ref q :: r, lay, σ, nc, ns)) none
    | _ => none
  | .arraylength => match st with
    | .ref a :: r => (zm_len lay a).bind fun v => kn (pc + 1, lo, .int v :: r, lay, σ, nc, ns)
    | _ => none
  | .iastore => match st with
    | .int v :: .int i :: .ref a :: r => (zm_sI lay σ a i v).bind fun σ1 => kn (pc + 1, lo, r, lay, σ1, nc, ns)
    | _ => none
  | .bastore => match st with
    | .int v :: .int i :: .ref a :: r => (zm_sZ lay σ a i v).bind fun σ1 => kn (pc + 1, lo, r, lay, σ1, nc, ns)
    | _ => none
  | .lastore => match st with
    | .long v :: .int i :: .ref a :: r => (zm_sL lay σ a i v).bind fun σ1 => kn (pc + 1, lo, r, lay, σ1, nc, ns)
    | _ => none
  | .aastore => match st with
    | .ref v :: .int i :: .ref a :: r => (zm_sR lay σ a i v).bind fun σ1 => kn (pc + 1, lo, r, lay, σ1, nc, ns)
    | _ => none
  | .getfield _ => match rs, st with
    | c :: k :: t :: _, .ref a :: r => (zm_is lay a c).bind fun _ => zm_fk σ a k t (fun v => kn (pc + 3, lo, v :: r, lay, σ, nc, ns))
    | _, _ => none
  | .putfield _ => match rs, st with
    | c :: k :: t :: _, v :: .ref a :: r => (zm_is lay a c).bind fun _ => (zm_fw σ a k t v).bind fun σ1 => kn (pc + 3, lo, r, lay, σ1, nc, ns)
    | _, _ => none
  | .invokevirtual _ => match rs with
    | y :: np :: c :: mc :: ms :: rk :: _ => match st.drop np with
      | .ref a :: r => (zm_is lay a c).bind fun _ => if (r.map fun v => v.category).sum ≤ 8 ∧ nc + mc ≤ cc ∧ ns + ms ≤ cs then kc y rk (.ref a :: (st.take np).reverse) lay σ (fun o => (pc + 3, lo, o.1.toList ++ r, o.2.1, o.2.2, nc + mc, ns + ms)) else none
      | _ => none
    | _ => none
  | .invokespecial _ => match rs with
    | y :: np :: c :: mc :: ms :: rk :: _ => match st.drop np with
      | .ref a :: r => (zm_is lay a c).bind fun _ => if (r.map fun v => v.category).sum ≤ 8 ∧ nc + mc ≤ cc ∧ ns + ms ≤ cs then kc y rk (.ref a :: (st.take np).reverse) lay σ (fun o => (pc + 3, lo, o.1.toList ++ r, o.2.1, o.2.2, nc + mc, ns + ms)) else none
      | _ => none
    | _ => match st with
      | .ref _ :: r => if (r.map fun v => v.category).sum ≤ 8 then kn (pc + 3, lo, r, lay, σ, nc, ns) else none
      | _ => none
  | .new _ => match rs with
    | c :: nf :: _ => if nc + 1 ≤ cc ∧ ns + nf ≤ cs then kn (pc + 3, lo, .ref lay.length :: st, lay ++ [(0, c)], zm_clr σ lay.length, nc + 1, ns + nf) else none
    | _ => none
  | .newarray _ => match rs, st with
    | kd :: _, .int n :: r => if ¬ n < 0 ∧ n.toNatClampNeg ≤ 60000 ∧ nc + 1 ≤ cc ∧ ns + n.toNatClampNeg ≤ cs then kn (pc + 2, lo, .ref lay.length :: r, lay ++ [(kd, n.toNatClampNeg)], zm_clr σ lay.length, nc + 1, ns + n.toNatClampNeg) else none
    | _, _ => none
  | .anewarray _ => match st with
    | .int n :: r => if ¬ n < 0 ∧ n.toNatClampNeg ≤ 60000 ∧ nc + 1 ≤ cc ∧ ns + n.toNatClampNeg ≤ cs then kn (pc + 3, lo, .ref lay.length :: r, lay ++ [(5, n.toNatClampNeg)], zm_clr σ lay.length, nc + 1, ns + n.toNatClampNeg) else none
    | _ => none
  | .multianewarray _ _ => match st with
    | .int k :: .int n :: r => if ¬ n < 0 ∧ ¬ k < 0 ∧ n.toNatClampNeg ≤ 60000 ∧ k.toNatClampNeg ≤ 60000 ∧ nc + (1 + n.toNatClampNeg) ≤ cc ∧ ns + (n.toNatClampNeg + n.toNatClampNeg * k.toNatClampNeg) ≤ cs then
        kn (pc + 4, lo, .ref lay.length :: r, lay ++ (4, n.toNatClampNeg) :: List.replicate n.toNatClampNeg (1, k.toNatClampNeg), zm_mul σ lay.length n.toNatClampNeg, nc + 1 + n.toNatClampNeg, ns + n.toNatClampNeg + n.toNatClampNeg * k.toNatClampNeg) else none
    | _ => none
  | .invokestatic _ => match rs with
    | y :: np :: _ :: mc :: ms :: rk :: _ => if np ≤ st.length ∧ ((st.drop np).map fun v => v.category).sum ≤ 8 ∧ nc + mc ≤ cc ∧ ns + ms ≤ cs then kc y rk ((st.take np).reverse) lay σ (fun o => (pc + 3, lo, o.1.toList ++ st.drop np, o.2.1, o.2.2, nc + mc, ns + ms)) else none
    | _ => match st with
      | .int n :: .int dp :: .ref d :: .int sp :: .ref s0 :: r =>
        if (r.map fun v => v.category).sum ≤ 8 then (zm_cpy lay σ s0 sp d dp n).bind fun σ1 => kn (pc + 3, lo, r, lay, σ1, nc, ns) else none
      | _ => none
  | .ireturn => match st with
    | [.int v] => if nc ≤ cc ∧ ns ≤ cs then (if rt = some .int then kr (some (.int v), lay, σ) else if rt = some .boolean then (if v = 0 ∨ v = 1 then kr (some (.int v), lay, σ) else none) else none) else none
    | _ => none
  | .lreturn => match st with
    | [.long v] => if nc ≤ cc ∧ ns ≤ cs then (if rt = some .long then kr (some (.long v), lay, σ) else none) else none
    | _ => none
  | .return_ => match st with
    | [] => if nc ≤ cc ∧ ns ≤ cs then (if rt = none then kr (none, lay, σ) else none) else none
    | _ => none
  | _ => none
