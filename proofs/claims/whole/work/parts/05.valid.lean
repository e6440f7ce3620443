/-! what is checked of the table, instruction by instruction -/
def zm_tb (pc : Nat) : List Int → Int → List Nat → Bool
  | [], _, [] => true
  | o :: r, key, v :: t :: ps => decide ((v : Int) = key) && decide ((pc : Int) + o = (t : Int)) && zm_tb pc r (key + 1) ps
  | _, _, _ => false
def zm_lk (pc : Nat) : List (Int × Int) → List Nat → Bool
  | [], [] => true
  | q :: r, v :: t :: ps => decide ((v : Int) = q.1) && decide (v < 2147483648) && decide ((pc : Int) + q.2 = (t : Int)) && zm_lk pc r ps
  | _, _ => false
/-- a call: the callee is in the table, of the kind, and fits the room -/
def zm_okc (P : Nat → Option zm_Mth) (M : zm_Mth) (kd idx : Nat) (rs : List Nat) : Bool := match rs with
  | [y, np, c, mc, ms, _, ti, nest] => match P y with
    | some N => decide ((zm_ix N).2.1 = np) && decide ((zm_ix N).1 = c) && decide ((zm_ix N).2.2 = kd) && decide ((zm_ro N).2.2.1 = mc) && decide ((zm_ro N).2.2.2 = ms)
        && decide ((zm_ro N).1 + 1 ≤ (zm_ro M).1) && decide (8 + (zm_ml N + 11) + (zm_ro N).2.1 ≤ (zm_ro M).2.1)
        && (if nest = 0 then zm_wd ti (.methodLink (zm_nm M).cls idx (zm_nm N)) else zm_wn ti (.methodLinkNest (zm_nm M).cls idx (zm_nm N) "SubgroupWriter"))
    | none => false
  | _ => false
def zm_okf (M : zm_Mth) (idx : Nat) (rs : List Nat) (wr : Bool) : Bool := match rs with
  | [c, k, t, ti, nest] => match zm_CF[c]?, zm_FT[c]? with
    | some cf, some ft => match cf.2[k]? with
      | some f => decide (ft[k]? = some (min t 2)) && (if nest = 0 then zm_wd ti (.fieldLink (zm_nm M).cls idx cf.1 f.1 f.2.1) else !wr && zm_wn ti (.fieldLinkNest (zm_nm M).cls idx cf.1 f.1 f.2.1 "SubgroupWriter"))
          && (!wr || !f.2.2 || (decide ((zm_nm M).name = "<init>") && decide ((zm_nm M).cls = cf.1)))
      | none => false
    | _, _ => false
  | _ => false
def zm_okr (P : Nat → Option zm_Mth) (M : zm_Mth) (pc : Nat) (ins : Instr) (ln : Nat) (rs : List Nat) : Bool := match ins with
  | .iconst _ => decide (ln = 1)
  | .bipush n => decide (ln = 2) && decide ((Int8.ofInt n).toInt32 = Int32.ofInt n)
  | .sipush n => decide (ln = 3) && decide ((Int16.ofInt n).toInt32 = Int32.ofInt n)
  | .lconst _ => decide (ln = 1)
  | .ldc_w i => match rs with
    | [v, t] => decide (ln = 3) && zm_wd t (.constant (zm_nm M).cls i (Int32.ofNat v))
    | _ => false
  | .ldc2_w i => match rs with
    | [v, t] => decide (ln = 3) && zm_wd t (.constantLong (zm_nm M).cls i (Int64.ofNat v))
    | _ => false
  | .iload_n _ => decide (ln = 1)
  | .lload_n _ => decide (ln = 1)
  | .aload_n _ => decide (ln = 1)
  | .iload _ => decide (ln = 2)
  | .lload _ => decide (ln = 2)
  | .aload _ => decide (ln = 2)
  | .istore_n n => decide (ln = 1) && decide (n.val < zm_ml M)
  | .astore_n n => decide (ln = 1) && decide (n.val < zm_ml M)
  | .lstore_n n => decide (ln = 1) && decide (n.val + 1 < zm_ml M)
  | .istore n => decide (ln = 2) && decide (n < zm_ml M)
  | .astore n => decide (ln = 2) && decide (n < zm_ml M)
  | .lstore n => decide (ln = 2) && decide (n + 1 < zm_ml M)
  | .iinc i _ => decide (ln = 3) && decide (i < zm_ml M)
  | .ifCond _ o => match rs with
    | [t] => decide (ln = 3) && decide ((pc : Int) + o = (t : Int))
    | _ => false
  | .if_icmp _ o => match rs with
    | [t] => decide (ln = 3) && decide ((pc : Int) + o = (t : Int))
    | _ => false
  | .ifnonnull o => match rs with
    | [t] => decide (ln = 3) && decide ((pc : Int) + o = (t : Int))
    | _ => false
  | .goto o => match rs with
    | [t] => decide (ln = 3) && decide ((pc : Int) + o = (t : Int))
    | _ => false
  | .tableswitch d lo hi offs => match rs with
    | dd :: ps => decide ((pc : Int) + d = (dd : Int)) && decide (0 ≤ lo) && decide (lo + offs.toList.length = hi + 1) && decide (hi < 2147483647) && zm_tb pc offs.toList lo ps
    | _ => false
  | .lookupswitch d qs => match rs with
    | dd :: ps => decide ((pc : Int) + d = (dd : Int)) && (qs.toList.zip (qs.toList.drop 1)).all (fun (a, next) => a.1 < next.1) && zm_lk pc qs.toList ps
    | _ => false
  | .getfield i => decide (ln = 3) && zm_okf M i rs false
  | .putfield i => decide (ln = 3) && zm_okf M i rs true
  | .invokevirtual i => decide (ln = 3) && zm_okc P M 0 i rs
  | .invokespecial i => decide (ln = 3) && (match rs with
    | [ti] => zm_wd ti (.methodLink (zm_nm M).cls i objectInit) && decide (1 ≤ (zm_ro M).1) && decide (20 ≤ (zm_ro M).2.1)
    | _ => zm_okc P M 2 i rs)
  | .new i => match rs with
    | [c, nf, ti] => match zm_CF[c]? with
      | some cf => decide (ln = 3) && decide (nf = cf.2.length) && zm_wd ti (.classLink (zm_nm M).cls i cf.1)
      | none => false
    | _ => false
  | .newarray t => match rs with
    | [kd] => decide (ln = 2) && (decide (kd = 1 ∧ t = .int) || decide (kd = 2 ∧ t = .long) || decide (kd = 3 ∧ t = .boolean))
    | _ => false
  | .anewarray i => match rs with
    | [ti] => decide (ln = 3) && zm_wd ti (.classLink (zm_nm M).cls i "SubgroupWriter$Trail")
    | _ => false
  | .multianewarray i d => match rs with
    | [ti] => decide (ln = 4) && decide (d = 2) && zm_wd ti (.classLink (zm_nm M).cls i "[[I")
    | _ => false
  | .invokestatic i => decide (ln = 3) && (match rs with
    | [ti] => zm_wd ti (.methodLink (zm_nm M).cls i arraycopyName) && decide (1 ≤ (zm_ro M).1) && decide (8 + (nativeFrameWords "java/lang/System" "arraycopy" 5 + 11) ≤ (zm_ro M).2.1)
    | _ => zm_okc P M 1 i rs)
  | .aconst_null => decide (ln = 1)
  | .iadd => decide (ln = 1)
  | .isub => decide (ln = 1)
  | .imul => decide (ln = 1)
  | .idiv => decide (ln = 1)
  | .irem => decide (ln = 1)
  | .ineg => decide (ln = 1)
  | .iand => decide (ln = 1)
  | .ior => decide (ln = 1)
  | .ixor => decide (ln = 1)
  | .ishl => decide (ln = 1)
  | .ishr => decide (ln = 1)
  | .iushr => decide (ln = 1)
  | .ladd => decide (ln = 1)
  | .lmul => decide (ln = 1)
  | .ldiv => decide (ln = 1)
  | .lrem => decide (ln = 1)
  | .i2l => decide (ln = 1)
  | .l2i => decide (ln = 1)
  | .i2b => decide (ln = 1)
  | .lcmp => decide (ln = 1)
  | .dup => decide (ln = 1)
  | .dup2 => decide (ln = 1)
  | .pop => decide (ln = 1)
  | .iaload => decide (ln = 1)
  | .baload => decide (ln = 1)
  | .laload => decide (ln = 1)
  | .aaload => decide (ln = 1)
  | .arraylength => decide (ln = 1)
  | .iastore => decide (ln = 1)
  | .bastore => decide (ln = 1)
  | .lastore => decide (ln = 1)
  | .aastore => decide (ln = 1)
  | .ireturn => decide (ln = 1)
  | .lreturn => decide (ln = 1)
  | .return_ => decide (ln = 1)
  | _ => false
/-- a method -/
def zm_okm (M : zm_Mth) : Bool := plainFor (zm_nm M) && !decide ((zm_nm M).cls = "java/lang/invoke/MethodHandle") && !decide ((zm_nm M).cls = "java/lang/invoke/VarHandle")
  && decide ((parseMethodDescriptor (zm_nm M).desc).map (fun d => d.parameters.length) = some (zm_ix M).2.1)
  && (match (zm_ix M).2.2, zm_ps M with
    | 0, [a, b, c, d] => zm_wd a (.code (zm_nm M) (zm_by M) (zm_ml M) (zm_rt M)) && zm_wd b (.instanceMethod (zm_nm M)) && zm_wd c (.selects (zm_nm M).cls (zm_nm M) (zm_nm M)) && zm_wd d (.initialized (zm_nm M).cls) && decide ((zm_CF[(zm_ix M).1]?).map (·.1) = some (zm_nm M).cls)
    | 1, [a, b, d] => zm_wd a (.code (zm_nm M) (zm_by M) (zm_ml M) (zm_rt M)) && zm_wd b (.static (zm_nm M)) && zm_wd d (.initialized (zm_nm M).cls)
    | 2, [a, b, d] => zm_wd a (.code (zm_nm M) (zm_by M) (zm_ml M) (zm_rt M)) && zm_wd b (.instanceMethod (zm_nm M)) && zm_wd d (.initialized (zm_nm M).cls) && decide ((zm_nm M).name = "<init>") && decide (zm_rt M = none)
    | _, _ => false)
def zm_okd (M : zm_Mth) : Bool := (zm_en M).all fun e => decide (decode (zm_by M) e.1 = .ok (e.2.1, e.2.2.1))
def zm_oke (P : Nat → Option zm_Mth) (M : zm_Mth) : Bool := (zm_en M).all fun e => zm_okr P M e.1 e.2.1 e.2.2.1 e.2.2.2
def zm_Ok (P : Nat → Option zm_Mth) : Prop := (∀ y M, P y = some M → zm_okm M = true ∧ zm_okd M = true ∧ zm_oke P M = true) ∧ (∀ c, c < zm_CF.length → zm_clok c = true)
