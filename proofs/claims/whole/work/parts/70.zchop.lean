/-! big blocks, chopped at their calls -/
set_option maxRecDepth 20000 in
noncomputable def zk_49_0_1 (q15 : zm_Lay × zm_Sig) (r0 : Nat) : Option (zm_St ⊕ zm_Out) :=
 
     some (.inl (85, [(0, .ref r0), (3, .int 0)], [], q15.1, q15.2, 0, 0))
set_option maxRecDepth 20000 in
theorem zq_49_0_1 (τ : zm_Sig) (r0 : Nat) : zk_49_0_1 (zL, τ) r0 =
 
     some (.inl (85, [(0, .ref r0), (3, .int 0)], [], zL, τ, 0, 0)) := Eq.trans rfl rfl
set_option maxRecDepth 20000 in
noncomputable def zk_49_0_2 (q8 : Int32 × zm_Lay × zm_Sig) (r0 : Nat) : Option (zm_St ⊕ zm_Out) :=
 
    if q8.1 = (-9) then ((zm_is q8.2.1 r0 9).bind fun _ =>
     zm_opt (q8.2.2.2.2 r0 11) (fun q9 =>
     (zm_is q8.2.1 r0 9).bind fun _ =>
     zm_opt (q8.2.2.2.2 r0 12) (fun q10 =>
     (zm_is q8.2.1 r0 9).bind fun _ => (zm_fw q8.2.2 r0 11 2 (.ref q10)).bind fun s11 =>
     (zm_is q8.2.1 r0 9).bind fun _ => (zm_fw s11 r0 12 2 (.ref q9)).bind fun s12 =>
     (zm_is q8.2.1 r0 9).bind fun _ =>
     zm_opt (s12.2.2 r0 3) (fun q13 =>
     (zm_is q8.2.1 r0 9).bind fun _ =>
     zm_opt (s12.2.2 r0 11) (fun q14 =>
     (zm_is q8.2.1 q13 0).bind fun _ => (zm_av (zM 50 [.ref q13, .ref q14] q8.2.1 s12)).bind fun q15 => zk_49_0_1 q15 r0) (none)) (none)) (none)) (none))
    else (some (.inr (some (.int (-4)), q8.2.1, q8.2.2)))
set_option maxRecDepth 20000 in
theorem zq_49_0_2 (υ : Int32) (τ : zm_Sig) (r0 : Nat) : zk_49_0_2 (υ, zL, τ) r0 =
 
    if υ = (-9) then ((zm_is zL r0 9).bind fun _ =>
     zm_opt (τ.2.2 r0 11) (fun q9 =>
     (zm_is zL r0 9).bind fun _ =>
     zm_opt (τ.2.2 r0 12) (fun q10 =>
     (zm_is zL r0 9).bind fun _ => (zm_fw τ r0 11 2 (.ref q10)).bind fun s11 =>
     (zm_is zL r0 9).bind fun _ => (zm_fw s11 r0 12 2 (.ref q9)).bind fun s12 =>
     (zm_is zL r0 9).bind fun _ =>
     zm_opt (s12.2.2 r0 3) (fun q13 =>
     (zm_is zL r0 9).bind fun _ =>
     zm_opt (s12.2.2 r0 11) (fun q14 =>
     (zm_is zL q13 0).bind fun _ => (zm_av (zM 50 [.ref q13, .ref q14] zL s12)).bind fun q15 => zk_49_0_1 q15 r0) (none)) (none)) (none)) (none))
    else (some (.inr (some (.int (-4)), zL, τ))) := Eq.trans rfl rfl
set_option maxRecDepth 20000 in
noncomputable def zk_49_0_3 (q16 : Int32 × zm_Lay × zm_Sig)  : Option (zm_St ⊕ zm_Out) :=
 
    some (.inr (some (.int q16.1), q16.2.1, q16.2.2))
set_option maxRecDepth 20000 in
theorem zq_49_0_3 (υ : Int32) (τ : zm_Sig)  : zk_49_0_3 (υ, zL, τ)  =
 
    some (.inr (some (.int υ), zL, τ)) := Eq.trans rfl rfl
set_option maxRecDepth 20000 in
noncomputable def zk_49_0_4 (q4 : Int32 × zm_Lay × zm_Sig) (r0 : Nat) (i1 : Int32) : Option (zm_St ⊕ zm_Out) :=
 
   if q4.1 = 0 then ((zm_is q4.2.1 r0 9).bind fun _ =>
    zm_opt (q4.2.2.2.2 r0 2) (fun q5 =>
    (zm_is q4.2.1 r0 9).bind fun _ =>
    zm_opt (q4.2.2.2.2 r0 1) (fun q6 =>
    (zm_is q4.2.1 r0 9).bind fun _ =>
    zm_opt (q4.2.2.2.2 r0 12) (fun q7 =>
    (zm_is q4.2.1 q5 3).bind fun _ => (zm_ai (zM 33 [.ref q5, .ref q6, .int i1, .ref q7] q4.2.1 q4.2.2)).bind fun q8 => zk_49_0_2 q8 r0) (none)) (none)) (none))
   else ((zm_is q4.2.1 r0 9).bind fun _ => (zm_ai (zM 13 [.ref r0, .int 1] q4.2.1 q4.2.2)).bind fun q16 => zk_49_0_3 q16 )
set_option maxRecDepth 20000 in
theorem zq_49_0_4 (υ : Int32) (τ : zm_Sig) (r0 : Nat) (i1 : Int32) : zk_49_0_4 (υ, zL, τ) r0 i1 =
 
   if υ = 0 then ((zm_is zL r0 9).bind fun _ =>
    zm_opt (τ.2.2 r0 2) (fun q5 =>
    (zm_is zL r0 9).bind fun _ =>
    zm_opt (τ.2.2 r0 1) (fun q6 =>
    (zm_is zL r0 9).bind fun _ =>
    zm_opt (τ.2.2 r0 12) (fun q7 =>
    (zm_is zL q5 3).bind fun _ => (zm_ai (zM 33 [.ref q5, .ref q6, .int i1, .ref q7] zL τ)).bind fun q8 => zk_49_0_2 q8 r0) (none)) (none)) (none))
   else ((zm_is zL r0 9).bind fun _ => (zm_ai (zM 13 [.ref r0, .int 1] zL τ)).bind fun q16 => zk_49_0_3 q16 ) := Eq.trans rfl rfl
set_option maxRecDepth 20000 in
noncomputable def zk_49_0_5 (q2 : Int32 × zm_Lay × zm_Sig) (r0 : Nat) (i1 : Int32) : Option (zm_St ⊕ zm_Out) :=
 
  if ¬ q2.1 = 0 then ((zm_is q2.2.1 r0 9).bind fun _ =>
   zm_opt (q2.2.2.2.2 r0 1) (fun q3 =>
   (zm_is q2.2.1 q3 5).bind fun _ => (zm_ai (zM 16 [.ref q3, .int i1] q2.2.1 q2.2.2)).bind fun q4 => zk_49_0_4 q4 r0 i1) (none))
  else (some (.inr (some (.int (-1)), q2.2.1, q2.2.2)))
set_option maxRecDepth 20000 in
theorem zq_49_0_5 (υ : Int32) (τ : zm_Sig) (r0 : Nat) (i1 : Int32) : zk_49_0_5 (υ, zL, τ) r0 i1 =
 
  if ¬ υ = 0 then ((zm_is zL r0 9).bind fun _ =>
   zm_opt (τ.2.2 r0 1) (fun q3 =>
   (zm_is zL q3 5).bind fun _ => (zm_ai (zM 16 [.ref q3, .int i1] zL τ)).bind fun q4 => zk_49_0_4 q4 r0 i1) (none))
  else (some (.inr (some (.int (-1)), zL, τ))) := Eq.trans rfl rfl
set_option maxRecDepth 20000 in
theorem zh_49_0 (σ : zm_Sig) (r0 : Nat) (i1 : Int32) : zb_49_0 zL σ r0 i1 =
  (zm_is zL r0 9).bind fun _ =>
  zm_opt (σ.2.2 r0 1) (fun q1 =>
  (zm_is zL q1 5).bind fun _ => (zm_ai (zM 12 [.ref q1, .int i1] zL σ)).bind fun q2 => zk_49_0_5 q2 r0 i1) (none) := Eq.trans rfl rfl
set_option maxRecDepth 20000 in
noncomputable def zk_199_0_1 (q19 : zm_Lay × zm_Sig) (r0 : Nat) : Option (zm_St ⊕ zm_Out) :=
 
     (zm_is q19.1 r0 10).bind fun _ => (zm_fw q19.2 r0 23 0 (.int 0)).bind fun s20 =>
     some (.inl (127, [(0, .ref r0), (2, .int 0)], [], q19.1, s20, 0, 0))
set_option maxRecDepth 20000 in
theorem zq_199_0_1 (τ : zm_Sig) (r0 : Nat) : zk_199_0_1 (zL, τ) r0 =
 
     (zm_is zL r0 10).bind fun _ => (zm_fw τ r0 23 0 (.int 0)).bind fun s20 =>
     some (.inl (127, [(0, .ref r0), (2, .int 0)], [], zL, s20, 0, 0)) := Eq.trans rfl rfl
set_option maxRecDepth 20000 in
noncomputable def zk_199_0_2 (q16 : zm_Lay × zm_Sig) (r0 : Nat) : Option (zm_St ⊕ zm_Out) :=
 
     (zm_is q16.1 r0 10).bind fun _ =>
     zm_opt (q16.2.2.2 r0 38) (fun q17 =>
     (zm_is q16.1 r0 10).bind fun _ =>
     zm_opt (q16.2.2.2 r0 10) (fun q18 =>
     (zm_av (zM 200 [.ref q17, .int 0, .ref q18, .int 0, .int (nI 24)] q16.1 q16.2)).bind fun q19 => zk_199_0_1 q19 r0) (none)) (none)
set_option maxRecDepth 20000 in
theorem zq_199_0_2 (τ : zm_Sig) (r0 : Nat) : zk_199_0_2 (zL, τ) r0 =
 
     (zm_is zL r0 10).bind fun _ =>
     zm_opt (τ.2.2 r0 38) (fun q17 =>
     (zm_is zL r0 10).bind fun _ =>
     zm_opt (τ.2.2 r0 10) (fun q18 =>
     (zm_av (zM 200 [.ref q17, .int 0, .ref q18, .int 0, .int (nI 24)] zL τ)).bind fun q19 => zk_199_0_1 q19 r0) (none)) (none) := Eq.trans rfl rfl
set_option maxRecDepth 20000 in
noncomputable def zk_199_0_3 (q13 : zm_Lay × zm_Sig) (r0 : Nat) : Option (zm_St ⊕ zm_Out) :=
 
     (zm_is q13.1 r0 10).bind fun _ =>
     zm_opt (q13.2.2.2 r0 37) (fun q14 =>
     (zm_is q13.1 r0 10).bind fun _ =>
     zm_opt (q13.2.2.2 r0 9) (fun q15 =>
     (zm_av (zM 200 [.ref q14, .int 0, .ref q15, .int 0, .int (nI 3)] q13.1 q13.2)).bind fun q16 => zk_199_0_2 q16 r0) (none)) (none)
set_option maxRecDepth 20000 in
theorem zq_199_0_3 (τ : zm_Sig) (r0 : Nat) : zk_199_0_3 (zL, τ) r0 =
 
     (zm_is zL r0 10).bind fun _ =>
     zm_opt (τ.2.2 r0 37) (fun q14 =>
     (zm_is zL r0 10).bind fun _ =>
     zm_opt (τ.2.2 r0 9) (fun q15 =>
     (zm_av (zM 200 [.ref q14, .int 0, .ref q15, .int 0, .int (nI 3)] zL τ)).bind fun q16 => zk_199_0_2 q16 r0) (none)) (none) := Eq.trans rfl rfl
set_option maxRecDepth 20000 in
noncomputable def zk_199_0_4 (q10 : zm_Lay × zm_Sig) (r0 : Nat) : Option (zm_St ⊕ zm_Out) :=
 
     (zm_is q10.1 r0 10).bind fun _ =>
     zm_opt (q10.2.2.2 r0 36) (fun q11 =>
     (zm_is q10.1 r0 10).bind fun _ =>
     zm_opt (q10.2.2.2 r0 8) (fun q12 =>
     (zm_av (zM 200 [.ref q11, .int 0, .ref q12, .int 0, .int (nI 15)] q10.1 q10.2)).bind fun q13 => zk_199_0_3 q13 r0) (none)) (none)
set_option maxRecDepth 20000 in
theorem zq_199_0_4 (τ : zm_Sig) (r0 : Nat) : zk_199_0_4 (zL, τ) r0 =
 
     (zm_is zL r0 10).bind fun _ =>
     zm_opt (τ.2.2 r0 36) (fun q11 =>
     (zm_is zL r0 10).bind fun _ =>
     zm_opt (τ.2.2 r0 8) (fun q12 =>
     (zm_av (zM 200 [.ref q11, .int 0, .ref q12, .int 0, .int (nI 15)] zL τ)).bind fun q13 => zk_199_0_3 q13 r0) (none)) (none) := Eq.trans rfl rfl
set_option maxRecDepth 20000 in
noncomputable def zk_199_0_5 (q4 : Int32 × zm_Lay × zm_Sig) (r0 : Nat) : Option (zm_St ⊕ zm_Out) :=
 
    if q4.1 = (-9) then ((zm_is q4.2.1 r0 10).bind fun _ =>
     (zm_is q4.2.1 r0 10).bind fun _ => (zm_fw q4.2.2 r0 4 0 (.int (q4.2.2.1 r0 32))).bind fun s5 =>
     (zm_is q4.2.1 r0 10).bind fun _ =>
     (zm_is q4.2.1 r0 10).bind fun _ => (zm_fw s5 r0 5 0 (.int (s5.1 r0 33))).bind fun s6 =>
     (zm_is q4.2.1 r0 10).bind fun _ =>
     (zm_is q4.2.1 r0 10).bind fun _ => (zm_fw s6 r0 6 0 (.int (s6.1 r0 34))).bind fun s7 =>
     (zm_is q4.2.1 r0 10).bind fun _ =>
     zm_opt (s7.2.2 r0 35) (fun q8 =>
     (zm_is q4.2.1 r0 10).bind fun _ =>
     zm_opt (s7.2.2 r0 7) (fun q9 =>
     (zm_av (zM 200 [.ref q8, .int 0, .ref q9, .int 0, .int (nI 15)] q4.2.1 s7)).bind fun q10 => zk_199_0_4 q10 r0) (none)) (none))
    else (some (.inr (some (.int (-4)), q4.2.1, q4.2.2)))
set_option maxRecDepth 20000 in
theorem zq_199_0_5 (υ : Int32) (τ : zm_Sig) (r0 : Nat) : zk_199_0_5 (υ, zL, τ) r0 =
 
    if υ = (-9) then ((zm_is zL r0 10).bind fun _ =>
     (zm_is zL r0 10).bind fun _ => (zm_fw τ r0 4 0 (.int (τ.1 r0 32))).bind fun s5 =>
     (zm_is zL r0 10).bind fun _ =>
     (zm_is zL r0 10).bind fun _ => (zm_fw s5 r0 5 0 (.int (s5.1 r0 33))).bind fun s6 =>
     (zm_is zL r0 10).bind fun _ =>
     (zm_is zL r0 10).bind fun _ => (zm_fw s6 r0 6 0 (.int (s6.1 r0 34))).bind fun s7 =>
     (zm_is zL r0 10).bind fun _ =>
     zm_opt (s7.2.2 r0 35) (fun q8 =>
     (zm_is zL r0 10).bind fun _ =>
     zm_opt (s7.2.2 r0 7) (fun q9 =>
     (zm_av (zM 200 [.ref q8, .int 0, .ref q9, .int 0, .int (nI 15)] zL s7)).bind fun q10 => zk_199_0_4 q10 r0) (none)) (none))
    else (some (.inr (some (.int (-4)), zL, τ))) := Eq.trans rfl rfl
set_option maxRecDepth 20000 in
noncomputable def zk_199_0_6 (q21 : Int32 × zm_Lay × zm_Sig)  : Option (zm_St ⊕ zm_Out) :=
 
    some (.inr (some (.int q21.1), q21.2.1, q21.2.2))
set_option maxRecDepth 20000 in
theorem zq_199_0_6 (υ : Int32) (τ : zm_Sig)  : zk_199_0_6 (υ, zL, τ)  =
 
    some (.inr (some (.int υ), zL, τ)) := Eq.trans rfl rfl
set_option maxRecDepth 20000 in
noncomputable def zk_199_0_7 (q1 : Int32 × zm_Lay × zm_Sig) (r0 : Nat) (i1 : Int32) : Option (zm_St ⊕ zm_Out) :=
 
  if ¬ q1.1 = 0 then ((zm_is q1.2.1 r0 10).bind fun _ =>
   zm_opt (q1.2.2.2.2 r0 2) (fun q2 =>
   (zm_gI q1.2.1 q1.2.2 q2 i1).bind fun v3 =>
   if (0 : Int32) ≤ v3 then ((zm_is q1.2.1 r0 10).bind fun _ => (zm_ai (zM 190 [.ref r0, .int i1] q1.2.1 q1.2.2)).bind fun q4 => zk_199_0_5 q4 r0)
   else ((zm_is q1.2.1 r0 10).bind fun _ => (zm_ai (zM 177 [.ref r0, .int 1] q1.2.1 q1.2.2)).bind fun q21 => zk_199_0_6 q21 )) (none))
  else (some (.inr (some (.int (-1)), q1.2.1, q1.2.2)))
set_option maxRecDepth 20000 in
theorem zq_199_0_7 (υ : Int32) (τ : zm_Sig) (r0 : Nat) (i1 : Int32) : zk_199_0_7 (υ, zL, τ) r0 i1 =
 
  if ¬ υ = 0 then ((zm_is zL r0 10).bind fun _ =>
   zm_opt (τ.2.2 r0 2) (fun q2 =>
   (zm_gI zL τ q2 i1).bind fun v3 =>
   if (0 : Int32) ≤ v3 then ((zm_is zL r0 10).bind fun _ => (zm_ai (zM 190 [.ref r0, .int i1] zL τ)).bind fun q4 => zk_199_0_5 q4 r0)
   else ((zm_is zL r0 10).bind fun _ => (zm_ai (zM 177 [.ref r0, .int 1] zL τ)).bind fun q21 => zk_199_0_6 q21 )) (none))
  else (some (.inr (some (.int (-1)), zL, τ))) := Eq.trans rfl rfl
set_option maxRecDepth 20000 in
theorem zh_199_0 (σ : zm_Sig) (r0 : Nat) (i1 : Int32) : zb_199_0 zL σ r0 i1 =
  (zm_ai (zM 187 [.int i1] zL σ)).bind fun q1 => zk_199_0_7 q1 r0 i1 := Eq.trans rfl rfl
