/-! big blocks, chopped at their calls -/
set_option maxRecDepth 20000 in
noncomputable def zk_24_0_1 (q7 : Int32 × zm_Lay × zm_Sig)  : Option (zm_St ⊕ zm_Out) :=
 
      some (.inr (some (.int q7.1), q7.2.1, q7.2.2))
set_option maxRecDepth 20000 in
theorem zq_24_0_1 (υ : Int32) (τ : zm_Sig)  : zk_24_0_1 (υ, zL, τ)  =
 
      some (.inr (some (.int υ), zL, τ)) := rfl
set_option maxRecDepth 20000 in
noncomputable def zk_24_0_2 (q12 : Int32 × zm_Lay × zm_Sig)  : Option (zm_St ⊕ zm_Out) :=
 
        some (.inr (some (.int q12.1), q12.2.1, q12.2.2))
set_option maxRecDepth 20000 in
theorem zq_24_0_2 (υ : Int32) (τ : zm_Sig)  : zk_24_0_2 (υ, zL, τ)  =
 
        some (.inr (some (.int υ), zL, τ)) := rfl
set_option maxRecDepth 20000 in
noncomputable def zk_24_0_3 (q16 : zm_Lay × zm_Sig)  : Option (zm_St ⊕ zm_Out) :=
 
         some (.inr (some (.int 1), q16.1, q16.2))
set_option maxRecDepth 20000 in
theorem zq_24_0_3 (τ : zm_Sig)  : zk_24_0_3 (zL, τ)  =
 
         some (.inr (some (.int 1), zL, τ)) := rfl
set_option maxRecDepth 20000 in
noncomputable def zk_24_0_4 (q17 : Int32 × zm_Lay × zm_Sig)  : Option (zm_St ⊕ zm_Out) :=
 
         some (.inr (some (.int q17.1), q17.2.1, q17.2.2))
set_option maxRecDepth 20000 in
theorem zq_24_0_4 (υ : Int32) (τ : zm_Sig)  : zk_24_0_4 (υ, zL, τ)  =
 
         some (.inr (some (.int υ), zL, τ)) := rfl
set_option maxRecDepth 20000 in
noncomputable def zk_24_0_5 (q14 : Int32 × zm_Lay × zm_Sig) (r0 : Nat) (i1 : Int32) (i2 : Int32) (i3 : Int32) (i4 : Int32) (i5 : Int32) : Option (zm_St ⊕ zm_Out) :=
 
        if ¬ q14.1 = 0 then ((zm_is q14.2.1 r0 9).bind fun _ =>
         zm_opt (q14.2.2.2.2 r0 0) (fun q15 =>
         (zm_is q14.2.1 q15 5).bind fun _ => (zm_av (zM 26 [.ref q15, .int i1, .int i2, .int i3, .int i4, .int i5] q14.2.1 q14.2.2)).bind fun q16 => zk_24_0_3 q16 ) (none))
        else ((zm_is q14.2.1 r0 9).bind fun _ => (zm_ai (zM 13 [.ref r0, .int (nI 2)] q14.2.1 q14.2.2)).bind fun q17 => zk_24_0_4 q17 )
set_option maxRecDepth 20000 in
theorem zq_24_0_5 (υ : Int32) (τ : zm_Sig) (r0 : Nat) (i1 : Int32) (i2 : Int32) (i3 : Int32) (i4 : Int32) (i5 : Int32) : zk_24_0_5 (υ, zL, τ) r0 i1 i2 i3 i4 i5 =
 
        if ¬ υ = 0 then ((zm_is zL r0 9).bind fun _ =>
         zm_opt (τ.2.2 r0 0) (fun q15 =>
         (zm_is zL q15 5).bind fun _ => (zm_av (zM 26 [.ref q15, .int i1, .int i2, .int i3, .int i4, .int i5] zL τ)).bind fun q16 => zk_24_0_3 q16 ) (none))
        else ((zm_is zL r0 9).bind fun _ => (zm_ai (zM 13 [.ref r0, .int (nI 2)] zL τ)).bind fun q17 => zk_24_0_4 q17 ) := rfl
set_option maxRecDepth 20000 in
noncomputable def zk_24_0_6 (q11 : Int32 × zm_Lay × zm_Sig) (r0 : Nat) (i3 : Int32) (i4 : Int32) (i5 : Int32) (i1 : Int32) (i2 : Int32) : Option (zm_St ⊕ zm_Out) :=
 
       if q11.1 = 0 then ((zm_is q11.2.1 r0 9).bind fun _ => (zm_ai (zM 13 [.ref r0, .int (nI 2)] q11.2.1 q11.2.2)).bind fun q12 => zk_24_0_2 q12 )
       else ((zm_is q11.2.1 r0 9).bind fun _ =>
        zm_opt (q11.2.2.2.2 r0 0) (fun q13 =>
        (zm_is q11.2.1 q13 5).bind fun _ => (zm_ai (zM 25 [.ref q13, .int i3, .int i4, .int i5] q11.2.1 q11.2.2)).bind fun q14 => zk_24_0_5 q14 r0 i1 i2 i3 i4 i5) (none))
set_option maxRecDepth 20000 in
theorem zq_24_0_6 (υ : Int32) (τ : zm_Sig) (r0 : Nat) (i3 : Int32) (i4 : Int32) (i5 : Int32) (i1 : Int32) (i2 : Int32) : zk_24_0_6 (υ, zL, τ) r0 i3 i4 i5 i1 i2 =
 
       if υ = 0 then ((zm_is zL r0 9).bind fun _ => (zm_ai (zM 13 [.ref r0, .int (nI 2)] zL τ)).bind fun q12 => zk_24_0_2 q12 )
       else ((zm_is zL r0 9).bind fun _ =>
        zm_opt (τ.2.2 r0 0) (fun q13 =>
        (zm_is zL q13 5).bind fun _ => (zm_ai (zM 25 [.ref q13, .int i3, .int i4, .int i5] zL τ)).bind fun q14 => zk_24_0_5 q14 r0 i1 i2 i3 i4 i5) (none)) := rfl
set_option maxRecDepth 20000 in
noncomputable def zk_24_0_7 (q18 : Int32 × zm_Lay × zm_Sig)  : Option (zm_St ⊕ zm_Out) :=
 
       some (.inr (some (.int q18.1), q18.2.1, q18.2.2))
set_option maxRecDepth 20000 in
theorem zq_24_0_7 (υ : Int32) (τ : zm_Sig)  : zk_24_0_7 (υ, zL, τ)  =
 
       some (.inr (some (.int υ), zL, τ)) := rfl
set_option maxRecDepth 20000 in
noncomputable def zk_24_0_8 (q9 : Int32 × zm_Lay × zm_Sig) (r0 : Nat) (i1 : Int32) (i2 : Int32) (i5 : Int32) (i3 : Int32) (i4 : Int32) : Option (zm_St ⊕ zm_Out) :=
 
      if q9.1 = 0 then ((zm_is q9.2.1 r0 9).bind fun _ =>
       zm_opt (q9.2.2.2.2 r0 0) (fun q10 =>
       (zm_is q9.2.1 q10 5).bind fun _ => (zm_ai (zM 25 [.ref q10, .int i1, .int i2, .int i5] q9.2.1 q9.2.2)).bind fun q11 => zk_24_0_6 q11 r0 i3 i4 i5 i1 i2) (none))
      else ((zm_is q9.2.1 r0 9).bind fun _ => (zm_ai (zM 13 [.ref r0, .int 1] q9.2.1 q9.2.2)).bind fun q18 => zk_24_0_7 q18 )
set_option maxRecDepth 20000 in
theorem zq_24_0_8 (υ : Int32) (τ : zm_Sig) (r0 : Nat) (i1 : Int32) (i2 : Int32) (i5 : Int32) (i3 : Int32) (i4 : Int32) : zk_24_0_8 (υ, zL, τ) r0 i1 i2 i5 i3 i4 =
 
      if υ = 0 then ((zm_is zL r0 9).bind fun _ =>
       zm_opt (τ.2.2 r0 0) (fun q10 =>
       (zm_is zL q10 5).bind fun _ => (zm_ai (zM 25 [.ref q10, .int i1, .int i2, .int i5] zL τ)).bind fun q11 => zk_24_0_6 q11 r0 i3 i4 i5 i1 i2) (none))
      else ((zm_is zL r0 9).bind fun _ => (zm_ai (zM 13 [.ref r0, .int 1] zL τ)).bind fun q18 => zk_24_0_7 q18 ) := rfl
set_option maxRecDepth 20000 in
noncomputable def zk_24_0_9 (q6 : Int32 × zm_Lay × zm_Sig) (r0 : Nat) (i3 : Int32) (i1 : Int32) (i2 : Int32) (i5 : Int32) (i4 : Int32) : Option (zm_St ⊕ zm_Out) :=
 
     if ¬ q6.1 = 0 then ((zm_is q6.2.1 r0 9).bind fun _ => (zm_ai (zM 13 [.ref r0, .int 1] q6.2.1 q6.2.2)).bind fun q7 => zk_24_0_1 q7 )
     else ((zm_is q6.2.1 r0 9).bind fun _ =>
      zm_opt (q6.2.2.2.2 r0 0) (fun q8 =>
      (zm_is q6.2.1 q8 5).bind fun _ => (zm_ai (zM 16 [.ref q8, .int i3] q6.2.1 q6.2.2)).bind fun q9 => zk_24_0_8 q9 r0 i1 i2 i5 i3 i4) (none))
set_option maxRecDepth 20000 in
theorem zq_24_0_9 (υ : Int32) (τ : zm_Sig) (r0 : Nat) (i3 : Int32) (i1 : Int32) (i2 : Int32) (i5 : Int32) (i4 : Int32) : zk_24_0_9 (υ, zL, τ) r0 i3 i1 i2 i5 i4 =
 
     if ¬ υ = 0 then ((zm_is zL r0 9).bind fun _ => (zm_ai (zM 13 [.ref r0, .int 1] zL τ)).bind fun q7 => zk_24_0_1 q7 )
     else ((zm_is zL r0 9).bind fun _ =>
      zm_opt (τ.2.2 r0 0) (fun q8 =>
      (zm_is zL q8 5).bind fun _ => (zm_ai (zM 16 [.ref q8, .int i3] zL τ)).bind fun q9 => zk_24_0_8 q9 r0 i1 i2 i5 i3 i4) (none)) := rfl
set_option maxRecDepth 20000 in
noncomputable def zk_24_0_10 (q19 : Int32 × zm_Lay × zm_Sig)  : Option (zm_St ⊕ zm_Out) :=
 
     some (.inr (some (.int q19.1), q19.2.1, q19.2.2))
set_option maxRecDepth 20000 in
theorem zq_24_0_10 (υ : Int32) (τ : zm_Sig)  : zk_24_0_10 (υ, zL, τ)  =
 
     some (.inr (some (.int υ), zL, τ)) := rfl
set_option maxRecDepth 20000 in
noncomputable def zk_24_0_11 (q4 : Int32 × zm_Lay × zm_Sig) (i5 : Int32) (r0 : Nat) (i1 : Int32) (i3 : Int32) (i2 : Int32) (i4 : Int32) : Option (zm_St ⊕ zm_Out) :=
 
   if ¬ q4.1 = 0 then (if (0 : Int32) ≤ i5 then ((zm_is q4.2.1 r0 9).bind fun _ =>
     zm_opt (q4.2.2.2.2 r0 0) (fun q5 =>
     (zm_is q4.2.1 q5 5).bind fun _ => (zm_ai (zM 16 [.ref q5, .int i1] q4.2.1 q4.2.2)).bind fun q6 => zk_24_0_9 q6 r0 i3 i1 i2 i5 i4) (none))
    else ((zm_is q4.2.1 r0 9).bind fun _ => (zm_ai (zM 13 [.ref r0, .int (nI 5)] q4.2.1 q4.2.2)).bind fun q19 => zk_24_0_10 q19 ))
   else (some (.inr (some (.int (-1)), q4.2.1, q4.2.2)))
set_option maxRecDepth 20000 in
theorem zq_24_0_11 (υ : Int32) (τ : zm_Sig) (i5 : Int32) (r0 : Nat) (i1 : Int32) (i3 : Int32) (i2 : Int32) (i4 : Int32) : zk_24_0_11 (υ, zL, τ) i5 r0 i1 i3 i2 i4 =
 
   if ¬ υ = 0 then (if (0 : Int32) ≤ i5 then ((zm_is zL r0 9).bind fun _ =>
     zm_opt (τ.2.2 r0 0) (fun q5 =>
     (zm_is zL q5 5).bind fun _ => (zm_ai (zM 16 [.ref q5, .int i1] zL τ)).bind fun q6 => zk_24_0_9 q6 r0 i3 i1 i2 i5 i4) (none))
    else ((zm_is zL r0 9).bind fun _ => (zm_ai (zM 13 [.ref r0, .int (nI 5)] zL τ)).bind fun q19 => zk_24_0_10 q19 ))
   else (some (.inr (some (.int (-1)), zL, τ))) := rfl
set_option maxRecDepth 20000 in
noncomputable def zk_24_0_12 (q2 : Int32 × zm_Lay × zm_Sig) (r0 : Nat) (i3 : Int32) (i5 : Int32) (i1 : Int32) (i2 : Int32) (i4 : Int32) : Option (zm_St ⊕ zm_Out) :=
 
  if q2.1 = 0 then (some (.inr (some (.int (-1)), q2.2.1, q2.2.2)))
  else ((zm_is q2.2.1 r0 9).bind fun _ =>
   zm_opt (q2.2.2.2.2 r0 0) (fun q3 =>
   (zm_is q2.2.1 q3 5).bind fun _ => (zm_ai (zM 12 [.ref q3, .int i3] q2.2.1 q2.2.2)).bind fun q4 => zk_24_0_11 q4 i5 r0 i1 i3 i2 i4) (none))
set_option maxRecDepth 20000 in
theorem zq_24_0_12 (υ : Int32) (τ : zm_Sig) (r0 : Nat) (i3 : Int32) (i5 : Int32) (i1 : Int32) (i2 : Int32) (i4 : Int32) : zk_24_0_12 (υ, zL, τ) r0 i3 i5 i1 i2 i4 =
 
  if υ = 0 then (some (.inr (some (.int (-1)), zL, τ)))
  else ((zm_is zL r0 9).bind fun _ =>
   zm_opt (τ.2.2 r0 0) (fun q3 =>
   (zm_is zL q3 5).bind fun _ => (zm_ai (zM 12 [.ref q3, .int i3] zL τ)).bind fun q4 => zk_24_0_11 q4 i5 r0 i1 i3 i2 i4) (none)) := rfl
set_option maxRecDepth 20000 in
theorem zh_24_0 (σ : zm_Sig) (r0 : Nat) (i1 : Int32) (i2 : Int32) (i3 : Int32) (i4 : Int32) (i5 : Int32) : zb_24_0 zL σ r0 i1 i2 i3 i4 i5 =
  (zm_is zL r0 9).bind fun _ =>
  zm_opt (σ.2.2 r0 0) (fun q1 =>
  (zm_is zL q1 5).bind fun _ => (zm_ai (zM 12 [.ref q1, .int i1] zL σ)).bind fun q2 => zk_24_0_12 q2 r0 i3 i5 i1 i2 i4) (none) := rfl
set_option maxRecDepth 20000 in
noncomputable def zk_184_0_1 (q5 : Int32 × zm_Lay × zm_Sig)  : Option (zm_St ⊕ zm_Out) :=
 
      some (.inr (some (.int q5.1), q5.2.1, q5.2.2))
set_option maxRecDepth 20000 in
theorem zq_184_0_1 (υ : Int32) (τ : zm_Sig)  : zk_184_0_1 (υ, zL, τ)  =
 
      some (.inr (some (.int υ), zL, τ)) := rfl
set_option maxRecDepth 20000 in
noncomputable def zk_184_0_2 (q8 : Int32 × zm_Lay × zm_Sig)  : Option (zm_St ⊕ zm_Out) :=
 
        some (.inr (some (.int q8.1), q8.2.1, q8.2.2))
set_option maxRecDepth 20000 in
theorem zq_184_0_2 (υ : Int32) (τ : zm_Sig)  : zk_184_0_2 (υ, zL, τ)  =
 
        some (.inr (some (.int υ), zL, τ)) := rfl
set_option maxRecDepth 20000 in
noncomputable def zk_184_0_3 (q9 : Int32 × zm_Lay × zm_Sig)  : Option (zm_St ⊕ zm_Out) :=
 
         some (.inr (some (.int q9.1), q9.2.1, q9.2.2))
set_option maxRecDepth 20000 in
theorem zq_184_0_3 (υ : Int32) (τ : zm_Sig)  : zk_184_0_3 (υ, zL, τ)  =
 
         some (.inr (some (.int υ), zL, τ)) := rfl
set_option maxRecDepth 20000 in
noncomputable def zk_184_0_4 (q10 : Int32 × zm_Lay × zm_Sig)  : Option (zm_St ⊕ zm_Out) :=
 
          some (.inr (some (.int q10.1), q10.2.1, q10.2.2))
set_option maxRecDepth 20000 in
theorem zq_184_0_4 (υ : Int32) (τ : zm_Sig)  : zk_184_0_4 (υ, zL, τ)  =
 
          some (.inr (some (.int υ), zL, τ)) := rfl
set_option maxRecDepth 20000 in
noncomputable def zk_184_0_5 (q13 : Int32 × zm_Lay × zm_Sig)  : Option (zm_St ⊕ zm_Out) :=
 
           some (.inr (some (.int q13.1), q13.2.1, q13.2.2))
set_option maxRecDepth 20000 in
theorem zq_184_0_5 (υ : Int32) (τ : zm_Sig)  : zk_184_0_5 (υ, zL, τ)  =
 
           some (.inr (some (.int υ), zL, τ)) := rfl
set_option maxRecDepth 20000 in
noncomputable def zk_184_0_6 (q16 : Int32 × zm_Lay × zm_Sig)  : Option (zm_St ⊕ zm_Out) :=
 
            some (.inr (some (.int q16.1), q16.2.1, q16.2.2))
set_option maxRecDepth 20000 in
theorem zq_184_0_6 (υ : Int32) (τ : zm_Sig)  : zk_184_0_6 (υ, zL, τ)  =
 
            some (.inr (some (.int υ), zL, τ)) := rfl
set_option maxRecDepth 20000 in
noncomputable def zk_184_0_7 (q17 : Int32 × zm_Lay × zm_Sig)  : Option (zm_St ⊕ zm_Out) :=
 
       some (.inr (some (.int q17.1), q17.2.1, q17.2.2))
set_option maxRecDepth 20000 in
theorem zq_184_0_7 (υ : Int32) (τ : zm_Sig)  : zk_184_0_7 (υ, zL, τ)  =
 
       some (.inr (some (.int υ), zL, τ)) := rfl
set_option maxRecDepth 20000 in
noncomputable def zk_184_0_8 (q18 : Int32 × zm_Lay × zm_Sig)  : Option (zm_St ⊕ zm_Out) :=
 
     some (.inr (some (.int q18.1), q18.2.1, q18.2.2))
set_option maxRecDepth 20000 in
theorem zq_184_0_8 (υ : Int32) (τ : zm_Sig)  : zk_184_0_8 (υ, zL, τ)  =
 
     some (.inr (some (.int υ), zL, τ)) := rfl
set_option maxRecDepth 20000 in
noncomputable def zk_184_0_9 (q2 : Int32 × zm_Lay × zm_Sig) (i5 : Int32) (r0 : Nat) (i1 : Int32) (i3 : Int32) (i2 : Int32) (i4 : Int32) : Option (zm_St ⊕ zm_Out) :=
 
   if ¬ q2.1 = 0 then (if (0 : Int32) ≤ i5 then ((zm_is q2.2.1 r0 10).bind fun _ =>
     zm_opt (q2.2.2.2.2 r0 0) (fun q3 =>
     (zm_gI q2.2.1 q2.2.2 q3 i1).bind fun v4 =>
     if v4 < 0 then ((zm_is q2.2.1 r0 10).bind fun _ => (zm_ai (zM 177 [.ref r0, .int 1] q2.2.1 q2.2.2)).bind fun q5 => zk_184_0_1 q5 )
     else ((zm_is q2.2.1 r0 10).bind fun _ =>
      zm_opt (q2.2.2.2.2 r0 0) (fun q6 =>
      (zm_gI q2.2.1 q2.2.2 q6 i3).bind fun v7 =>
      if (0 : Int32) ≤ v7 then (if i2 < 0 then ((zm_is q2.2.1 r0 10).bind fun _ => (zm_ai (zM 177 [.ref r0, .int (nI 2)] q2.2.1 q2.2.2)).bind fun q8 => zk_184_0_2 q8 )
       else (if i4 < 0 then ((zm_is q2.2.1 r0 10).bind fun _ => (zm_ai (zM 177 [.ref r0, .int (nI 2)] q2.2.1 q2.2.2)).bind fun q9 => zk_184_0_3 q9 )
        else (if ((nI 40) : Int32) < i5 then ((zm_is q2.2.1 r0 10).bind fun _ => (zm_ai (zM 177 [.ref r0, .int (nI 2)] q2.2.1 q2.2.2)).bind fun q10 => zk_184_0_4 q10 )
         else ((zm_is q2.2.1 r0 10).bind fun _ =>
          zm_opt (q2.2.2.2.2 r0 0) (fun q11 =>
          (zm_gI q2.2.1 q2.2.2 q11 i1).bind fun v12 =>
          if (v12 - i5) < i2 then ((zm_is q2.2.1 r0 10).bind fun _ => (zm_ai (zM 177 [.ref r0, .int (nI 2)] q2.2.1 q2.2.2)).bind fun q13 => zk_184_0_5 q13 )
          else ((zm_is q2.2.1 r0 10).bind fun _ =>
           zm_opt (q2.2.2.2.2 r0 0) (fun q14 =>
           (zm_gI q2.2.1 q2.2.2 q14 i3).bind fun v15 =>
           if i4 ≤ (v15 - i5) then (if i4 ≤ i2 then (some (.inl (116, [(0, .ref r0), (1, .int i1), (2, .int i2), (3, .int i3), (4, .int i4), (5, .int i5), (6, .int 0), (7, .int 0)], [], q2.2.1, q2.2.2, 0, 0)))
            else (some (.inl (116, [(0, .ref r0), (1, .int i1), (2, .int i2), (3, .int i3), (4, .int i4), (5, .int i5), (6, .int 1), (7, .int 0)], [], q2.2.1, q2.2.2, 0, 0))))
           else ((zm_is q2.2.1 r0 10).bind fun _ => (zm_ai (zM 177 [.ref r0, .int (nI 2)] q2.2.1 q2.2.2)).bind fun q16 => zk_184_0_6 q16 )) (none))) (none)))))
      else ((zm_is q2.2.1 r0 10).bind fun _ => (zm_ai (zM 177 [.ref r0, .int 1] q2.2.1 q2.2.2)).bind fun q17 => zk_184_0_7 q17 )) (none))) (none))
    else ((zm_is q2.2.1 r0 10).bind fun _ => (zm_ai (zM 177 [.ref r0, .int (nI 5)] q2.2.1 q2.2.2)).bind fun q18 => zk_184_0_8 q18 ))
   else (some (.inr (some (.int (-1)), q2.2.1, q2.2.2)))
set_option maxRecDepth 20000 in
theorem zq_184_0_9 (υ : Int32) (τ : zm_Sig) (i5 : Int32) (r0 : Nat) (i1 : Int32) (i3 : Int32) (i2 : Int32) (i4 : Int32) : zk_184_0_9 (υ, zL, τ) i5 r0 i1 i3 i2 i4 =
 
   if ¬ υ = 0 then (if (0 : Int32) ≤ i5 then ((zm_is zL r0 10).bind fun _ =>
     zm_opt (τ.2.2 r0 0) (fun q3 =>
     (zm_gI zL τ q3 i1).bind fun v4 =>
     if v4 < 0 then ((zm_is zL r0 10).bind fun _ => (zm_ai (zM 177 [.ref r0, .int 1] zL τ)).bind fun q5 => zk_184_0_1 q5 )
     else ((zm_is zL r0 10).bind fun _ =>
      zm_opt (τ.2.2 r0 0) (fun q6 =>
      (zm_gI zL τ q6 i3).bind fun v7 =>
      if (0 : Int32) ≤ v7 then (if i2 < 0 then ((zm_is zL r0 10).bind fun _ => (zm_ai (zM 177 [.ref r0, .int (nI 2)] zL τ)).bind fun q8 => zk_184_0_2 q8 )
       else (if i4 < 0 then ((zm_is zL r0 10).bind fun _ => (zm_ai (zM 177 [.ref r0, .int (nI 2)] zL τ)).bind fun q9 => zk_184_0_3 q9 )
        else (if ((nI 40) : Int32) < i5 then ((zm_is zL r0 10).bind fun _ => (zm_ai (zM 177 [.ref r0, .int (nI 2)] zL τ)).bind fun q10 => zk_184_0_4 q10 )
         else ((zm_is zL r0 10).bind fun _ =>
          zm_opt (τ.2.2 r0 0) (fun q11 =>
          (zm_gI zL τ q11 i1).bind fun v12 =>
          if (v12 - i5) < i2 then ((zm_is zL r0 10).bind fun _ => (zm_ai (zM 177 [.ref r0, .int (nI 2)] zL τ)).bind fun q13 => zk_184_0_5 q13 )
          else ((zm_is zL r0 10).bind fun _ =>
           zm_opt (τ.2.2 r0 0) (fun q14 =>
           (zm_gI zL τ q14 i3).bind fun v15 =>
           if i4 ≤ (v15 - i5) then (if i4 ≤ i2 then (some (.inl (116, [(0, .ref r0), (1, .int i1), (2, .int i2), (3, .int i3), (4, .int i4), (5, .int i5), (6, .int 0), (7, .int 0)], [], zL, τ, 0, 0)))
            else (some (.inl (116, [(0, .ref r0), (1, .int i1), (2, .int i2), (3, .int i3), (4, .int i4), (5, .int i5), (6, .int 1), (7, .int 0)], [], zL, τ, 0, 0))))
           else ((zm_is zL r0 10).bind fun _ => (zm_ai (zM 177 [.ref r0, .int (nI 2)] zL τ)).bind fun q16 => zk_184_0_6 q16 )) (none))) (none)))))
      else ((zm_is zL r0 10).bind fun _ => (zm_ai (zM 177 [.ref r0, .int 1] zL τ)).bind fun q17 => zk_184_0_7 q17 )) (none))) (none))
    else ((zm_is zL r0 10).bind fun _ => (zm_ai (zM 177 [.ref r0, .int (nI 5)] zL τ)).bind fun q18 => zk_184_0_8 q18 ))
   else (some (.inr (some (.int (-1)), zL, τ))) := rfl
set_option maxRecDepth 20000 in
noncomputable def zk_184_0_10 (q1 : Int32 × zm_Lay × zm_Sig) (i3 : Int32) (i5 : Int32) (r0 : Nat) (i1 : Int32) (i2 : Int32) (i4 : Int32) : Option (zm_St ⊕ zm_Out) :=
 
  if q1.1 = 0 then (some (.inr (some (.int (-1)), q1.2.1, q1.2.2)))
  else ((zm_ai (zM 175 [.int i3] q1.2.1 q1.2.2)).bind fun q2 => zk_184_0_9 q2 i5 r0 i1 i3 i2 i4)
set_option maxRecDepth 20000 in
theorem zq_184_0_10 (υ : Int32) (τ : zm_Sig) (i3 : Int32) (i5 : Int32) (r0 : Nat) (i1 : Int32) (i2 : Int32) (i4 : Int32) : zk_184_0_10 (υ, zL, τ) i3 i5 r0 i1 i2 i4 =
 
  if υ = 0 then (some (.inr (some (.int (-1)), zL, τ)))
  else ((zm_ai (zM 175 [.int i3] zL τ)).bind fun q2 => zk_184_0_9 q2 i5 r0 i1 i3 i2 i4) := rfl
set_option maxRecDepth 20000 in
theorem zh_184_0 (σ : zm_Sig) (r0 : Nat) (i1 : Int32) (i2 : Int32) (i3 : Int32) (i4 : Int32) (i5 : Int32) : zb_184_0 zL σ r0 i1 i2 i3 i4 i5 =
  (zm_ai (zM 175 [.int i1] zL σ)).bind fun q1 => zk_184_0_10 q1 i3 i5 r0 i1 i2 i4 := rfl
set_option maxRecDepth 20000 in
noncomputable def zk_84_0_1 (q11 : Int32 × zm_Lay × zm_Sig)  : Option (zm_St ⊕ zm_Out) :=
 
      some (.inr (some (.int q11.1), q11.2.1, q11.2.2))
set_option maxRecDepth 20000 in
theorem zq_84_0_1 (υ : Int32) (τ : zm_Sig)  : zk_84_0_1 (υ, zL, τ)  =
 
      some (.inr (some (.int υ), zL, τ)) := rfl
set_option maxRecDepth 20000 in
noncomputable def zk_84_0_2 (q10 : Int32 × zm_Lay × zm_Sig) (r0 : Nat) : Option (zm_St ⊕ zm_Out) :=
 
      (zm_is q10.2.1 r0 9).bind fun _ => (zm_ai (zM 20 [.ref r0, .int q10.1] q10.2.1 q10.2.2)).bind fun q11 => zk_84_0_1 q11 
set_option maxRecDepth 20000 in
theorem zq_84_0_2 (υ : Int32) (τ : zm_Sig) (r0 : Nat) : zk_84_0_2 (υ, zL, τ) r0 =
 
      (zm_is zL r0 9).bind fun _ => (zm_ai (zM 20 [.ref r0, .int υ] zL τ)).bind fun q11 => zk_84_0_1 q11  := rfl
set_option maxRecDepth 20000 in
noncomputable def zk_84_0_3 (q12 : Int32 × zm_Lay × zm_Sig)  : Option (zm_St ⊕ zm_Out) :=
 
       some (.inr (some (.int q12.1), q12.2.1, q12.2.2))
set_option maxRecDepth 20000 in
theorem zq_84_0_3 (υ : Int32) (τ : zm_Sig)  : zk_84_0_3 (υ, zL, τ)  =
 
       some (.inr (some (.int υ), zL, τ)) := rfl
set_option maxRecDepth 20000 in
noncomputable def zk_84_0_4 (q17 : Int32 × zm_Lay × zm_Sig)  : Option (zm_St ⊕ zm_Out) :=
 
        some (.inr (some (.int q17.1), q17.2.1, q17.2.2))
set_option maxRecDepth 20000 in
theorem zq_84_0_4 (υ : Int32) (τ : zm_Sig)  : zk_84_0_4 (υ, zL, τ)  =
 
        some (.inr (some (.int υ), zL, τ)) := rfl
set_option maxRecDepth 20000 in
noncomputable def zk_84_0_5 (q16 : Int32 × zm_Lay × zm_Sig) (r0 : Nat) : Option (zm_St ⊕ zm_Out) :=
 
        (zm_is q16.2.1 r0 9).bind fun _ => (zm_ai (zM 20 [.ref r0, .int q16.1] q16.2.1 q16.2.2)).bind fun q17 => zk_84_0_4 q17 
set_option maxRecDepth 20000 in
theorem zq_84_0_5 (υ : Int32) (τ : zm_Sig) (r0 : Nat) : zk_84_0_5 (υ, zL, τ) r0 =
 
        (zm_is zL r0 9).bind fun _ => (zm_ai (zM 20 [.ref r0, .int υ] zL τ)).bind fun q17 => zk_84_0_4 q17  := rfl
set_option maxRecDepth 20000 in
noncomputable def zk_84_0_6 (q18 : Int32 × zm_Lay × zm_Sig)  : Option (zm_St ⊕ zm_Out) :=
 
        some (.inr (some (.int q18.1), q18.2.1, q18.2.2))
set_option maxRecDepth 20000 in
theorem zq_84_0_6 (υ : Int32) (τ : zm_Sig)  : zk_84_0_6 (υ, zL, τ)  =
 
        some (.inr (some (.int υ), zL, τ)) := rfl
set_option maxRecDepth 20000 in
noncomputable def zk_84_0_7 (q2 : Int32 × zm_Lay × zm_Sig) (i2 : Int32) (r0 : Nat) (i1 : Int32) : Option (zm_St ⊕ zm_Out) :=
 
  if q2.1 = 0 then (some (.inr (some (.int (-1)), q2.2.1, q2.2.2)))
  else (if i2 < 1 then (some (.inr (some (.int (-1)), q2.2.1, q2.2.2)))
   else (if i2 ≤ (nI 4) then ((zm_is q2.2.1 r0 9).bind fun _ =>
     zm_opt (q2.2.2.2.2 r0 3) (fun q3 =>
     (zm_is q2.2.1 q3 0).bind fun _ =>
     zm_opt (q2.2.2.2.2 q3 0) (fun q4 =>
     (zm_is q2.2.1 q4 7).bind fun _ =>
     zm_opt (q2.2.2.2.2 q4 0) (fun q5 =>
     (zm_gI q2.2.1 q2.2.2 q5 i1).bind fun v6 =>
     if v6 = i2 then ((zm_is q2.2.1 r0 9).bind fun _ =>
      zm_opt (q2.2.2.2.2 r0 3) (fun q7 =>
      (zm_is q2.2.1 q7 0).bind fun _ =>
      zm_opt (q2.2.2.2.2 q7 0) (fun q8 =>
      (zm_is q2.2.1 r0 9).bind fun _ =>
      zm_opt (q2.2.2.2.2 r0 11) (fun q9 =>
      (zm_is q2.2.1 q8 7).bind fun _ => (zm_ai (zM 85 [.ref q8, .ref q9, .int i1, .int i2] q2.2.1 q2.2.2)).bind fun q10 => zk_84_0_2 q10 r0) (none)) (none)) (none))
     else (if ¬ i2 = (nI 2) then ((zm_is q2.2.1 r0 9).bind fun _ => (zm_ai (zM 13 [.ref r0, .int (nI 3)] q2.2.1 q2.2.2)).bind fun q12 => zk_84_0_3 q12 )
      else (if ¬ v6 = 1 then ((zm_is q2.2.1 r0 9).bind fun _ =>
        zm_opt (q2.2.2.2.2 r0 3) (fun q13 =>
        (zm_is q2.2.1 q13 0).bind fun _ =>
        zm_opt (q2.2.2.2.2 q13 0) (fun q14 =>
        (zm_is q2.2.1 r0 9).bind fun _ =>
        zm_opt (q2.2.2.2.2 r0 11) (fun q15 =>
        (zm_is q2.2.1 q14 7).bind fun _ => (zm_ai (zM 85 [.ref q14, .ref q15, .int i1, .int i2] q2.2.1 q2.2.2)).bind fun q16 => zk_84_0_5 q16 r0) (none)) (none)) (none))
       else ((zm_is q2.2.1 r0 9).bind fun _ => (zm_ai (zM 13 [.ref r0, .int (nI 3)] q2.2.1 q2.2.2)).bind fun q18 => zk_84_0_6 q18 )))) (none)) (none)) (none))
    else (some (.inr (some (.int (-1)), q2.2.1, q2.2.2)))))
set_option maxRecDepth 20000 in
theorem zq_84_0_7 (υ : Int32) (τ : zm_Sig) (i2 : Int32) (r0 : Nat) (i1 : Int32) : zk_84_0_7 (υ, zL, τ) i2 r0 i1 =
 
  if υ = 0 then (some (.inr (some (.int (-1)), zL, τ)))
  else (if i2 < 1 then (some (.inr (some (.int (-1)), zL, τ)))
   else (if i2 ≤ (nI 4) then ((zm_is zL r0 9).bind fun _ =>
     zm_opt (τ.2.2 r0 3) (fun q3 =>
     (zm_is zL q3 0).bind fun _ =>
     zm_opt (τ.2.2 q3 0) (fun q4 =>
     (zm_is zL q4 7).bind fun _ =>
     zm_opt (τ.2.2 q4 0) (fun q5 =>
     (zm_gI zL τ q5 i1).bind fun v6 =>
     if v6 = i2 then ((zm_is zL r0 9).bind fun _ =>
      zm_opt (τ.2.2 r0 3) (fun q7 =>
      (zm_is zL q7 0).bind fun _ =>
      zm_opt (τ.2.2 q7 0) (fun q8 =>
      (zm_is zL r0 9).bind fun _ =>
      zm_opt (τ.2.2 r0 11) (fun q9 =>
      (zm_is zL q8 7).bind fun _ => (zm_ai (zM 85 [.ref q8, .ref q9, .int i1, .int i2] zL τ)).bind fun q10 => zk_84_0_2 q10 r0) (none)) (none)) (none))
     else (if ¬ i2 = (nI 2) then ((zm_is zL r0 9).bind fun _ => (zm_ai (zM 13 [.ref r0, .int (nI 3)] zL τ)).bind fun q12 => zk_84_0_3 q12 )
      else (if ¬ v6 = 1 then ((zm_is zL r0 9).bind fun _ =>
        zm_opt (τ.2.2 r0 3) (fun q13 =>
        (zm_is zL q13 0).bind fun _ =>
        zm_opt (τ.2.2 q13 0) (fun q14 =>
        (zm_is zL r0 9).bind fun _ =>
        zm_opt (τ.2.2 r0 11) (fun q15 =>
        (zm_is zL q14 7).bind fun _ => (zm_ai (zM 85 [.ref q14, .ref q15, .int i1, .int i2] zL τ)).bind fun q16 => zk_84_0_5 q16 r0) (none)) (none)) (none))
       else ((zm_is zL r0 9).bind fun _ => (zm_ai (zM 13 [.ref r0, .int (nI 3)] zL τ)).bind fun q18 => zk_84_0_6 q18 )))) (none)) (none)) (none))
    else (some (.inr (some (.int (-1)), zL, τ))))) := rfl
set_option maxRecDepth 20000 in
theorem zh_84_0 (σ : zm_Sig) (r0 : Nat) (i1 : Int32) (i2 : Int32) : zb_84_0 zL σ r0 i1 i2 =
  (zm_is zL r0 9).bind fun _ =>
  zm_opt (σ.2.2 r0 11) (fun q1 =>
  (zm_is zL q1 1).bind fun _ => (zm_ai (zM 77 [.ref q1, .int i1] zL σ)).bind fun q2 => zk_84_0_7 q2 i2 r0 i1) (none) := rfl
set_option maxRecDepth 20000 in
noncomputable def zk_225_0_1 (q11 : Int32 × zm_Lay × zm_Sig)  : Option (zm_St ⊕ zm_Out) :=
 
       some (.inr (some (.int q11.1), q11.2.1, q11.2.2))
set_option maxRecDepth 20000 in
theorem zq_225_0_1 (υ : Int32) (τ : zm_Sig)  : zk_225_0_1 (υ, zL, τ)  =
 
       some (.inr (some (.int υ), zL, τ)) := rfl
set_option maxRecDepth 20000 in
noncomputable def zk_225_0_2 (q12 : Int32 × zm_Lay × zm_Sig)  : Option (zm_St ⊕ zm_Out) :=
 
       some (.inr (some (.int q12.1), q12.2.1, q12.2.2))
set_option maxRecDepth 20000 in
theorem zq_225_0_2 (υ : Int32) (τ : zm_Sig)  : zk_225_0_2 (υ, zL, τ)  =
 
       some (.inr (some (.int υ), zL, τ)) := rfl
set_option maxRecDepth 20000 in
noncomputable def zk_225_0_3 (q17 : Int32 × zm_Lay × zm_Sig)  : Option (zm_St ⊕ zm_Out) :=
 
      some (.inr (some (.int q17.1), q17.2.1, q17.2.2))
set_option maxRecDepth 20000 in
theorem zq_225_0_3 (υ : Int32) (τ : zm_Sig)  : zk_225_0_3 (υ, zL, τ)  =
 
      some (.inr (some (.int υ), zL, τ)) := rfl
set_option maxRecDepth 20000 in
noncomputable def zk_225_0_4 (q19 : Int32 × zm_Lay × zm_Sig)  : Option (zm_St ⊕ zm_Out) :=
 
      some (.inr (some (.int q19.1), q19.2.1, q19.2.2))
set_option maxRecDepth 20000 in
theorem zq_225_0_4 (υ : Int32) (τ : zm_Sig)  : zk_225_0_4 (υ, zL, τ)  =
 
      some (.inr (some (.int υ), zL, τ)) := rfl
set_option maxRecDepth 20000 in
noncomputable def zk_225_0_5 (q18 : Int32 × zm_Lay × zm_Sig) (r0 : Nat) : Option (zm_St ⊕ zm_Out) :=
 
      (zm_is q18.2.1 r0 10).bind fun _ => (zm_ai (zM 181 [.ref r0, .int q18.1, .int 1] q18.2.1 q18.2.2)).bind fun q19 => zk_225_0_4 q19 
set_option maxRecDepth 20000 in
theorem zq_225_0_5 (υ : Int32) (τ : zm_Sig) (r0 : Nat) : zk_225_0_5 (υ, zL, τ) r0 =
 
      (zm_is zL r0 10).bind fun _ => (zm_ai (zM 181 [.ref r0, .int υ, .int 1] zL τ)).bind fun q19 => zk_225_0_4 q19  := rfl
set_option maxRecDepth 20000 in
noncomputable def zk_225_0_6 (q21 : Int32 × zm_Lay × zm_Sig)  : Option (zm_St ⊕ zm_Out) :=
 
      some (.inr (some (.int q21.1), q21.2.1, q21.2.2))
set_option maxRecDepth 20000 in
theorem zq_225_0_6 (υ : Int32) (τ : zm_Sig)  : zk_225_0_6 (υ, zL, τ)  =
 
      some (.inr (some (.int υ), zL, τ)) := rfl
set_option maxRecDepth 20000 in
noncomputable def zk_225_0_7 (q20 : Int32 × zm_Lay × zm_Sig) (r0 : Nat) : Option (zm_St ⊕ zm_Out) :=
 
      (zm_is q20.2.1 r0 10).bind fun _ => (zm_ai (zM 181 [.ref r0, .int q20.1, .int 1] q20.2.1 q20.2.2)).bind fun q21 => zk_225_0_6 q21 
set_option maxRecDepth 20000 in
theorem zq_225_0_7 (υ : Int32) (τ : zm_Sig) (r0 : Nat) : zk_225_0_7 (υ, zL, τ) r0 =
 
      (zm_is zL r0 10).bind fun _ => (zm_ai (zM 181 [.ref r0, .int υ, .int 1] zL τ)).bind fun q21 => zk_225_0_6 q21  := rfl
set_option maxRecDepth 20000 in
noncomputable def zk_225_0_8 (q6 : Int32 × zm_Lay × zm_Sig) (i2 : Int32) (r0 : Nat) (i1 : Int32) (q5 : Int32 × zm_Lay × zm_Sig) : Option (zm_St ⊕ zm_Out) :=
 
     if i2 = 1 then ((zm_is q6.2.1 r0 10).bind fun _ =>
      zm_opt (q6.2.2.2.2 r0 14) (fun q7 =>
      (zm_gI q6.2.1 q6.2.2 q7 (i1 / (q5.2.2.1 r0 5))).bind fun v8 =>
      (zm_is q6.2.1 r0 10).bind fun _ =>
      zm_opt (q6.2.2.2.2 r0 14) (fun q9 =>
      (zm_gI q6.2.1 q6.2.2 q9 q6.1).bind fun v10 =>
      if v8 ≤ v10 then ((zm_is q6.2.1 r0 10).bind fun _ => (zm_ai (zM 181 [.ref r0, .int q6.1, .int 1] q6.2.1 q6.2.2)).bind fun q11 => zk_225_0_1 q11 )
      else ((zm_is q6.2.1 r0 10).bind fun _ => (zm_ai (zM 181 [.ref r0, .int (i1 / (q5.2.2.1 r0 5)), .int 1] q6.2.1 q6.2.2)).bind fun q12 => zk_225_0_2 q12 )) (none)) (none))
     else if i2 = (nI 2) then ((zm_is q6.2.1 r0 10).bind fun _ =>
      zm_opt (q6.2.2.2.2 r0 13) (fun q13 =>
      (zm_gI q6.2.1 q6.2.2 q13 (i1 / (q5.2.2.1 r0 5))).bind fun v14 =>
      (zm_is q6.2.1 r0 10).bind fun _ =>
      zm_opt (q6.2.2.2.2 r0 13) (fun q15 =>
      (zm_gI q6.2.1 q6.2.2 q15 q6.1).bind fun v16 =>
      (zm_is q6.2.1 r0 10).bind fun _ => (zm_ai (zM 181 [.ref r0, .int ((v14 + v16) + 1), .int 1] q6.2.1 q6.2.2)).bind fun q17 => zk_225_0_3 q17 ) (none)) (none))
     else if i2 = (nI 3) then ((zm_is q6.2.1 r0 10).bind fun _ => (zm_ai (zM 227 [.ref r0, .int (i1 / (q5.2.2.1 r0 5))] q6.2.1 q6.2.2)).bind fun q18 => zk_225_0_5 q18 r0)
     else ((zm_is q6.2.1 r0 10).bind fun _ => (zm_ai (zM 228 [.ref r0, .int i1] q6.2.1 q6.2.2)).bind fun q20 => zk_225_0_7 q20 r0)
set_option maxRecDepth 20000 in
theorem zq_225_0_8 (υ : Int32) (τ : zm_Sig) (i2 : Int32) (r0 : Nat) (i1 : Int32) (q5 : Int32 × zm_Lay × zm_Sig) : zk_225_0_8 (υ, zL, τ) i2 r0 i1 q5 =
 
     if i2 = 1 then ((zm_is zL r0 10).bind fun _ =>
      zm_opt (τ.2.2 r0 14) (fun q7 =>
      (zm_gI zL τ q7 (i1 / (q5.2.2.1 r0 5))).bind fun v8 =>
      (zm_is zL r0 10).bind fun _ =>
      zm_opt (τ.2.2 r0 14) (fun q9 =>
      (zm_gI zL τ q9 υ).bind fun v10 =>
      if v8 ≤ v10 then ((zm_is zL r0 10).bind fun _ => (zm_ai (zM 181 [.ref r0, .int υ, .int 1] zL τ)).bind fun q11 => zk_225_0_1 q11 )
      else ((zm_is zL r0 10).bind fun _ => (zm_ai (zM 181 [.ref r0, .int (i1 / (q5.2.2.1 r0 5)), .int 1] zL τ)).bind fun q12 => zk_225_0_2 q12 )) (none)) (none))
     else if i2 = (nI 2) then ((zm_is zL r0 10).bind fun _ =>
      zm_opt (τ.2.2 r0 13) (fun q13 =>
      (zm_gI zL τ q13 (i1 / (q5.2.2.1 r0 5))).bind fun v14 =>
      (zm_is zL r0 10).bind fun _ =>
      zm_opt (τ.2.2 r0 13) (fun q15 =>
      (zm_gI zL τ q15 υ).bind fun v16 =>
      (zm_is zL r0 10).bind fun _ => (zm_ai (zM 181 [.ref r0, .int ((v14 + v16) + 1), .int 1] zL τ)).bind fun q17 => zk_225_0_3 q17 ) (none)) (none))
     else if i2 = (nI 3) then ((zm_is zL r0 10).bind fun _ => (zm_ai (zM 227 [.ref r0, .int (i1 / (q5.2.2.1 r0 5))] zL τ)).bind fun q18 => zk_225_0_5 q18 r0)
     else ((zm_is zL r0 10).bind fun _ => (zm_ai (zM 228 [.ref r0, .int i1] zL τ)).bind fun q20 => zk_225_0_7 q20 r0) := rfl
set_option maxRecDepth 20000 in
noncomputable def zk_225_0_9 (q22 : Int32 × zm_Lay × zm_Sig)  : Option (zm_St ⊕ zm_Out) :=
 
     some (.inr (some (.int q22.1), q22.2.1, q22.2.2))
set_option maxRecDepth 20000 in
theorem zq_225_0_9 (υ : Int32) (τ : zm_Sig)  : zk_225_0_9 (υ, zL, τ)  =
 
     some (.inr (some (.int υ), zL, τ)) := rfl
set_option maxRecDepth 20000 in
noncomputable def zk_225_0_10 (q5 : Int32 × zm_Lay × zm_Sig) (r0 : Nat) (i1 : Int32) (i2 : Int32) : Option (zm_St ⊕ zm_Out) :=
 
    if ¬ q5.1 = 0 then ((zm_is q5.2.1 r0 10).bind fun _ =>
     if (q5.2.2.1 r0 5) = 0 then none
     else ((zm_is q5.2.1 r0 10).bind fun _ => (zm_ai (zM 224 [.ref r0, .int i1] q5.2.1 q5.2.2)).bind fun q6 => zk_225_0_8 q6 i2 r0 i1 q5))
    else ((zm_is q5.2.1 r0 10).bind fun _ => (zm_ai (zM 177 [.ref r0, .int (nI 3)] q5.2.1 q5.2.2)).bind fun q22 => zk_225_0_9 q22 )
set_option maxRecDepth 20000 in
theorem zq_225_0_10 (υ : Int32) (τ : zm_Sig) (r0 : Nat) (i1 : Int32) (i2 : Int32) : zk_225_0_10 (υ, zL, τ) r0 i1 i2 =
 
    if ¬ υ = 0 then ((zm_is zL r0 10).bind fun _ =>
     if (τ.1 r0 5) = 0 then none
     else ((zm_is zL r0 10).bind fun _ => (zm_ai (zM 224 [.ref r0, .int i1] zL τ)).bind fun q6 => zk_225_0_8 q6 i2 r0 i1 (υ, zL, τ)))
    else ((zm_is zL r0 10).bind fun _ => (zm_ai (zM 177 [.ref r0, .int (nI 3)] zL τ)).bind fun q22 => zk_225_0_9 q22 ) := rfl
set_option maxRecDepth 20000 in
noncomputable def zk_225_0_11 (q2 : Int32 × zm_Lay × zm_Sig) (r0 : Nat) (i1 : Int32) (i2 : Int32) : Option (zm_St ⊕ zm_Out) :=
 
   if ¬ q2.1 = 0 then ((zm_is q2.2.1 r0 10).bind fun _ =>
    zm_opt (q2.2.2.2.2 r0 17) (fun q3 =>
    (zm_gI q2.2.1 q2.2.2 q3 i1).bind fun v4 =>
    (zm_ai (zM 226 [.int v4, .int i2] q2.2.1 q2.2.2)).bind fun q5 => zk_225_0_10 q5 r0 i1 i2) (none))
   else (some (.inr (some (.int (-1)), q2.2.1, q2.2.2)))
set_option maxRecDepth 20000 in
theorem zq_225_0_11 (υ : Int32) (τ : zm_Sig) (r0 : Nat) (i1 : Int32) (i2 : Int32) : zk_225_0_11 (υ, zL, τ) r0 i1 i2 =
 
   if ¬ υ = 0 then ((zm_is zL r0 10).bind fun _ =>
    zm_opt (τ.2.2 r0 17) (fun q3 =>
    (zm_gI zL τ q3 i1).bind fun v4 =>
    (zm_ai (zM 226 [.int v4, .int i2] zL τ)).bind fun q5 => zk_225_0_10 q5 r0 i1 i2) (none))
   else (some (.inr (some (.int (-1)), zL, τ))) := rfl
set_option maxRecDepth 20000 in
noncomputable def zk_225_0_12 (q1 : Int32 × zm_Lay × zm_Sig) (i2 : Int32) (r0 : Nat) (i1 : Int32) : Option (zm_St ⊕ zm_Out) :=
 
  if q1.1 = 0 then (some (.inr (some (.int (-1)), q1.2.1, q1.2.2)))
  else ((zm_ai (zM 176 [.int i2, .int 1, .int (nI 4)] q1.2.1 q1.2.2)).bind fun q2 => zk_225_0_11 q2 r0 i1 i2)
set_option maxRecDepth 20000 in
theorem zq_225_0_12 (υ : Int32) (τ : zm_Sig) (i2 : Int32) (r0 : Nat) (i1 : Int32) : zk_225_0_12 (υ, zL, τ) i2 r0 i1 =
 
  if υ = 0 then (some (.inr (some (.int (-1)), zL, τ)))
  else ((zm_ai (zM 176 [.int i2, .int 1, .int (nI 4)] zL τ)).bind fun q2 => zk_225_0_11 q2 r0 i1 i2) := rfl
set_option maxRecDepth 20000 in
theorem zh_225_0 (σ : zm_Sig) (r0 : Nat) (i1 : Int32) (i2 : Int32) : zb_225_0 zL σ r0 i1 i2 =
  (zm_is zL r0 10).bind fun _ => (zm_ai (zM 222 [.ref r0, .int i1] zL σ)).bind fun q1 => zk_225_0_12 q1 i2 r0 i1 := rfl
set_option maxRecDepth 20000 in
noncomputable def zk_90_0_1 (q10 : zm_Lay × zm_Sig)  : Option (zm_St ⊕ zm_Out) :=
 
      some (.inr (none, q10.1, q10.2))
set_option maxRecDepth 20000 in
theorem zq_90_0_1 (τ : zm_Sig)  : zk_90_0_1 (zL, τ)  =
 
      some (.inr (none, zL, τ)) := rfl
set_option maxRecDepth 20000 in
noncomputable def zk_90_0_2 (q9 : Int32 × zm_Lay × zm_Sig) (r0 : Nat) (r3 : Nat) : Option (zm_St ⊕ zm_Out) :=
 
      (zm_is q9.2.1 r0 7).bind fun _ => (zm_av (zM 92 [.ref r0, .int q9.1, .ref r3] q9.2.1 q9.2.2)).bind fun q10 => zk_90_0_1 q10 
set_option maxRecDepth 20000 in
theorem zq_90_0_2 (υ : Int32) (τ : zm_Sig) (r0 : Nat) (r3 : Nat) : zk_90_0_2 (υ, zL, τ) r0 r3 =
 
      (zm_is zL r0 7).bind fun _ => (zm_av (zM 92 [.ref r0, .int υ, .ref r3] zL τ)).bind fun q10 => zk_90_0_1 q10  := rfl
set_option maxRecDepth 20000 in
noncomputable def zk_90_0_3 (q12 : zm_Lay × zm_Sig)  : Option (zm_St ⊕ zm_Out) :=
 
      some (.inr (none, q12.1, q12.2))
set_option maxRecDepth 20000 in
theorem zq_90_0_3 (τ : zm_Sig)  : zk_90_0_3 (zL, τ)  =
 
      some (.inr (none, zL, τ)) := rfl
set_option maxRecDepth 20000 in
noncomputable def zk_90_0_4 (q11 : Int32 × zm_Lay × zm_Sig) (r0 : Nat) (r3 : Nat) : Option (zm_St ⊕ zm_Out) :=
 
      (zm_is q11.2.1 r0 7).bind fun _ => (zm_av (zM 92 [.ref r0, .int q11.1, .ref r3] q11.2.1 q11.2.2)).bind fun q12 => zk_90_0_3 q12 
set_option maxRecDepth 20000 in
theorem zq_90_0_4 (υ : Int32) (τ : zm_Sig) (r0 : Nat) (r3 : Nat) : zk_90_0_4 (υ, zL, τ) r0 r3 =
 
      (zm_is zL r0 7).bind fun _ => (zm_av (zM 92 [.ref r0, .int υ, .ref r3] zL τ)).bind fun q12 => zk_90_0_3 q12  := rfl
set_option maxRecDepth 20000 in
noncomputable def zk_90_0_5 (q8 : zm_Lay × zm_Sig) (i2 : Int32) (r1 : Nat) (v4 : Int32) (r0 : Nat) (r3 : Nat) : Option (zm_St ⊕ zm_Out) :=
 
     if i2 ≤ 0 then ((zm_is q8.1 r1 1).bind fun _ => (zm_ai (zM 80 [.ref r1, .int v4] q8.1 q8.2)).bind fun q9 => zk_90_0_2 q9 r0 r3)
     else ((zm_is q8.1 r1 1).bind fun _ => (zm_ai (zM 81 [.ref r1, .int v4] q8.1 q8.2)).bind fun q11 => zk_90_0_4 q11 r0 r3)
set_option maxRecDepth 20000 in
theorem zq_90_0_5 (τ : zm_Sig) (i2 : Int32) (r1 : Nat) (v4 : Int32) (r0 : Nat) (r3 : Nat) : zk_90_0_5 (zL, τ) i2 r1 v4 r0 r3 =
 
     if i2 ≤ 0 then ((zm_is zL r1 1).bind fun _ => (zm_ai (zM 80 [.ref r1, .int v4] zL τ)).bind fun q9 => zk_90_0_2 q9 r0 r3)
     else ((zm_is zL r1 1).bind fun _ => (zm_ai (zM 81 [.ref r1, .int v4] zL τ)).bind fun q11 => zk_90_0_4 q11 r0 r3) := rfl
set_option maxRecDepth 20000 in
noncomputable def zk_90_0_6 (q15 : zm_Lay × zm_Sig)  : Option (zm_St ⊕ zm_Out) :=
 
      some (.inr (none, q15.1, q15.2))
set_option maxRecDepth 20000 in
theorem zq_90_0_6 (τ : zm_Sig)  : zk_90_0_6 (zL, τ)  =
 
      some (.inr (none, zL, τ)) := rfl
set_option maxRecDepth 20000 in
noncomputable def zk_90_0_7 (q14 : Int32 × zm_Lay × zm_Sig) (r0 : Nat) (r3 : Nat) : Option (zm_St ⊕ zm_Out) :=
 
      (zm_is q14.2.1 r0 7).bind fun _ => (zm_av (zM 92 [.ref r0, .int q14.1, .ref r3] q14.2.1 q14.2.2)).bind fun q15 => zk_90_0_6 q15 
set_option maxRecDepth 20000 in
theorem zq_90_0_7 (υ : Int32) (τ : zm_Sig) (r0 : Nat) (r3 : Nat) : zk_90_0_7 (υ, zL, τ) r0 r3 =
 
      (zm_is zL r0 7).bind fun _ => (zm_av (zM 92 [.ref r0, .int υ, .ref r3] zL τ)).bind fun q15 => zk_90_0_6 q15  := rfl
set_option maxRecDepth 20000 in
noncomputable def zk_90_0_8 (q17 : zm_Lay × zm_Sig)  : Option (zm_St ⊕ zm_Out) :=
 
      some (.inr (none, q17.1, q17.2))
set_option maxRecDepth 20000 in
theorem zq_90_0_8 (τ : zm_Sig)  : zk_90_0_8 (zL, τ)  =
 
      some (.inr (none, zL, τ)) := rfl
set_option maxRecDepth 20000 in
noncomputable def zk_90_0_9 (q16 : Int32 × zm_Lay × zm_Sig) (r0 : Nat) (r3 : Nat) : Option (zm_St ⊕ zm_Out) :=
 
      (zm_is q16.2.1 r0 7).bind fun _ => (zm_av (zM 92 [.ref r0, .int q16.1, .ref r3] q16.2.1 q16.2.2)).bind fun q17 => zk_90_0_8 q17 
set_option maxRecDepth 20000 in
theorem zq_90_0_9 (υ : Int32) (τ : zm_Sig) (r0 : Nat) (r3 : Nat) : zk_90_0_9 (υ, zL, τ) r0 r3 =
 
      (zm_is zL r0 7).bind fun _ => (zm_av (zM 92 [.ref r0, .int υ, .ref r3] zL τ)).bind fun q17 => zk_90_0_8 q17  := rfl
set_option maxRecDepth 20000 in
noncomputable def zk_90_0_10 (q13 : zm_Lay × zm_Sig) (i2 : Int32) (r1 : Nat) (v4 : Int32) (r0 : Nat) (r3 : Nat) : Option (zm_St ⊕ zm_Out) :=
 
     if i2 ≤ 0 then ((zm_is q13.1 r1 1).bind fun _ => (zm_ai (zM 80 [.ref r1, .int v4] q13.1 q13.2)).bind fun q14 => zk_90_0_7 q14 r0 r3)
     else ((zm_is q13.1 r1 1).bind fun _ => (zm_ai (zM 81 [.ref r1, .int v4] q13.1 q13.2)).bind fun q16 => zk_90_0_9 q16 r0 r3)
set_option maxRecDepth 20000 in
theorem zq_90_0_10 (τ : zm_Sig) (i2 : Int32) (r1 : Nat) (v4 : Int32) (r0 : Nat) (r3 : Nat) : zk_90_0_10 (zL, τ) i2 r1 v4 r0 r3 =
 
     if i2 ≤ 0 then ((zm_is zL r1 1).bind fun _ => (zm_ai (zM 80 [.ref r1, .int v4] zL τ)).bind fun q14 => zk_90_0_7 q14 r0 r3)
     else ((zm_is zL r1 1).bind fun _ => (zm_ai (zM 81 [.ref r1, .int v4] zL τ)).bind fun q16 => zk_90_0_9 q16 r0 r3) := rfl
set_option maxRecDepth 20000 in
noncomputable def zk_90_0_11 (q7 : zm_Lay × zm_Sig) (i2 : Int32) (r3 : Nat) (q5 : Int32 × zm_Lay × zm_Sig) (r1 : Nat) (v4 : Int32) (r0 : Nat) : Option (zm_St ⊕ zm_Out) :=
 
    if i2 ≤ 0 then ((zm_is q7.1 r3 8).bind fun _ => (zm_av (zM 66 [.ref r3, .int (-(q5.1 + 1))] q7.1 q7.2)).bind fun q8 => zk_90_0_5 q8 i2 r1 v4 r0 r3)
    else ((zm_is q7.1 r3 8).bind fun _ => (zm_av (zM 66 [.ref r3, .int (q5.1 + 1)] q7.1 q7.2)).bind fun q13 => zk_90_0_10 q13 i2 r1 v4 r0 r3)
set_option maxRecDepth 20000 in
theorem zq_90_0_11 (τ : zm_Sig) (i2 : Int32) (r3 : Nat) (q5 : Int32 × zm_Lay × zm_Sig) (r1 : Nat) (v4 : Int32) (r0 : Nat) : zk_90_0_11 (zL, τ) i2 r3 q5 r1 v4 r0 =
 
    if i2 ≤ 0 then ((zm_is zL r3 8).bind fun _ => (zm_av (zM 66 [.ref r3, .int (-(q5.1 + 1))] zL τ)).bind fun q8 => zk_90_0_5 q8 i2 r1 v4 r0 r3)
    else ((zm_is zL r3 8).bind fun _ => (zm_av (zM 66 [.ref r3, .int (q5.1 + 1)] zL τ)).bind fun q13 => zk_90_0_10 q13 i2 r1 v4 r0 r3) := rfl
set_option maxRecDepth 20000 in
noncomputable def zk_90_0_12 (q6 : Int32 × zm_Lay × zm_Sig) (r0 : Nat) (r3 : Nat) (i2 : Int32) (q5 : Int32 × zm_Lay × zm_Sig) (r1 : Nat) (v4 : Int32) : Option (zm_St ⊕ zm_Out) :=
 
    (zm_is q6.2.1 r0 7).bind fun _ => (zm_av (zM 73 [.ref r0, .int q6.1, .ref r3] q6.2.1 q6.2.2)).bind fun q7 => zk_90_0_11 q7 i2 r3 q5 r1 v4 r0
set_option maxRecDepth 20000 in
theorem zq_90_0_12 (υ : Int32) (τ : zm_Sig) (r0 : Nat) (r3 : Nat) (i2 : Int32) (q5 : Int32 × zm_Lay × zm_Sig) (r1 : Nat) (v4 : Int32) : zk_90_0_12 (υ, zL, τ) r0 r3 i2 q5 r1 v4 =
 
    (zm_is zL r0 7).bind fun _ => (zm_av (zM 73 [.ref r0, .int υ, .ref r3] zL τ)).bind fun q7 => zk_90_0_11 q7 i2 r3 q5 r1 v4 r0 := rfl
set_option maxRecDepth 20000 in
noncomputable def zk_90_0_13 (q22 : zm_Lay × zm_Sig)  : Option (zm_St ⊕ zm_Out) :=
 
      some (.inr (none, q22.1, q22.2))
set_option maxRecDepth 20000 in
theorem zq_90_0_13 (τ : zm_Sig)  : zk_90_0_13 (zL, τ)  =
 
      some (.inr (none, zL, τ)) := rfl
set_option maxRecDepth 20000 in
noncomputable def zk_90_0_14 (q21 : Int32 × zm_Lay × zm_Sig) (r0 : Nat) (r3 : Nat) : Option (zm_St ⊕ zm_Out) :=
 
      (zm_is q21.2.1 r0 7).bind fun _ => (zm_av (zM 92 [.ref r0, .int q21.1, .ref r3] q21.2.1 q21.2.2)).bind fun q22 => zk_90_0_13 q22 
set_option maxRecDepth 20000 in
theorem zq_90_0_14 (υ : Int32) (τ : zm_Sig) (r0 : Nat) (r3 : Nat) : zk_90_0_14 (υ, zL, τ) r0 r3 =
 
      (zm_is zL r0 7).bind fun _ => (zm_av (zM 92 [.ref r0, .int υ, .ref r3] zL τ)).bind fun q22 => zk_90_0_13 q22  := rfl
set_option maxRecDepth 20000 in
noncomputable def zk_90_0_15 (q24 : zm_Lay × zm_Sig)  : Option (zm_St ⊕ zm_Out) :=
 
      some (.inr (none, q24.1, q24.2))
set_option maxRecDepth 20000 in
theorem zq_90_0_15 (τ : zm_Sig)  : zk_90_0_15 (zL, τ)  =
 
      some (.inr (none, zL, τ)) := rfl
set_option maxRecDepth 20000 in
noncomputable def zk_90_0_16 (q23 : Int32 × zm_Lay × zm_Sig) (r0 : Nat) (r3 : Nat) : Option (zm_St ⊕ zm_Out) :=
 
      (zm_is q23.2.1 r0 7).bind fun _ => (zm_av (zM 92 [.ref r0, .int q23.1, .ref r3] q23.2.1 q23.2.2)).bind fun q24 => zk_90_0_15 q24 
set_option maxRecDepth 20000 in
theorem zq_90_0_16 (υ : Int32) (τ : zm_Sig) (r0 : Nat) (r3 : Nat) : zk_90_0_16 (υ, zL, τ) r0 r3 =
 
      (zm_is zL r0 7).bind fun _ => (zm_av (zM 92 [.ref r0, .int υ, .ref r3] zL τ)).bind fun q24 => zk_90_0_15 q24  := rfl
set_option maxRecDepth 20000 in
noncomputable def zk_90_0_17 (q20 : zm_Lay × zm_Sig) (i2 : Int32) (r1 : Nat) (v4 : Int32) (r0 : Nat) (r3 : Nat) : Option (zm_St ⊕ zm_Out) :=
 
     if i2 ≤ 0 then ((zm_is q20.1 r1 1).bind fun _ => (zm_ai (zM 80 [.ref r1, .int v4] q20.1 q20.2)).bind fun q21 => zk_90_0_14 q21 r0 r3)
     else ((zm_is q20.1 r1 1).bind fun _ => (zm_ai (zM 81 [.ref r1, .int v4] q20.1 q20.2)).bind fun q23 => zk_90_0_16 q23 r0 r3)
set_option maxRecDepth 20000 in
theorem zq_90_0_17 (τ : zm_Sig) (i2 : Int32) (r1 : Nat) (v4 : Int32) (r0 : Nat) (r3 : Nat) : zk_90_0_17 (zL, τ) i2 r1 v4 r0 r3 =
 
     if i2 ≤ 0 then ((zm_is zL r1 1).bind fun _ => (zm_ai (zM 80 [.ref r1, .int v4] zL τ)).bind fun q21 => zk_90_0_14 q21 r0 r3)
     else ((zm_is zL r1 1).bind fun _ => (zm_ai (zM 81 [.ref r1, .int v4] zL τ)).bind fun q23 => zk_90_0_16 q23 r0 r3) := rfl
set_option maxRecDepth 20000 in
noncomputable def zk_90_0_18 (q27 : zm_Lay × zm_Sig)  : Option (zm_St ⊕ zm_Out) :=
 
      some (.inr (none, q27.1, q27.2))
set_option maxRecDepth 20000 in
theorem zq_90_0_18 (τ : zm_Sig)  : zk_90_0_18 (zL, τ)  =
 
      some (.inr (none, zL, τ)) := rfl
set_option maxRecDepth 20000 in
noncomputable def zk_90_0_19 (q26 : Int32 × zm_Lay × zm_Sig) (r0 : Nat) (r3 : Nat) : Option (zm_St ⊕ zm_Out) :=
 
      (zm_is q26.2.1 r0 7).bind fun _ => (zm_av (zM 92 [.ref r0, .int q26.1, .ref r3] q26.2.1 q26.2.2)).bind fun q27 => zk_90_0_18 q27 
set_option maxRecDepth 20000 in
theorem zq_90_0_19 (υ : Int32) (τ : zm_Sig) (r0 : Nat) (r3 : Nat) : zk_90_0_19 (υ, zL, τ) r0 r3 =
 
      (zm_is zL r0 7).bind fun _ => (zm_av (zM 92 [.ref r0, .int υ, .ref r3] zL τ)).bind fun q27 => zk_90_0_18 q27  := rfl
set_option maxRecDepth 20000 in
noncomputable def zk_90_0_20 (q29 : zm_Lay × zm_Sig)  : Option (zm_St ⊕ zm_Out) :=
 
      some (.inr (none, q29.1, q29.2))
set_option maxRecDepth 20000 in
theorem zq_90_0_20 (τ : zm_Sig)  : zk_90_0_20 (zL, τ)  =
 
      some (.inr (none, zL, τ)) := rfl
set_option maxRecDepth 20000 in
noncomputable def zk_90_0_21 (q28 : Int32 × zm_Lay × zm_Sig) (r0 : Nat) (r3 : Nat) : Option (zm_St ⊕ zm_Out) :=
 
      (zm_is q28.2.1 r0 7).bind fun _ => (zm_av (zM 92 [.ref r0, .int q28.1, .ref r3] q28.2.1 q28.2.2)).bind fun q29 => zk_90_0_20 q29 
set_option maxRecDepth 20000 in
theorem zq_90_0_21 (υ : Int32) (τ : zm_Sig) (r0 : Nat) (r3 : Nat) : zk_90_0_21 (υ, zL, τ) r0 r3 =
 
      (zm_is zL r0 7).bind fun _ => (zm_av (zM 92 [.ref r0, .int υ, .ref r3] zL τ)).bind fun q29 => zk_90_0_20 q29  := rfl
set_option maxRecDepth 20000 in
noncomputable def zk_90_0_22 (q25 : zm_Lay × zm_Sig) (i2 : Int32) (r1 : Nat) (v4 : Int32) (r0 : Nat) (r3 : Nat) : Option (zm_St ⊕ zm_Out) :=
 
     if i2 ≤ 0 then ((zm_is q25.1 r1 1).bind fun _ => (zm_ai (zM 80 [.ref r1, .int v4] q25.1 q25.2)).bind fun q26 => zk_90_0_19 q26 r0 r3)
     else ((zm_is q25.1 r1 1).bind fun _ => (zm_ai (zM 81 [.ref r1, .int v4] q25.1 q25.2)).bind fun q28 => zk_90_0_21 q28 r0 r3)
set_option maxRecDepth 20000 in
theorem zq_90_0_22 (τ : zm_Sig) (i2 : Int32) (r1 : Nat) (v4 : Int32) (r0 : Nat) (r3 : Nat) : zk_90_0_22 (zL, τ) i2 r1 v4 r0 r3 =
 
     if i2 ≤ 0 then ((zm_is zL r1 1).bind fun _ => (zm_ai (zM 80 [.ref r1, .int v4] zL τ)).bind fun q26 => zk_90_0_19 q26 r0 r3)
     else ((zm_is zL r1 1).bind fun _ => (zm_ai (zM 81 [.ref r1, .int v4] zL τ)).bind fun q28 => zk_90_0_21 q28 r0 r3) := rfl
set_option maxRecDepth 20000 in
noncomputable def zk_90_0_23 (q19 : zm_Lay × zm_Sig) (i2 : Int32) (r3 : Nat) (q5 : Int32 × zm_Lay × zm_Sig) (r1 : Nat) (v4 : Int32) (r0 : Nat) : Option (zm_St ⊕ zm_Out) :=
 
    if i2 ≤ 0 then ((zm_is q19.1 r3 8).bind fun _ => (zm_av (zM 66 [.ref r3, .int (-(q5.1 + 1))] q19.1 q19.2)).bind fun q20 => zk_90_0_17 q20 i2 r1 v4 r0 r3)
    else ((zm_is q19.1 r3 8).bind fun _ => (zm_av (zM 66 [.ref r3, .int (q5.1 + 1)] q19.1 q19.2)).bind fun q25 => zk_90_0_22 q25 i2 r1 v4 r0 r3)
set_option maxRecDepth 20000 in
theorem zq_90_0_23 (τ : zm_Sig) (i2 : Int32) (r3 : Nat) (q5 : Int32 × zm_Lay × zm_Sig) (r1 : Nat) (v4 : Int32) (r0 : Nat) : zk_90_0_23 (zL, τ) i2 r3 q5 r1 v4 r0 =
 
    if i2 ≤ 0 then ((zm_is zL r3 8).bind fun _ => (zm_av (zM 66 [.ref r3, .int (-(q5.1 + 1))] zL τ)).bind fun q20 => zk_90_0_17 q20 i2 r1 v4 r0 r3)
    else ((zm_is zL r3 8).bind fun _ => (zm_av (zM 66 [.ref r3, .int (q5.1 + 1)] zL τ)).bind fun q25 => zk_90_0_22 q25 i2 r1 v4 r0 r3) := rfl
set_option maxRecDepth 20000 in
noncomputable def zk_90_0_24 (q18 : Int32 × zm_Lay × zm_Sig) (r0 : Nat) (r3 : Nat) (i2 : Int32) (q5 : Int32 × zm_Lay × zm_Sig) (r1 : Nat) (v4 : Int32) : Option (zm_St ⊕ zm_Out) :=
 
    (zm_is q18.2.1 r0 7).bind fun _ => (zm_av (zM 73 [.ref r0, .int q18.1, .ref r3] q18.2.1 q18.2.2)).bind fun q19 => zk_90_0_23 q19 i2 r3 q5 r1 v4 r0
set_option maxRecDepth 20000 in
theorem zq_90_0_24 (υ : Int32) (τ : zm_Sig) (r0 : Nat) (r3 : Nat) (i2 : Int32) (q5 : Int32 × zm_Lay × zm_Sig) (r1 : Nat) (v4 : Int32) : zk_90_0_24 (υ, zL, τ) r0 r3 i2 q5 r1 v4 =
 
    (zm_is zL r0 7).bind fun _ => (zm_av (zM 73 [.ref r0, .int υ, .ref r3] zL τ)).bind fun q19 => zk_90_0_23 q19 i2 r3 q5 r1 v4 r0 := rfl
set_option maxRecDepth 20000 in
noncomputable def zk_90_0_25 (q5 : Int32 × zm_Lay × zm_Sig) (i2 : Int32) (r1 : Nat) (v4 : Int32) (r0 : Nat) (r3 : Nat) : Option (zm_St ⊕ zm_Out) :=
 
   if i2 ≤ 0 then ((zm_is q5.2.1 r1 1).bind fun _ => (zm_ai (zM 81 [.ref r1, .int v4] q5.2.1 q5.2.2)).bind fun q6 => zk_90_0_12 q6 r0 r3 i2 q5 r1 v4)
   else ((zm_is q5.2.1 r1 1).bind fun _ => (zm_ai (zM 80 [.ref r1, .int v4] q5.2.1 q5.2.2)).bind fun q18 => zk_90_0_24 q18 r0 r3 i2 q5 r1 v4)
set_option maxRecDepth 20000 in
theorem zq_90_0_25 (υ : Int32) (τ : zm_Sig) (i2 : Int32) (r1 : Nat) (v4 : Int32) (r0 : Nat) (r3 : Nat) : zk_90_0_25 (υ, zL, τ) i2 r1 v4 r0 r3 =
 
   if i2 ≤ 0 then ((zm_is zL r1 1).bind fun _ => (zm_ai (zM 81 [.ref r1, .int v4] zL τ)).bind fun q6 => zk_90_0_12 q6 r0 r3 i2 (υ, zL, τ) r1 v4)
   else ((zm_is zL r1 1).bind fun _ => (zm_ai (zM 80 [.ref r1, .int v4] zL τ)).bind fun q18 => zk_90_0_24 q18 r0 r3 i2 (υ, zL, τ) r1 v4) := rfl
set_option maxRecDepth 20000 in
noncomputable def zk_90_0_26 (q3 : Int32 × zm_Lay × zm_Sig) (q2 : Nat) (r1 : Nat) (i2 : Int32) (r0 : Nat) (r3 : Nat) : Option (zm_St ⊕ zm_Out) :=
 
   (zm_gI q3.2.1 q3.2.2 q2 q3.1).bind fun v4 =>
   (zm_is q3.2.1 r1 1).bind fun _ => (zm_ai (zM 82 [.ref r1, .int v4] q3.2.1 q3.2.2)).bind fun q5 => zk_90_0_25 q5 i2 r1 v4 r0 r3
set_option maxRecDepth 20000 in
theorem zq_90_0_26 (υ : Int32) (τ : zm_Sig) (q2 : Nat) (r1 : Nat) (i2 : Int32) (r0 : Nat) (r3 : Nat) : zk_90_0_26 (υ, zL, τ) q2 r1 i2 r0 r3 =
 
   (zm_gI zL τ q2 υ).bind fun v4 =>
   (zm_is zL r1 1).bind fun _ => (zm_ai (zM 82 [.ref r1, .int v4] zL τ)).bind fun q5 => zk_90_0_25 q5 i2 r1 v4 r0 r3 := rfl
set_option maxRecDepth 20000 in
noncomputable def zk_90_0_27 (q1 : Int32 × zm_Lay × zm_Sig) (r0 : Nat) (i2 : Int32) (r1 : Nat) (r3 : Nat) : Option (zm_St ⊕ zm_Out) :=
 
  if ¬ q1.1 = 0 then ((zm_is q1.2.1 r0 7).bind fun _ =>
   zm_opt (q1.2.2.2.2 r0 8) (fun q2 =>
   (zm_ai (zM 91 [.int i2] q1.2.1 q1.2.2)).bind fun q3 => zk_90_0_26 q3 q2 r1 i2 r0 r3) (none))
  else (some (.inr (none, q1.2.1, q1.2.2)))
set_option maxRecDepth 20000 in
theorem zq_90_0_27 (υ : Int32) (τ : zm_Sig) (r0 : Nat) (i2 : Int32) (r1 : Nat) (r3 : Nat) : zk_90_0_27 (υ, zL, τ) r0 i2 r1 r3 =
 
  if ¬ υ = 0 then ((zm_is zL r0 7).bind fun _ =>
   zm_opt (τ.2.2 r0 8) (fun q2 =>
   (zm_ai (zM 91 [.int i2] zL τ)).bind fun q3 => zk_90_0_26 q3 q2 r1 i2 r0 r3) (none))
  else (some (.inr (none, zL, τ))) := rfl
set_option maxRecDepth 20000 in
theorem zh_90_0 (σ : zm_Sig) (r0 : Nat) (r1 : Nat) (i2 : Int32) (r3 : Nat) : zb_90_0 zL σ r0 r1 i2 r3 =
  (zm_is zL r0 7).bind fun _ => (zm_ai (zM 89 [.ref r0, .int i2] zL σ)).bind fun q1 => zk_90_0_27 q1 r0 i2 r1 r3 := rfl
set_option maxRecDepth 20000 in
noncomputable def zk_233_0_1 (q6 : zm_Lay × zm_Sig)  : Option (zm_St ⊕ zm_Out) :=
 
      some (.inr (none, q6.1, q6.2))
set_option maxRecDepth 20000 in
theorem zq_233_0_1 (τ : zm_Sig)  : zk_233_0_1 (zL, τ)  =
 
      some (.inr (none, zL, τ)) := rfl
set_option maxRecDepth 20000 in
noncomputable def zk_233_0_2 (q8 : zm_Lay × zm_Sig)  : Option (zm_St ⊕ zm_Out) :=
 
      some (.inr (none, q8.1, q8.2))
set_option maxRecDepth 20000 in
theorem zq_233_0_2 (τ : zm_Sig)  : zk_233_0_2 (zL, τ)  =
 
      some (.inr (none, zL, τ)) := rfl
set_option maxRecDepth 20000 in
noncomputable def zk_233_0_3 (q7 : Int32 × zm_Lay × zm_Sig) (r0 : Nat) : Option (zm_St ⊕ zm_Out) :=
 
      (zm_is q7.2.1 r0 10).bind fun _ => (zm_av (zM 235 [.ref r0, .int q7.1] q7.2.1 q7.2.2)).bind fun q8 => zk_233_0_2 q8 
set_option maxRecDepth 20000 in
theorem zq_233_0_3 (υ : Int32) (τ : zm_Sig) (r0 : Nat) : zk_233_0_3 (υ, zL, τ) r0 =
 
      (zm_is zL r0 10).bind fun _ => (zm_av (zM 235 [.ref r0, .int υ] zL τ)).bind fun q8 => zk_233_0_2 q8  := rfl
set_option maxRecDepth 20000 in
noncomputable def zk_233_0_4 (q5 : zm_Lay × zm_Sig) (i1 : Int32) (r0 : Nat) (v2 : Int32) : Option (zm_St ⊕ zm_Out) :=
 
     if i1 ≤ 0 then ((zm_is q5.1 r0 10).bind fun _ =>
      if (q5.2.1 r0 5) = 0 then none
      else ((zm_is q5.1 r0 10).bind fun _ => (zm_av (zM 235 [.ref r0, .int (v2 / (q5.2.1 r0 5))] q5.1 q5.2)).bind fun q6 => zk_233_0_1 q6 ))
     else ((zm_is q5.1 r0 10).bind fun _ => (zm_ai (zM 224 [.ref r0, .int v2] q5.1 q5.2)).bind fun q7 => zk_233_0_3 q7 r0)
set_option maxRecDepth 20000 in
theorem zq_233_0_4 (τ : zm_Sig) (i1 : Int32) (r0 : Nat) (v2 : Int32) : zk_233_0_4 (zL, τ) i1 r0 v2 =
 
     if i1 ≤ 0 then ((zm_is zL r0 10).bind fun _ =>
      if (τ.1 r0 5) = 0 then none
      else ((zm_is zL r0 10).bind fun _ => (zm_av (zM 235 [.ref r0, .int (v2 / (τ.1 r0 5))] zL τ)).bind fun q6 => zk_233_0_1 q6 ))
     else ((zm_is zL r0 10).bind fun _ => (zm_ai (zM 224 [.ref r0, .int v2] zL τ)).bind fun q7 => zk_233_0_3 q7 r0) := rfl
set_option maxRecDepth 20000 in
noncomputable def zk_233_0_5 (q10 : zm_Lay × zm_Sig)  : Option (zm_St ⊕ zm_Out) :=
 
      some (.inr (none, q10.1, q10.2))
set_option maxRecDepth 20000 in
theorem zq_233_0_5 (τ : zm_Sig)  : zk_233_0_5 (zL, τ)  =
 
      some (.inr (none, zL, τ)) := rfl
set_option maxRecDepth 20000 in
noncomputable def zk_233_0_6 (q12 : zm_Lay × zm_Sig)  : Option (zm_St ⊕ zm_Out) :=
 
      some (.inr (none, q12.1, q12.2))
set_option maxRecDepth 20000 in
theorem zq_233_0_6 (τ : zm_Sig)  : zk_233_0_6 (zL, τ)  =
 
      some (.inr (none, zL, τ)) := rfl
set_option maxRecDepth 20000 in
noncomputable def zk_233_0_7 (q11 : Int32 × zm_Lay × zm_Sig) (r0 : Nat) : Option (zm_St ⊕ zm_Out) :=
 
      (zm_is q11.2.1 r0 10).bind fun _ => (zm_av (zM 235 [.ref r0, .int q11.1] q11.2.1 q11.2.2)).bind fun q12 => zk_233_0_6 q12 
set_option maxRecDepth 20000 in
theorem zq_233_0_7 (υ : Int32) (τ : zm_Sig) (r0 : Nat) : zk_233_0_7 (υ, zL, τ) r0 =
 
      (zm_is zL r0 10).bind fun _ => (zm_av (zM 235 [.ref r0, .int υ] zL τ)).bind fun q12 => zk_233_0_6 q12  := rfl
set_option maxRecDepth 20000 in
noncomputable def zk_233_0_8 (q9 : zm_Lay × zm_Sig) (i1 : Int32) (r0 : Nat) (v2 : Int32) : Option (zm_St ⊕ zm_Out) :=
 
     if i1 ≤ 0 then ((zm_is q9.1 r0 10).bind fun _ =>
      if (q9.2.1 r0 5) = 0 then none
      else ((zm_is q9.1 r0 10).bind fun _ => (zm_av (zM 235 [.ref r0, .int (v2 / (q9.2.1 r0 5))] q9.1 q9.2)).bind fun q10 => zk_233_0_5 q10 ))
     else ((zm_is q9.1 r0 10).bind fun _ => (zm_ai (zM 224 [.ref r0, .int v2] q9.1 q9.2)).bind fun q11 => zk_233_0_7 q11 r0)
set_option maxRecDepth 20000 in
theorem zq_233_0_8 (τ : zm_Sig) (i1 : Int32) (r0 : Nat) (v2 : Int32) : zk_233_0_8 (zL, τ) i1 r0 v2 =
 
     if i1 ≤ 0 then ((zm_is zL r0 10).bind fun _ =>
      if (τ.1 r0 5) = 0 then none
      else ((zm_is zL r0 10).bind fun _ => (zm_av (zM 235 [.ref r0, .int (v2 / (τ.1 r0 5))] zL τ)).bind fun q10 => zk_233_0_5 q10 ))
     else ((zm_is zL r0 10).bind fun _ => (zm_ai (zM 224 [.ref r0, .int v2] zL τ)).bind fun q11 => zk_233_0_7 q11 r0) := rfl
set_option maxRecDepth 20000 in
noncomputable def zk_233_0_9 (q4 : zm_Lay × zm_Sig) (i1 : Int32) (r0 : Nat) (v2 : Int32) (σ : zm_Sig) : Option (zm_St ⊕ zm_Out) :=
 
    if i1 ≤ 0 then ((zm_is q4.1 r0 10).bind fun _ => (zm_av (zM 213 [.ref r0, .int (-((v2 - v2 / (σ.1 r0 5) * (σ.1 r0 5)) + 1))] q4.1 q4.2)).bind fun q5 => zk_233_0_4 q5 i1 r0 v2)
    else ((zm_is q4.1 r0 10).bind fun _ => (zm_av (zM 213 [.ref r0, .int ((v2 - v2 / (σ.1 r0 5) * (σ.1 r0 5)) + 1)] q4.1 q4.2)).bind fun q9 => zk_233_0_8 q9 i1 r0 v2)
set_option maxRecDepth 20000 in
theorem zq_233_0_9 (τ : zm_Sig) (i1 : Int32) (r0 : Nat) (v2 : Int32) (σ : zm_Sig) : zk_233_0_9 (zL, τ) i1 r0 v2 σ =
 
    if i1 ≤ 0 then ((zm_is zL r0 10).bind fun _ => (zm_av (zM 213 [.ref r0, .int (-((v2 - v2 / (σ.1 r0 5) * (σ.1 r0 5)) + 1))] zL τ)).bind fun q5 => zk_233_0_4 q5 i1 r0 v2)
    else ((zm_is zL r0 10).bind fun _ => (zm_av (zM 213 [.ref r0, .int ((v2 - v2 / (σ.1 r0 5) * (σ.1 r0 5)) + 1)] zL τ)).bind fun q9 => zk_233_0_8 q9 i1 r0 v2) := rfl
set_option maxRecDepth 20000 in
noncomputable def zk_233_0_10 (q3 : Int32 × zm_Lay × zm_Sig) (r0 : Nat) (i1 : Int32) (v2 : Int32) (σ : zm_Sig) : Option (zm_St ⊕ zm_Out) :=
 
    (zm_is q3.2.1 r0 10).bind fun _ => (zm_av (zM 234 [.ref r0, .int q3.1] q3.2.1 q3.2.2)).bind fun q4 => zk_233_0_9 q4 i1 r0 v2 σ
set_option maxRecDepth 20000 in
theorem zq_233_0_10 (υ : Int32) (τ : zm_Sig) (r0 : Nat) (i1 : Int32) (v2 : Int32) (σ : zm_Sig) : zk_233_0_10 (υ, zL, τ) r0 i1 v2 σ =
 
    (zm_is zL r0 10).bind fun _ => (zm_av (zM 234 [.ref r0, .int υ] zL τ)).bind fun q4 => zk_233_0_9 q4 i1 r0 v2 σ := rfl
set_option maxRecDepth 20000 in
noncomputable def zk_233_0_11 (q15 : zm_Lay × zm_Sig)  : Option (zm_St ⊕ zm_Out) :=
 
      some (.inr (none, q15.1, q15.2))
set_option maxRecDepth 20000 in
theorem zq_233_0_11 (τ : zm_Sig)  : zk_233_0_11 (zL, τ)  =
 
      some (.inr (none, zL, τ)) := rfl
set_option maxRecDepth 20000 in
noncomputable def zk_233_0_12 (q17 : zm_Lay × zm_Sig)  : Option (zm_St ⊕ zm_Out) :=
 
      some (.inr (none, q17.1, q17.2))
set_option maxRecDepth 20000 in
theorem zq_233_0_12 (τ : zm_Sig)  : zk_233_0_12 (zL, τ)  =
 
      some (.inr (none, zL, τ)) := rfl
set_option maxRecDepth 20000 in
noncomputable def zk_233_0_13 (q16 : Int32 × zm_Lay × zm_Sig) (r0 : Nat) : Option (zm_St ⊕ zm_Out) :=
 
      (zm_is q16.2.1 r0 10).bind fun _ => (zm_av (zM 235 [.ref r0, .int q16.1] q16.2.1 q16.2.2)).bind fun q17 => zk_233_0_12 q17 
set_option maxRecDepth 20000 in
theorem zq_233_0_13 (υ : Int32) (τ : zm_Sig) (r0 : Nat) : zk_233_0_13 (υ, zL, τ) r0 =
 
      (zm_is zL r0 10).bind fun _ => (zm_av (zM 235 [.ref r0, .int υ] zL τ)).bind fun q17 => zk_233_0_12 q17  := rfl
set_option maxRecDepth 20000 in
noncomputable def zk_233_0_14 (q14 : zm_Lay × zm_Sig) (i1 : Int32) (r0 : Nat) (v2 : Int32) : Option (zm_St ⊕ zm_Out) :=
 
     if i1 ≤ 0 then ((zm_is q14.1 r0 10).bind fun _ =>
      if (q14.2.1 r0 5) = 0 then none
      else ((zm_is q14.1 r0 10).bind fun _ => (zm_av (zM 235 [.ref r0, .int (v2 / (q14.2.1 r0 5))] q14.1 q14.2)).bind fun q15 => zk_233_0_11 q15 ))
     else ((zm_is q14.1 r0 10).bind fun _ => (zm_ai (zM 224 [.ref r0, .int v2] q14.1 q14.2)).bind fun q16 => zk_233_0_13 q16 r0)
set_option maxRecDepth 20000 in
theorem zq_233_0_14 (τ : zm_Sig) (i1 : Int32) (r0 : Nat) (v2 : Int32) : zk_233_0_14 (zL, τ) i1 r0 v2 =
 
     if i1 ≤ 0 then ((zm_is zL r0 10).bind fun _ =>
      if (τ.1 r0 5) = 0 then none
      else ((zm_is zL r0 10).bind fun _ => (zm_av (zM 235 [.ref r0, .int (v2 / (τ.1 r0 5))] zL τ)).bind fun q15 => zk_233_0_11 q15 ))
     else ((zm_is zL r0 10).bind fun _ => (zm_ai (zM 224 [.ref r0, .int v2] zL τ)).bind fun q16 => zk_233_0_13 q16 r0) := rfl
set_option maxRecDepth 20000 in
noncomputable def zk_233_0_15 (q19 : zm_Lay × zm_Sig)  : Option (zm_St ⊕ zm_Out) :=
 
      some (.inr (none, q19.1, q19.2))
set_option maxRecDepth 20000 in
theorem zq_233_0_15 (τ : zm_Sig)  : zk_233_0_15 (zL, τ)  =
 
      some (.inr (none, zL, τ)) := rfl
set_option maxRecDepth 20000 in
noncomputable def zk_233_0_16 (q21 : zm_Lay × zm_Sig)  : Option (zm_St ⊕ zm_Out) :=
 
      some (.inr (none, q21.1, q21.2))
set_option maxRecDepth 20000 in
theorem zq_233_0_16 (τ : zm_Sig)  : zk_233_0_16 (zL, τ)  =
 
      some (.inr (none, zL, τ)) := rfl
set_option maxRecDepth 20000 in
noncomputable def zk_233_0_17 (q20 : Int32 × zm_Lay × zm_Sig) (r0 : Nat) : Option (zm_St ⊕ zm_Out) :=
 
      (zm_is q20.2.1 r0 10).bind fun _ => (zm_av (zM 235 [.ref r0, .int q20.1] q20.2.1 q20.2.2)).bind fun q21 => zk_233_0_16 q21 
set_option maxRecDepth 20000 in
theorem zq_233_0_17 (υ : Int32) (τ : zm_Sig) (r0 : Nat) : zk_233_0_17 (υ, zL, τ) r0 =
 
      (zm_is zL r0 10).bind fun _ => (zm_av (zM 235 [.ref r0, .int υ] zL τ)).bind fun q21 => zk_233_0_16 q21  := rfl
set_option maxRecDepth 20000 in
noncomputable def zk_233_0_18 (q18 : zm_Lay × zm_Sig) (i1 : Int32) (r0 : Nat) (v2 : Int32) : Option (zm_St ⊕ zm_Out) :=
 
     if i1 ≤ 0 then ((zm_is q18.1 r0 10).bind fun _ =>
      if (q18.2.1 r0 5) = 0 then none
      else ((zm_is q18.1 r0 10).bind fun _ => (zm_av (zM 235 [.ref r0, .int (v2 / (q18.2.1 r0 5))] q18.1 q18.2)).bind fun q19 => zk_233_0_15 q19 ))
     else ((zm_is q18.1 r0 10).bind fun _ => (zm_ai (zM 224 [.ref r0, .int v2] q18.1 q18.2)).bind fun q20 => zk_233_0_17 q20 r0)
set_option maxRecDepth 20000 in
theorem zq_233_0_18 (τ : zm_Sig) (i1 : Int32) (r0 : Nat) (v2 : Int32) : zk_233_0_18 (zL, τ) i1 r0 v2 =
 
     if i1 ≤ 0 then ((zm_is zL r0 10).bind fun _ =>
      if (τ.1 r0 5) = 0 then none
      else ((zm_is zL r0 10).bind fun _ => (zm_av (zM 235 [.ref r0, .int (v2 / (τ.1 r0 5))] zL τ)).bind fun q19 => zk_233_0_15 q19 ))
     else ((zm_is zL r0 10).bind fun _ => (zm_ai (zM 224 [.ref r0, .int v2] zL τ)).bind fun q20 => zk_233_0_17 q20 r0) := rfl
set_option maxRecDepth 20000 in
noncomputable def zk_233_0_19 (q13 : zm_Lay × zm_Sig) (i1 : Int32) (r0 : Nat) (v2 : Int32) (σ : zm_Sig) : Option (zm_St ⊕ zm_Out) :=
 
    if i1 ≤ 0 then ((zm_is q13.1 r0 10).bind fun _ => (zm_av (zM 213 [.ref r0, .int (-((v2 - v2 / (σ.1 r0 5) * (σ.1 r0 5)) + 1))] q13.1 q13.2)).bind fun q14 => zk_233_0_14 q14 i1 r0 v2)
    else ((zm_is q13.1 r0 10).bind fun _ => (zm_av (zM 213 [.ref r0, .int ((v2 - v2 / (σ.1 r0 5) * (σ.1 r0 5)) + 1)] q13.1 q13.2)).bind fun q18 => zk_233_0_18 q18 i1 r0 v2)
set_option maxRecDepth 20000 in
theorem zq_233_0_19 (τ : zm_Sig) (i1 : Int32) (r0 : Nat) (v2 : Int32) (σ : zm_Sig) : zk_233_0_19 (zL, τ) i1 r0 v2 σ =
 
    if i1 ≤ 0 then ((zm_is zL r0 10).bind fun _ => (zm_av (zM 213 [.ref r0, .int (-((v2 - v2 / (σ.1 r0 5) * (σ.1 r0 5)) + 1))] zL τ)).bind fun q14 => zk_233_0_14 q14 i1 r0 v2)
    else ((zm_is zL r0 10).bind fun _ => (zm_av (zM 213 [.ref r0, .int ((v2 - v2 / (σ.1 r0 5) * (σ.1 r0 5)) + 1)] zL τ)).bind fun q18 => zk_233_0_18 q18 i1 r0 v2) := rfl
set_option maxRecDepth 20000 in
noncomputable def zk_233_0_20 (q26 : zm_Lay × zm_Sig)  : Option (zm_St ⊕ zm_Out) :=
 
      some (.inr (none, q26.1, q26.2))
set_option maxRecDepth 20000 in
theorem zq_233_0_20 (τ : zm_Sig)  : zk_233_0_20 (zL, τ)  =
 
      some (.inr (none, zL, τ)) := rfl
set_option maxRecDepth 20000 in
noncomputable def zk_233_0_21 (q28 : zm_Lay × zm_Sig)  : Option (zm_St ⊕ zm_Out) :=
 
      some (.inr (none, q28.1, q28.2))
set_option maxRecDepth 20000 in
theorem zq_233_0_21 (τ : zm_Sig)  : zk_233_0_21 (zL, τ)  =
 
      some (.inr (none, zL, τ)) := rfl
set_option maxRecDepth 20000 in
noncomputable def zk_233_0_22 (q27 : Int32 × zm_Lay × zm_Sig) (r0 : Nat) : Option (zm_St ⊕ zm_Out) :=
 
      (zm_is q27.2.1 r0 10).bind fun _ => (zm_av (zM 235 [.ref r0, .int q27.1] q27.2.1 q27.2.2)).bind fun q28 => zk_233_0_21 q28 
set_option maxRecDepth 20000 in
theorem zq_233_0_22 (υ : Int32) (τ : zm_Sig) (r0 : Nat) : zk_233_0_22 (υ, zL, τ) r0 =
 
      (zm_is zL r0 10).bind fun _ => (zm_av (zM 235 [.ref r0, .int υ] zL τ)).bind fun q28 => zk_233_0_21 q28  := rfl
set_option maxRecDepth 20000 in
noncomputable def zk_233_0_23 (q25 : zm_Lay × zm_Sig) (i1 : Int32) (r0 : Nat) (v22 : Int32) : Option (zm_St ⊕ zm_Out) :=
 
     if i1 ≤ 0 then ((zm_is q25.1 r0 10).bind fun _ =>
      if (q25.2.1 r0 5) = 0 then none
      else ((zm_is q25.1 r0 10).bind fun _ => (zm_av (zM 235 [.ref r0, .int (v22 / (q25.2.1 r0 5))] q25.1 q25.2)).bind fun q26 => zk_233_0_20 q26 ))
     else ((zm_is q25.1 r0 10).bind fun _ => (zm_ai (zM 224 [.ref r0, .int v22] q25.1 q25.2)).bind fun q27 => zk_233_0_22 q27 r0)
set_option maxRecDepth 20000 in
theorem zq_233_0_23 (τ : zm_Sig) (i1 : Int32) (r0 : Nat) (v22 : Int32) : zk_233_0_23 (zL, τ) i1 r0 v22 =
 
     if i1 ≤ 0 then ((zm_is zL r0 10).bind fun _ =>
      if (τ.1 r0 5) = 0 then none
      else ((zm_is zL r0 10).bind fun _ => (zm_av (zM 235 [.ref r0, .int (v22 / (τ.1 r0 5))] zL τ)).bind fun q26 => zk_233_0_20 q26 ))
     else ((zm_is zL r0 10).bind fun _ => (zm_ai (zM 224 [.ref r0, .int v22] zL τ)).bind fun q27 => zk_233_0_22 q27 r0) := rfl
set_option maxRecDepth 20000 in
noncomputable def zk_233_0_24 (q30 : zm_Lay × zm_Sig)  : Option (zm_St ⊕ zm_Out) :=
 
      some (.inr (none, q30.1, q30.2))
set_option maxRecDepth 20000 in
theorem zq_233_0_24 (τ : zm_Sig)  : zk_233_0_24 (zL, τ)  =
 
      some (.inr (none, zL, τ)) := rfl
set_option maxRecDepth 20000 in
noncomputable def zk_233_0_25 (q32 : zm_Lay × zm_Sig)  : Option (zm_St ⊕ zm_Out) :=
 
      some (.inr (none, q32.1, q32.2))
set_option maxRecDepth 20000 in
theorem zq_233_0_25 (τ : zm_Sig)  : zk_233_0_25 (zL, τ)  =
 
      some (.inr (none, zL, τ)) := rfl
set_option maxRecDepth 20000 in
noncomputable def zk_233_0_26 (q31 : Int32 × zm_Lay × zm_Sig) (r0 : Nat) : Option (zm_St ⊕ zm_Out) :=
 
      (zm_is q31.2.1 r0 10).bind fun _ => (zm_av (zM 235 [.ref r0, .int q31.1] q31.2.1 q31.2.2)).bind fun q32 => zk_233_0_25 q32 
set_option maxRecDepth 20000 in
theorem zq_233_0_26 (υ : Int32) (τ : zm_Sig) (r0 : Nat) : zk_233_0_26 (υ, zL, τ) r0 =
 
      (zm_is zL r0 10).bind fun _ => (zm_av (zM 235 [.ref r0, .int υ] zL τ)).bind fun q32 => zk_233_0_25 q32  := rfl
set_option maxRecDepth 20000 in
noncomputable def zk_233_0_27 (q29 : zm_Lay × zm_Sig) (i1 : Int32) (r0 : Nat) (v22 : Int32) : Option (zm_St ⊕ zm_Out) :=
 
     if i1 ≤ 0 then ((zm_is q29.1 r0 10).bind fun _ =>
      if (q29.2.1 r0 5) = 0 then none
      else ((zm_is q29.1 r0 10).bind fun _ => (zm_av (zM 235 [.ref r0, .int (v22 / (q29.2.1 r0 5))] q29.1 q29.2)).bind fun q30 => zk_233_0_24 q30 ))
     else ((zm_is q29.1 r0 10).bind fun _ => (zm_ai (zM 224 [.ref r0, .int v22] q29.1 q29.2)).bind fun q31 => zk_233_0_26 q31 r0)
set_option maxRecDepth 20000 in
theorem zq_233_0_27 (τ : zm_Sig) (i1 : Int32) (r0 : Nat) (v22 : Int32) : zk_233_0_27 (zL, τ) i1 r0 v22 =
 
     if i1 ≤ 0 then ((zm_is zL r0 10).bind fun _ =>
      if (τ.1 r0 5) = 0 then none
      else ((zm_is zL r0 10).bind fun _ => (zm_av (zM 235 [.ref r0, .int (v22 / (τ.1 r0 5))] zL τ)).bind fun q30 => zk_233_0_24 q30 ))
     else ((zm_is zL r0 10).bind fun _ => (zm_ai (zM 224 [.ref r0, .int v22] zL τ)).bind fun q31 => zk_233_0_26 q31 r0) := rfl
set_option maxRecDepth 20000 in
noncomputable def zk_233_0_28 (q24 : zm_Lay × zm_Sig) (i1 : Int32) (r0 : Nat) (v22 : Int32) (σ : zm_Sig) : Option (zm_St ⊕ zm_Out) :=
 
    if i1 ≤ 0 then ((zm_is q24.1 r0 10).bind fun _ => (zm_av (zM 213 [.ref r0, .int (-((v22 - v22 / (σ.1 r0 5) * (σ.1 r0 5)) + 1))] q24.1 q24.2)).bind fun q25 => zk_233_0_23 q25 i1 r0 v22)
    else ((zm_is q24.1 r0 10).bind fun _ => (zm_av (zM 213 [.ref r0, .int ((v22 - v22 / (σ.1 r0 5) * (σ.1 r0 5)) + 1)] q24.1 q24.2)).bind fun q29 => zk_233_0_27 q29 i1 r0 v22)
set_option maxRecDepth 20000 in
theorem zq_233_0_28 (τ : zm_Sig) (i1 : Int32) (r0 : Nat) (v22 : Int32) (σ : zm_Sig) : zk_233_0_28 (zL, τ) i1 r0 v22 σ =
 
    if i1 ≤ 0 then ((zm_is zL r0 10).bind fun _ => (zm_av (zM 213 [.ref r0, .int (-((v22 - v22 / (σ.1 r0 5) * (σ.1 r0 5)) + 1))] zL τ)).bind fun q25 => zk_233_0_23 q25 i1 r0 v22)
    else ((zm_is zL r0 10).bind fun _ => (zm_av (zM 213 [.ref r0, .int ((v22 - v22 / (σ.1 r0 5) * (σ.1 r0 5)) + 1)] zL τ)).bind fun q29 => zk_233_0_27 q29 i1 r0 v22) := rfl
set_option maxRecDepth 20000 in
noncomputable def zk_233_0_29 (q23 : Int32 × zm_Lay × zm_Sig) (r0 : Nat) (i1 : Int32) (v22 : Int32) (σ : zm_Sig) : Option (zm_St ⊕ zm_Out) :=
 
    (zm_is q23.2.1 r0 10).bind fun _ => (zm_av (zM 234 [.ref r0, .int q23.1] q23.2.1 q23.2.2)).bind fun q24 => zk_233_0_28 q24 i1 r0 v22 σ
set_option maxRecDepth 20000 in
theorem zq_233_0_29 (υ : Int32) (τ : zm_Sig) (r0 : Nat) (i1 : Int32) (v22 : Int32) (σ : zm_Sig) : zk_233_0_29 (υ, zL, τ) r0 i1 v22 σ =
 
    (zm_is zL r0 10).bind fun _ => (zm_av (zM 234 [.ref r0, .int υ] zL τ)).bind fun q24 => zk_233_0_28 q24 i1 r0 v22 σ := rfl
set_option maxRecDepth 20000 in
noncomputable def zk_233_0_30 (q35 : zm_Lay × zm_Sig)  : Option (zm_St ⊕ zm_Out) :=
 
      some (.inr (none, q35.1, q35.2))
set_option maxRecDepth 20000 in
theorem zq_233_0_30 (τ : zm_Sig)  : zk_233_0_30 (zL, τ)  =
 
      some (.inr (none, zL, τ)) := rfl
set_option maxRecDepth 20000 in
noncomputable def zk_233_0_31 (q37 : zm_Lay × zm_Sig)  : Option (zm_St ⊕ zm_Out) :=
 
      some (.inr (none, q37.1, q37.2))
set_option maxRecDepth 20000 in
theorem zq_233_0_31 (τ : zm_Sig)  : zk_233_0_31 (zL, τ)  =
 
      some (.inr (none, zL, τ)) := rfl
set_option maxRecDepth 20000 in
noncomputable def zk_233_0_32 (q36 : Int32 × zm_Lay × zm_Sig) (r0 : Nat) : Option (zm_St ⊕ zm_Out) :=
 
      (zm_is q36.2.1 r0 10).bind fun _ => (zm_av (zM 235 [.ref r0, .int q36.1] q36.2.1 q36.2.2)).bind fun q37 => zk_233_0_31 q37 
set_option maxRecDepth 20000 in
theorem zq_233_0_32 (υ : Int32) (τ : zm_Sig) (r0 : Nat) : zk_233_0_32 (υ, zL, τ) r0 =
 
      (zm_is zL r0 10).bind fun _ => (zm_av (zM 235 [.ref r0, .int υ] zL τ)).bind fun q37 => zk_233_0_31 q37  := rfl
set_option maxRecDepth 20000 in
noncomputable def zk_233_0_33 (q34 : zm_Lay × zm_Sig) (i1 : Int32) (r0 : Nat) (v22 : Int32) : Option (zm_St ⊕ zm_Out) :=
 
     if i1 ≤ 0 then ((zm_is q34.1 r0 10).bind fun _ =>
      if (q34.2.1 r0 5) = 0 then none
      else ((zm_is q34.1 r0 10).bind fun _ => (zm_av (zM 235 [.ref r0, .int (v22 / (q34.2.1 r0 5))] q34.1 q34.2)).bind fun q35 => zk_233_0_30 q35 ))
     else ((zm_is q34.1 r0 10).bind fun _ => (zm_ai (zM 224 [.ref r0, .int v22] q34.1 q34.2)).bind fun q36 => zk_233_0_32 q36 r0)
set_option maxRecDepth 20000 in
theorem zq_233_0_33 (τ : zm_Sig) (i1 : Int32) (r0 : Nat) (v22 : Int32) : zk_233_0_33 (zL, τ) i1 r0 v22 =
 
     if i1 ≤ 0 then ((zm_is zL r0 10).bind fun _ =>
      if (τ.1 r0 5) = 0 then none
      else ((zm_is zL r0 10).bind fun _ => (zm_av (zM 235 [.ref r0, .int (v22 / (τ.1 r0 5))] zL τ)).bind fun q35 => zk_233_0_30 q35 ))
     else ((zm_is zL r0 10).bind fun _ => (zm_ai (zM 224 [.ref r0, .int v22] zL τ)).bind fun q36 => zk_233_0_32 q36 r0) := rfl
set_option maxRecDepth 20000 in
noncomputable def zk_233_0_34 (q39 : zm_Lay × zm_Sig)  : Option (zm_St ⊕ zm_Out) :=
 
      some (.inr (none, q39.1, q39.2))
set_option maxRecDepth 20000 in
theorem zq_233_0_34 (τ : zm_Sig)  : zk_233_0_34 (zL, τ)  =
 
      some (.inr (none, zL, τ)) := rfl
set_option maxRecDepth 20000 in
noncomputable def zk_233_0_35 (q41 : zm_Lay × zm_Sig)  : Option (zm_St ⊕ zm_Out) :=
 
      some (.inr (none, q41.1, q41.2))
set_option maxRecDepth 20000 in
theorem zq_233_0_35 (τ : zm_Sig)  : zk_233_0_35 (zL, τ)  =
 
      some (.inr (none, zL, τ)) := rfl
set_option maxRecDepth 20000 in
noncomputable def zk_233_0_36 (q40 : Int32 × zm_Lay × zm_Sig) (r0 : Nat) : Option (zm_St ⊕ zm_Out) :=
 
      (zm_is q40.2.1 r0 10).bind fun _ => (zm_av (zM 235 [.ref r0, .int q40.1] q40.2.1 q40.2.2)).bind fun q41 => zk_233_0_35 q41 
set_option maxRecDepth 20000 in
theorem zq_233_0_36 (υ : Int32) (τ : zm_Sig) (r0 : Nat) : zk_233_0_36 (υ, zL, τ) r0 =
 
      (zm_is zL r0 10).bind fun _ => (zm_av (zM 235 [.ref r0, .int υ] zL τ)).bind fun q41 => zk_233_0_35 q41  := rfl
set_option maxRecDepth 20000 in
noncomputable def zk_233_0_37 (q38 : zm_Lay × zm_Sig) (i1 : Int32) (r0 : Nat) (v22 : Int32) : Option (zm_St ⊕ zm_Out) :=
 
     if i1 ≤ 0 then ((zm_is q38.1 r0 10).bind fun _ =>
      if (q38.2.1 r0 5) = 0 then none
      else ((zm_is q38.1 r0 10).bind fun _ => (zm_av (zM 235 [.ref r0, .int (v22 / (q38.2.1 r0 5))] q38.1 q38.2)).bind fun q39 => zk_233_0_34 q39 ))
     else ((zm_is q38.1 r0 10).bind fun _ => (zm_ai (zM 224 [.ref r0, .int v22] q38.1 q38.2)).bind fun q40 => zk_233_0_36 q40 r0)
set_option maxRecDepth 20000 in
theorem zq_233_0_37 (τ : zm_Sig) (i1 : Int32) (r0 : Nat) (v22 : Int32) : zk_233_0_37 (zL, τ) i1 r0 v22 =
 
     if i1 ≤ 0 then ((zm_is zL r0 10).bind fun _ =>
      if (τ.1 r0 5) = 0 then none
      else ((zm_is zL r0 10).bind fun _ => (zm_av (zM 235 [.ref r0, .int (v22 / (τ.1 r0 5))] zL τ)).bind fun q39 => zk_233_0_34 q39 ))
     else ((zm_is zL r0 10).bind fun _ => (zm_ai (zM 224 [.ref r0, .int v22] zL τ)).bind fun q40 => zk_233_0_36 q40 r0) := rfl
set_option maxRecDepth 20000 in
noncomputable def zk_233_0_38 (q33 : zm_Lay × zm_Sig) (i1 : Int32) (r0 : Nat) (v22 : Int32) (σ : zm_Sig) : Option (zm_St ⊕ zm_Out) :=
 
    if i1 ≤ 0 then ((zm_is q33.1 r0 10).bind fun _ => (zm_av (zM 213 [.ref r0, .int (-((v22 - v22 / (σ.1 r0 5) * (σ.1 r0 5)) + 1))] q33.1 q33.2)).bind fun q34 => zk_233_0_33 q34 i1 r0 v22)
    else ((zm_is q33.1 r0 10).bind fun _ => (zm_av (zM 213 [.ref r0, .int ((v22 - v22 / (σ.1 r0 5) * (σ.1 r0 5)) + 1)] q33.1 q33.2)).bind fun q38 => zk_233_0_37 q38 i1 r0 v22)
set_option maxRecDepth 20000 in
theorem zq_233_0_38 (τ : zm_Sig) (i1 : Int32) (r0 : Nat) (v22 : Int32) (σ : zm_Sig) : zk_233_0_38 (zL, τ) i1 r0 v22 σ =
 
    if i1 ≤ 0 then ((zm_is zL r0 10).bind fun _ => (zm_av (zM 213 [.ref r0, .int (-((v22 - v22 / (σ.1 r0 5) * (σ.1 r0 5)) + 1))] zL τ)).bind fun q34 => zk_233_0_33 q34 i1 r0 v22)
    else ((zm_is zL r0 10).bind fun _ => (zm_av (zM 213 [.ref r0, .int ((v22 - v22 / (σ.1 r0 5) * (σ.1 r0 5)) + 1)] zL τ)).bind fun q38 => zk_233_0_37 q38 i1 r0 v22) := rfl
set_option maxRecDepth 20000 in
theorem zh_233_0 (σ : zm_Sig) (r0 : Nat) (i1 : Int32) : zb_233_0 zL σ r0 i1 =
  (zm_is zL r0 10).bind fun _ =>
  zm_opt (σ.2.2 r0 19) (fun q1 =>
  if (0 : Int32) ≤ i1 then ((zm_gI zL σ q1 i1).bind fun v2 =>
   (zm_is zL r0 10).bind fun _ =>
   if (σ.1 r0 5) = 0 then none
   else (if i1 ≤ 0 then ((zm_is zL r0 10).bind fun _ => (zm_ai (zM 224 [.ref r0, .int v2] zL σ)).bind fun q3 => zk_233_0_10 q3 r0 i1 v2 σ)
   else ((zm_is zL r0 10).bind fun _ =>
    if (σ.1 r0 5) = 0 then none
    else ((zm_is zL r0 10).bind fun _ => (zm_av (zM 234 [.ref r0, .int (v2 / (σ.1 r0 5))] zL σ)).bind fun q13 => zk_233_0_19 q13 i1 r0 v2 σ))))
  else ((zm_gI zL σ q1 (-i1)).bind fun v22 =>
   (zm_is zL r0 10).bind fun _ =>
   if (σ.1 r0 5) = 0 then none
   else (if i1 ≤ 0 then ((zm_is zL r0 10).bind fun _ => (zm_ai (zM 224 [.ref r0, .int v22] zL σ)).bind fun q23 => zk_233_0_29 q23 r0 i1 v22 σ)
   else ((zm_is zL r0 10).bind fun _ =>
    if (σ.1 r0 5) = 0 then none
    else ((zm_is zL r0 10).bind fun _ => (zm_av (zM 234 [.ref r0, .int (v22 / (σ.1 r0 5))] zL σ)).bind fun q33 => zk_233_0_38 q33 i1 r0 v22 σ))))) (none) := rfl
set_option maxRecDepth 20000 in
noncomputable def zk_123_0_1 (q13 : zm_Lay × zm_Sig) (r0 : Nat) (i1 : Int32) : Option (zm_St ⊕ zm_Out) :=
 
       (zm_is q13.1 r0 9).bind fun _ =>
       zm_opt (q13.2.2.2 r0 3) (fun q14 =>
       (zm_is q13.1 q14 0).bind fun _ =>
       zm_opt (q13.2.2.2 q14 1) (fun q15 =>
       (zm_is q13.1 q15 4).bind fun _ =>
       zm_opt (q13.2.2.2 q15 1) (fun q16 =>
       (zm_gI q13.1 q13.2 q16 i1).bind fun v17 =>
       some (.inr (some (.int v17), q13.1, q13.2))) (none)) (none)) (none)
set_option maxRecDepth 20000 in
theorem zq_123_0_1 (τ : zm_Sig) (r0 : Nat) (i1 : Int32) : zk_123_0_1 (zL, τ) r0 i1 =
 
       (zm_is zL r0 9).bind fun _ =>
       zm_opt (τ.2.2 r0 3) (fun q14 =>
       (zm_is zL q14 0).bind fun _ =>
       zm_opt (τ.2.2 q14 1) (fun q15 =>
       (zm_is zL q15 4).bind fun _ =>
       zm_opt (τ.2.2 q15 1) (fun q16 =>
       (zm_gI zL τ q16 i1).bind fun v17 =>
       some (.inr (some (.int v17), zL, τ))) (none)) (none)) (none) := rfl
set_option maxRecDepth 20000 in
noncomputable def zk_123_0_2 (q11 : Int32 × zm_Lay × zm_Sig) (r0 : Nat) (i1 : Int32) (i2 : Int32) : Option (zm_St ⊕ zm_Out) :=
 
      if q11.1 = 0 then ((zm_is q11.2.1 r0 9).bind fun _ =>
       zm_opt (q11.2.2.2.2 r0 3) (fun q12 =>
       (zm_is q11.2.1 q12 0).bind fun _ => (zm_av (zM 104 [.ref q12, .int (nI 2), .int i1, .int i2] q11.2.1 q11.2.2)).bind fun q13 => zk_123_0_1 q13 r0 i1) (none))
      else (some (.inr (some (.int (-2)), q11.2.1, q11.2.2)))
set_option maxRecDepth 20000 in
theorem zq_123_0_2 (υ : Int32) (τ : zm_Sig) (r0 : Nat) (i1 : Int32) (i2 : Int32) : zk_123_0_2 (υ, zL, τ) r0 i1 i2 =
 
      if υ = 0 then ((zm_is zL r0 9).bind fun _ =>
       zm_opt (τ.2.2 r0 3) (fun q12 =>
       (zm_is zL q12 0).bind fun _ => (zm_av (zM 104 [.ref q12, .int (nI 2), .int i1, .int i2] zL τ)).bind fun q13 => zk_123_0_1 q13 r0 i1) (none))
      else (some (.inr (some (.int (-2)), zL, τ))) := rfl
set_option maxRecDepth 20000 in
noncomputable def zk_123_0_3 (q9 : Int32 × zm_Lay × zm_Sig) (r0 : Nat) (i1 : Int32) (i2 : Int32) : Option (zm_St ⊕ zm_Out) :=
 
     if ¬ q9.1 = 0 then ((zm_is q9.2.1 r0 9).bind fun _ =>
      zm_opt (q9.2.2.2.2 r0 3) (fun q10 =>
      (zm_is q9.2.1 q10 0).bind fun _ => (zm_ai (zM 103 [.ref q10, .int 1] q9.2.1 q9.2.2)).bind fun q11 => zk_123_0_2 q11 r0 i1 i2) (none))
     else (some (.inr (some (.int (-6)), q9.2.1, q9.2.2)))
set_option maxRecDepth 20000 in
theorem zq_123_0_3 (υ : Int32) (τ : zm_Sig) (r0 : Nat) (i1 : Int32) (i2 : Int32) : zk_123_0_3 (υ, zL, τ) r0 i1 i2 =
 
     if ¬ υ = 0 then ((zm_is zL r0 9).bind fun _ =>
      zm_opt (τ.2.2 r0 3) (fun q10 =>
      (zm_is zL q10 0).bind fun _ => (zm_ai (zM 103 [.ref q10, .int 1] zL τ)).bind fun q11 => zk_123_0_2 q11 r0 i1 i2) (none))
     else (some (.inr (some (.int (-6)), zL, τ))) := rfl
set_option maxRecDepth 20000 in
noncomputable def zk_123_0_4 (q6 : Int32 × zm_Lay × zm_Sig) (i1 : Int32) (i2 : Int32) (r0 : Nat) : Option (zm_St ⊕ zm_Out) :=
 
   if q6.1 = 0 then (some (.inr (some (.int (-1)), q6.2.1, q6.2.2)))
   else (if ¬ i1 = i2 then ((zm_is q6.2.1 r0 9).bind fun _ =>
     zm_opt (q6.2.2.2.2 r0 3) (fun q7 =>
     (zm_is q6.2.1 q7 0).bind fun _ =>
     zm_opt (q6.2.2.2.2 q7 1) (fun q8 =>
     (zm_is q6.2.1 q8 4).bind fun _ => (zm_ai (zM 110 [.ref q8, .int i1, .int i2] q6.2.1 q6.2.2)).bind fun q9 => zk_123_0_3 q9 r0 i1 i2) (none)) (none))
    else (some (.inr (some (.int (-1)), q6.2.1, q6.2.2))))
set_option maxRecDepth 20000 in
theorem zq_123_0_4 (υ : Int32) (τ : zm_Sig) (i1 : Int32) (i2 : Int32) (r0 : Nat) : zk_123_0_4 (υ, zL, τ) i1 i2 r0 =
 
   if υ = 0 then (some (.inr (some (.int (-1)), zL, τ)))
   else (if ¬ i1 = i2 then ((zm_is zL r0 9).bind fun _ =>
     zm_opt (τ.2.2 r0 3) (fun q7 =>
     (zm_is zL q7 0).bind fun _ =>
     zm_opt (τ.2.2 q7 1) (fun q8 =>
     (zm_is zL q8 4).bind fun _ => (zm_ai (zM 110 [.ref q8, .int i1, .int i2] zL τ)).bind fun q9 => zk_123_0_3 q9 r0 i1 i2) (none)) (none))
    else (some (.inr (some (.int (-1)), zL, τ)))) := rfl
set_option maxRecDepth 20000 in
noncomputable def zk_123_0_5 (q3 : Int32 × zm_Lay × zm_Sig) (r0 : Nat) (i2 : Int32) (i1 : Int32) : Option (zm_St ⊕ zm_Out) :=
 
  if q3.1 = 0 then (some (.inr (some (.int (-1)), q3.2.1, q3.2.2)))
  else ((zm_is q3.2.1 r0 9).bind fun _ =>
   zm_opt (q3.2.2.2.2 r0 3) (fun q4 =>
   (zm_is q3.2.1 q4 0).bind fun _ =>
   zm_opt (q3.2.2.2.2 q4 1) (fun q5 =>
   (zm_is q3.2.1 q5 4).bind fun _ => (zm_ai (zM 94 [.ref q5, .int i2] q3.2.1 q3.2.2)).bind fun q6 => zk_123_0_4 q6 i1 i2 r0) (none)) (none))
set_option maxRecDepth 20000 in
theorem zq_123_0_5 (υ : Int32) (τ : zm_Sig) (r0 : Nat) (i2 : Int32) (i1 : Int32) : zk_123_0_5 (υ, zL, τ) r0 i2 i1 =
 
  if υ = 0 then (some (.inr (some (.int (-1)), zL, τ)))
  else ((zm_is zL r0 9).bind fun _ =>
   zm_opt (τ.2.2 r0 3) (fun q4 =>
   (zm_is zL q4 0).bind fun _ =>
   zm_opt (τ.2.2 q4 1) (fun q5 =>
   (zm_is zL q5 4).bind fun _ => (zm_ai (zM 94 [.ref q5, .int i2] zL τ)).bind fun q6 => zk_123_0_4 q6 i1 i2 r0) (none)) (none)) := rfl
set_option maxRecDepth 20000 in
theorem zh_123_0 (σ : zm_Sig) (r0 : Nat) (i1 : Int32) (i2 : Int32) : zb_123_0 zL σ r0 i1 i2 =
  (zm_is zL r0 9).bind fun _ =>
  zm_opt (σ.2.2 r0 3) (fun q1 =>
  (zm_is zL q1 0).bind fun _ =>
  zm_opt (σ.2.2 q1 1) (fun q2 =>
  (zm_is zL q2 4).bind fun _ => (zm_ai (zM 94 [.ref q2, .int i1] zL σ)).bind fun q3 => zk_123_0_5 q3 r0 i2 i1) (none)) (none) := rfl
set_option maxRecDepth 20000 in
noncomputable def zk_125_0_1 (q16 : zm_Lay × zm_Sig) (r0 : Nat) : Option (zm_St ⊕ zm_Out) :=
 
       (zm_is q16.1 r0 9).bind fun _ =>
       zm_opt (q16.2.2.2 r0 3) (fun q17 =>
       (zm_is q16.1 q17 0).bind fun _ =>
       zm_opt (q16.2.2.2 q17 1) (fun q18 =>
       (zm_is q16.1 q18 4).bind fun _ =>
       some (.inr (some (.int (q16.2.1 q18 2)), q16.1, q16.2))) (none)) (none)
set_option maxRecDepth 20000 in
theorem zq_125_0_1 (τ : zm_Sig) (r0 : Nat) : zk_125_0_1 (zL, τ) r0 =
 
       (zm_is zL r0 9).bind fun _ =>
       zm_opt (τ.2.2 r0 3) (fun q17 =>
       (zm_is zL q17 0).bind fun _ =>
       zm_opt (τ.2.2 q17 1) (fun q18 =>
       (zm_is zL q18 4).bind fun _ =>
       some (.inr (some (.int (τ.1 q18 2)), zL, τ))) (none)) (none) := rfl
set_option maxRecDepth 20000 in
noncomputable def zk_125_0_2 (q14 : Int32 × zm_Lay × zm_Sig) (r0 : Nat) (i1 : Int32) (i2 : Int32) : Option (zm_St ⊕ zm_Out) :=
 
      if q14.1 = 0 then ((zm_is q14.2.1 r0 9).bind fun _ =>
       zm_opt (q14.2.2.2.2 r0 3) (fun q15 =>
       (zm_is q14.2.1 q15 0).bind fun _ => (zm_av (zM 104 [.ref q15, .int (nI 4), .int i1, .int i2] q14.2.1 q14.2.2)).bind fun q16 => zk_125_0_1 q16 r0) (none))
      else (some (.inr (some (.int (-2)), q14.2.1, q14.2.2)))
set_option maxRecDepth 20000 in
theorem zq_125_0_2 (υ : Int32) (τ : zm_Sig) (r0 : Nat) (i1 : Int32) (i2 : Int32) : zk_125_0_2 (υ, zL, τ) r0 i1 i2 =
 
      if υ = 0 then ((zm_is zL r0 9).bind fun _ =>
       zm_opt (τ.2.2 r0 3) (fun q15 =>
       (zm_is zL q15 0).bind fun _ => (zm_av (zM 104 [.ref q15, .int (nI 4), .int i1, .int i2] zL τ)).bind fun q16 => zk_125_0_1 q16 r0) (none))
      else (some (.inr (some (.int (-2)), zL, τ))) := rfl
set_option maxRecDepth 20000 in
noncomputable def zk_125_0_3 (q12 : Int32 × zm_Lay × zm_Sig) (r0 : Nat) (i1 : Int32) (i2 : Int32) : Option (zm_St ⊕ zm_Out) :=
 
     if ¬ q12.1 = 0 then ((zm_is q12.2.1 r0 9).bind fun _ =>
      zm_opt (q12.2.2.2.2 r0 3) (fun q13 =>
      (zm_is q12.2.1 q13 0).bind fun _ => (zm_ai (zM 103 [.ref q13, .int 1] q12.2.1 q12.2.2)).bind fun q14 => zk_125_0_2 q14 r0 i1 i2) (none))
     else (some (.inr (some (.int (-6)), q12.2.1, q12.2.2)))
set_option maxRecDepth 20000 in
theorem zq_125_0_3 (υ : Int32) (τ : zm_Sig) (r0 : Nat) (i1 : Int32) (i2 : Int32) : zk_125_0_3 (υ, zL, τ) r0 i1 i2 =
 
     if ¬ υ = 0 then ((zm_is zL r0 9).bind fun _ =>
      zm_opt (τ.2.2 r0 3) (fun q13 =>
      (zm_is zL q13 0).bind fun _ => (zm_ai (zM 103 [.ref q13, .int 1] zL τ)).bind fun q14 => zk_125_0_2 q14 r0 i1 i2) (none))
     else (some (.inr (some (.int (-6)), zL, τ))) := rfl
set_option maxRecDepth 20000 in
noncomputable def zk_125_0_4 (q9 : Int32 × zm_Lay × zm_Sig) (r0 : Nat) (i1 : Int32) (i2 : Int32) : Option (zm_St ⊕ zm_Out) :=
 
    if q9.1 = 1 then ((zm_is q9.2.1 r0 9).bind fun _ =>
     zm_opt (q9.2.2.2.2 r0 3) (fun q10 =>
     (zm_is q9.2.1 q10 0).bind fun _ =>
     zm_opt (q9.2.2.2.2 q10 1) (fun q11 =>
     (zm_is q9.2.1 q11 4).bind fun _ => (zm_ai (zM 119 [.ref q11, .int i1, .int i2] q9.2.1 q9.2.2)).bind fun q12 => zk_125_0_3 q12 r0 i1 i2) (none)) (none))
    else (some (.inr (some (.int (-4)), q9.2.1, q9.2.2)))
set_option maxRecDepth 20000 in
theorem zq_125_0_4 (υ : Int32) (τ : zm_Sig) (r0 : Nat) (i1 : Int32) (i2 : Int32) : zk_125_0_4 (υ, zL, τ) r0 i1 i2 =
 
    if υ = 1 then ((zm_is zL r0 9).bind fun _ =>
     zm_opt (τ.2.2 r0 3) (fun q10 =>
     (zm_is zL q10 0).bind fun _ =>
     zm_opt (τ.2.2 q10 1) (fun q11 =>
     (zm_is zL q11 4).bind fun _ => (zm_ai (zM 119 [.ref q11, .int i1, .int i2] zL τ)).bind fun q12 => zk_125_0_3 q12 r0 i1 i2) (none)) (none))
    else (some (.inr (some (.int (-4)), zL, τ))) := rfl
set_option maxRecDepth 20000 in
noncomputable def zk_125_0_5 (q6 : Int32 × zm_Lay × zm_Sig) (r0 : Nat) (i1 : Int32) (i2 : Int32) : Option (zm_St ⊕ zm_Out) :=
 
   if ¬ q6.1 = 0 then ((zm_is q6.2.1 r0 9).bind fun _ =>
    zm_opt (q6.2.2.2.2 r0 3) (fun q7 =>
    (zm_is q6.2.1 q7 0).bind fun _ =>
    zm_opt (q6.2.2.2.2 q7 1) (fun q8 =>
    (zm_is q6.2.1 q8 4).bind fun _ => (zm_ai (zM 97 [.ref q8, .int i1, .int i2] q6.2.1 q6.2.2)).bind fun q9 => zk_125_0_4 q9 r0 i1 i2) (none)) (none))
   else (some (.inr (some (.int (-1)), q6.2.1, q6.2.2)))
set_option maxRecDepth 20000 in
theorem zq_125_0_5 (υ : Int32) (τ : zm_Sig) (r0 : Nat) (i1 : Int32) (i2 : Int32) : zk_125_0_5 (υ, zL, τ) r0 i1 i2 =
 
   if ¬ υ = 0 then ((zm_is zL r0 9).bind fun _ =>
    zm_opt (τ.2.2 r0 3) (fun q7 =>
    (zm_is zL q7 0).bind fun _ =>
    zm_opt (τ.2.2 q7 1) (fun q8 =>
    (zm_is zL q8 4).bind fun _ => (zm_ai (zM 97 [.ref q8, .int i1, .int i2] zL τ)).bind fun q9 => zk_125_0_4 q9 r0 i1 i2) (none)) (none))
   else (some (.inr (some (.int (-1)), zL, τ))) := rfl
set_option maxRecDepth 20000 in
noncomputable def zk_125_0_6 (q3 : Int32 × zm_Lay × zm_Sig) (r0 : Nat) (i2 : Int32) (i1 : Int32) : Option (zm_St ⊕ zm_Out) :=
 
  if q3.1 = 0 then (some (.inr (some (.int (-1)), q3.2.1, q3.2.2)))
  else ((zm_is q3.2.1 r0 9).bind fun _ =>
   zm_opt (q3.2.2.2.2 r0 3) (fun q4 =>
   (zm_is q3.2.1 q4 0).bind fun _ =>
   zm_opt (q3.2.2.2.2 q4 1) (fun q5 =>
   (zm_is q3.2.1 q5 4).bind fun _ => (zm_ai (zM 83 [.ref q5, .int i2] q3.2.1 q3.2.2)).bind fun q6 => zk_125_0_5 q6 r0 i1 i2) (none)) (none))
set_option maxRecDepth 20000 in
theorem zq_125_0_6 (υ : Int32) (τ : zm_Sig) (r0 : Nat) (i2 : Int32) (i1 : Int32) : zk_125_0_6 (υ, zL, τ) r0 i2 i1 =
 
  if υ = 0 then (some (.inr (some (.int (-1)), zL, τ)))
  else ((zm_is zL r0 9).bind fun _ =>
   zm_opt (τ.2.2 r0 3) (fun q4 =>
   (zm_is zL q4 0).bind fun _ =>
   zm_opt (τ.2.2 q4 1) (fun q5 =>
   (zm_is zL q5 4).bind fun _ => (zm_ai (zM 83 [.ref q5, .int i2] zL τ)).bind fun q6 => zk_125_0_5 q6 r0 i1 i2) (none)) (none)) := rfl
set_option maxRecDepth 20000 in
theorem zh_125_0 (σ : zm_Sig) (r0 : Nat) (i1 : Int32) (i2 : Int32) : zb_125_0 zL σ r0 i1 i2 =
  (zm_is zL r0 9).bind fun _ =>
  zm_opt (σ.2.2 r0 3) (fun q1 =>
  (zm_is zL q1 0).bind fun _ =>
  zm_opt (σ.2.2 q1 1) (fun q2 =>
  (zm_is zL q2 4).bind fun _ => (zm_ai (zM 94 [.ref q2, .int i1] zL σ)).bind fun q3 => zk_125_0_6 q3 r0 i2 i1) (none)) (none) := rfl
set_option maxRecDepth 20000 in
noncomputable def zk_126_0_1 (q10 : zm_Lay × zm_Sig) (r0 : Nat) (q6 : Int32 × zm_Lay × zm_Sig) (q8 : Nat) : Option (zm_St ⊕ zm_Out) :=
 
     (zm_is q10.1 r0 9).bind fun _ =>
     zm_opt (q10.2.2.2 r0 3) (fun q11 =>
     (zm_is q10.1 q11 0).bind fun _ =>
     zm_opt (q10.2.2.2 q11 1) (fun q12 =>
     (zm_is q10.1 q12 4).bind fun _ =>
     some (.inr (some (.int ((q6.2.2.1 q8 2) - (q10.2.1 q12 2))), q10.1, q10.2))) (none)) (none)
set_option maxRecDepth 20000 in
theorem zq_126_0_1 (τ : zm_Sig) (r0 : Nat) (q6 : Int32 × zm_Lay × zm_Sig) (q8 : Nat) : zk_126_0_1 (zL, τ) r0 q6 q8 =
 
     (zm_is zL r0 9).bind fun _ =>
     zm_opt (τ.2.2 r0 3) (fun q11 =>
     (zm_is zL q11 0).bind fun _ =>
     zm_opt (τ.2.2 q11 1) (fun q12 =>
     (zm_is zL q12 4).bind fun _ =>
     some (.inr (some (.int ((q6.2.2.1 q8 2) - (τ.1 q12 2))), zL, τ))) (none)) (none) := rfl
set_option maxRecDepth 20000 in
noncomputable def zk_126_0_2 (q6 : Int32 × zm_Lay × zm_Sig) (r0 : Nat) : Option (zm_St ⊕ zm_Out) :=
 
    if q6.1 = 0 then ((zm_is q6.2.1 r0 9).bind fun _ =>
     zm_opt (q6.2.2.2.2 r0 3) (fun q7 =>
     (zm_is q6.2.1 q7 0).bind fun _ =>
     zm_opt (q6.2.2.2.2 q7 1) (fun q8 =>
     (zm_is q6.2.1 q8 4).bind fun _ =>
     (zm_is q6.2.1 r0 9).bind fun _ =>
     zm_opt (q6.2.2.2.2 r0 3) (fun q9 =>
     (zm_is q6.2.1 q9 0).bind fun _ => (zm_av (zM 104 [.ref q9, .int (nI 6), .int 0, .int 0] q6.2.1 q6.2.2)).bind fun q10 => zk_126_0_1 q10 r0 q6 q8) (none)) (none)) (none))
    else (some (.inr (some (.int (-2)), q6.2.1, q6.2.2)))
set_option maxRecDepth 20000 in
theorem zq_126_0_2 (υ : Int32) (τ : zm_Sig) (r0 : Nat) : zk_126_0_2 (υ, zL, τ) r0 =
 
    if υ = 0 then ((zm_is zL r0 9).bind fun _ =>
     zm_opt (τ.2.2 r0 3) (fun q7 =>
     (zm_is zL q7 0).bind fun _ =>
     zm_opt (τ.2.2 q7 1) (fun q8 =>
     (zm_is zL q8 4).bind fun _ =>
     (zm_is zL r0 9).bind fun _ =>
     zm_opt (τ.2.2 r0 3) (fun q9 =>
     (zm_is zL q9 0).bind fun _ => (zm_av (zM 104 [.ref q9, .int (nI 6), .int 0, .int 0] zL τ)).bind fun q10 => zk_126_0_1 q10 r0 (υ, zL, τ) q8) (none)) (none)) (none))
    else (some (.inr (some (.int (-2)), zL, τ))) := rfl
set_option maxRecDepth 20000 in
noncomputable def zk_126_0_3 (q4 : Int32 × zm_Lay × zm_Sig) (r0 : Nat) : Option (zm_St ⊕ zm_Out) :=
 
   if ¬ q4.1 = 0 then ((zm_is q4.2.1 r0 9).bind fun _ =>
    zm_opt (q4.2.2.2.2 r0 3) (fun q5 =>
    (zm_is q4.2.1 q5 0).bind fun _ => (zm_ai (zM 103 [.ref q5, .int 1] q4.2.1 q4.2.2)).bind fun q6 => zk_126_0_2 q6 r0) (none))
   else (some (.inr (some (.int (-4)), q4.2.1, q4.2.2)))
set_option maxRecDepth 20000 in
theorem zq_126_0_3 (υ : Int32) (τ : zm_Sig) (r0 : Nat) : zk_126_0_3 (υ, zL, τ) r0 =
 
   if ¬ υ = 0 then ((zm_is zL r0 9).bind fun _ =>
    zm_opt (τ.2.2 r0 3) (fun q5 =>
    (zm_is zL q5 0).bind fun _ => (zm_ai (zM 103 [.ref q5, .int 1] zL τ)).bind fun q6 => zk_126_0_2 q6 r0) (none))
   else (some (.inr (some (.int (-4)), zL, τ))) := rfl
set_option maxRecDepth 20000 in
theorem zh_126_0 (σ : zm_Sig) (r0 : Nat) : zb_126_0 zL σ r0 =
  (zm_is zL r0 9).bind fun _ =>
  zm_opt (σ.2.2 r0 11) (fun q1 =>
  (zm_is zL q1 1).bind fun _ =>
  if (σ.1 q1 0) = 0 then (some (.inr (some (.int (-4)), zL, σ)))
  else ((zm_is zL r0 9).bind fun _ =>
   zm_opt (σ.2.2 r0 3) (fun q2 =>
   (zm_is zL q2 0).bind fun _ =>
   zm_opt (σ.2.2 q2 1) (fun q3 =>
   (zm_is zL q3 4).bind fun _ => (zm_ai (zM 127 [.ref q3] zL σ)).bind fun q4 => zk_126_0_3 q4 r0) (none)) (none))) (none) := rfl
