/-! big blocks, chopped at their calls -/
set_option maxRecDepth 20000 in
noncomputable def zk_190_25_1 (q5 : Int32 × zm_Lay × zm_Sig) (r0 : Nat) (i1 : Int32) : Option (zm_St ⊕ zm_Out) :=
 
    if ¬ q5.1 = 0 then (some (.inr (some (.int (-9)), q5.2.1, q5.2.2)))
    else ((zm_is q5.2.1 r0 10).bind fun _ =>
     zm_opt (q5.2.2.2.2 r0 2) (fun q6 =>
     (zm_gI q5.2.1 q5.2.2 q6 i1).bind fun v7 =>
     some (.inr (some (.int v7), q5.2.1, q5.2.2))) (none))
set_option maxRecDepth 20000 in
theorem zq_190_25_1 (υ : Int32) (τ : zm_Sig) (r0 : Nat) (i1 : Int32) : zk_190_25_1 (υ, zL, τ) r0 i1 =
 
    if ¬ υ = 0 then (some (.inr (some (.int (-9)), zL, τ)))
    else ((zm_is zL r0 10).bind fun _ =>
     zm_opt (τ.2.2 r0 2) (fun q6 =>
     (zm_gI zL τ q6 i1).bind fun v7 =>
     some (.inr (some (.int v7), zL, τ))) (none)) := Eq.trans rfl rfl
set_option maxRecDepth 20000 in
noncomputable def zk_190_25_2 (q11 : zm_Lay × zm_Sig) (r0 : Nat) (i1 : Int32) : Option (zm_St ⊕ zm_Out) :=
 
           some (.inl (25, [(0, .ref r0), (1, .int i1)], [], q11.1, q11.2, 0, 0))
set_option maxRecDepth 20000 in
theorem zq_190_25_2 (τ : zm_Sig) (r0 : Nat) (i1 : Int32) : zk_190_25_2 (zL, τ) r0 i1 =
 
           some (.inl (25, [(0, .ref r0), (1, .int i1)], [], zL, τ, 0, 0)) := Eq.trans rfl rfl
set_option maxRecDepth 20000 in
noncomputable def zk_190_25_3 (q10 : Int32 × zm_Lay × zm_Sig) (r0 : Nat) (i1 : Int32) : Option (zm_St ⊕ zm_Out) :=
 
          if ¬ q10.1 = 0 then ((zm_is q10.2.1 r0 10).bind fun _ => (zm_av (zM 191 [.ref r0, .int i1] q10.2.1 q10.2.2)).bind fun q11 => zk_190_25_2 q11 r0 i1)
          else ((zm_is q10.2.1 r0 10).bind fun _ =>
           some (.inr (some (.int (q10.2.2.1 r0 31)), q10.2.1, q10.2.2)))
set_option maxRecDepth 20000 in
theorem zq_190_25_3 (υ : Int32) (τ : zm_Sig) (r0 : Nat) (i1 : Int32) : zk_190_25_3 (υ, zL, τ) r0 i1 =
 
          if ¬ υ = 0 then ((zm_is zL r0 10).bind fun _ => (zm_av (zM 191 [.ref r0, .int i1] zL τ)).bind fun q11 => zk_190_25_2 q11 r0 i1)
          else ((zm_is zL r0 10).bind fun _ =>
           some (.inr (some (.int (τ.1 r0 31)), zL, τ))) := Eq.trans rfl rfl
set_option maxRecDepth 20000 in
noncomputable def zk_190_25_4 (q14 : zm_Lay × zm_Sig) (r0 : Nat) (i1 : Int32) : Option (zm_St ⊕ zm_Out) :=
 
            some (.inl (25, [(0, .ref r0), (1, .int i1)], [], q14.1, q14.2, 0, 0))
set_option maxRecDepth 20000 in
theorem zq_190_25_4 (τ : zm_Sig) (r0 : Nat) (i1 : Int32) : zk_190_25_4 (zL, τ) r0 i1 =
 
            some (.inl (25, [(0, .ref r0), (1, .int i1)], [], zL, τ, 0, 0)) := Eq.trans rfl rfl
set_option maxRecDepth 20000 in
noncomputable def zk_190_25_5 (q13 : Int32 × zm_Lay × zm_Sig) (r0 : Nat) (i1 : Int32) : Option (zm_St ⊕ zm_Out) :=
 
           if ¬ q13.1 = 0 then ((zm_is q13.2.1 r0 10).bind fun _ => (zm_av (zM 191 [.ref r0, .int i1] q13.2.1 q13.2.2)).bind fun q14 => zk_190_25_4 q14 r0 i1)
           else ((zm_is q13.2.1 r0 10).bind fun _ =>
            some (.inr (some (.int (q13.2.2.1 r0 31)), q13.2.1, q13.2.2)))
set_option maxRecDepth 20000 in
theorem zq_190_25_5 (υ : Int32) (τ : zm_Sig) (r0 : Nat) (i1 : Int32) : zk_190_25_5 (υ, zL, τ) r0 i1 =
 
           if ¬ υ = 0 then ((zm_is zL r0 10).bind fun _ => (zm_av (zM 191 [.ref r0, .int i1] zL τ)).bind fun q14 => zk_190_25_4 q14 r0 i1)
           else ((zm_is zL r0 10).bind fun _ =>
            some (.inr (some (.int (τ.1 r0 31)), zL, τ))) := Eq.trans rfl rfl
set_option maxRecDepth 20000 in
noncomputable def zk_190_25_6 (q17 : zm_Lay × zm_Sig) (r0 : Nat) (i1 : Int32) : Option (zm_St ⊕ zm_Out) :=
 
             some (.inl (25, [(0, .ref r0), (1, .int i1)], [], q17.1, q17.2, 0, 0))
set_option maxRecDepth 20000 in
theorem zq_190_25_6 (τ : zm_Sig) (r0 : Nat) (i1 : Int32) : zk_190_25_6 (zL, τ) r0 i1 =
 
             some (.inl (25, [(0, .ref r0), (1, .int i1)], [], zL, τ, 0, 0)) := Eq.trans rfl rfl
set_option maxRecDepth 20000 in
noncomputable def zk_190_25_7 (q16 : Int32 × zm_Lay × zm_Sig) (r0 : Nat) (i1 : Int32) : Option (zm_St ⊕ zm_Out) :=
 
            if ¬ q16.1 = 0 then ((zm_is q16.2.1 r0 10).bind fun _ => (zm_av (zM 191 [.ref r0, .int i1] q16.2.1 q16.2.2)).bind fun q17 => zk_190_25_6 q17 r0 i1)
            else ((zm_is q16.2.1 r0 10).bind fun _ =>
             some (.inr (some (.int (q16.2.2.1 r0 31)), q16.2.1, q16.2.2)))
set_option maxRecDepth 20000 in
theorem zq_190_25_7 (υ : Int32) (τ : zm_Sig) (r0 : Nat) (i1 : Int32) : zk_190_25_7 (υ, zL, τ) r0 i1 =
 
            if ¬ υ = 0 then ((zm_is zL r0 10).bind fun _ => (zm_av (zM 191 [.ref r0, .int i1] zL τ)).bind fun q17 => zk_190_25_6 q17 r0 i1)
            else ((zm_is zL r0 10).bind fun _ =>
             some (.inr (some (.int (τ.1 r0 31)), zL, τ))) := Eq.trans rfl rfl
set_option maxRecDepth 20000 in
noncomputable def zk_190_25_8 (q20 : zm_Lay × zm_Sig) (r0 : Nat) (i1 : Int32) : Option (zm_St ⊕ zm_Out) :=
 
          some (.inl (25, [(0, .ref r0), (1, .int i1)], [], q20.1, q20.2, 0, 0))
set_option maxRecDepth 20000 in
theorem zq_190_25_8 (τ : zm_Sig) (r0 : Nat) (i1 : Int32) : zk_190_25_8 (zL, τ) r0 i1 =
 
          some (.inl (25, [(0, .ref r0), (1, .int i1)], [], zL, τ, 0, 0)) := Eq.trans rfl rfl
set_option maxRecDepth 20000 in
noncomputable def zk_190_25_9 (q19 : Int32 × zm_Lay × zm_Sig) (r0 : Nat) (i1 : Int32) : Option (zm_St ⊕ zm_Out) :=
 
         if ¬ q19.1 = 0 then ((zm_is q19.2.1 r0 10).bind fun _ => (zm_av (zM 191 [.ref r0, .int i1] q19.2.1 q19.2.2)).bind fun q20 => zk_190_25_8 q20 r0 i1)
         else ((zm_is q19.2.1 r0 10).bind fun _ =>
          some (.inr (some (.int (q19.2.2.1 r0 31)), q19.2.1, q19.2.2)))
set_option maxRecDepth 20000 in
theorem zq_190_25_9 (υ : Int32) (τ : zm_Sig) (r0 : Nat) (i1 : Int32) : zk_190_25_9 (υ, zL, τ) r0 i1 =
 
         if ¬ υ = 0 then ((zm_is zL r0 10).bind fun _ => (zm_av (zM 191 [.ref r0, .int i1] zL τ)).bind fun q20 => zk_190_25_8 q20 r0 i1)
         else ((zm_is zL r0 10).bind fun _ =>
          some (.inr (some (.int (τ.1 r0 31)), zL, τ))) := Eq.trans rfl rfl
set_option maxRecDepth 20000 in
noncomputable def zk_190_25_10 (q23 : zm_Lay × zm_Sig) (r0 : Nat) (i1 : Int32) : Option (zm_St ⊕ zm_Out) :=
 
           some (.inl (25, [(0, .ref r0), (1, .int i1)], [], q23.1, q23.2, 0, 0))
set_option maxRecDepth 20000 in
theorem zq_190_25_10 (τ : zm_Sig) (r0 : Nat) (i1 : Int32) : zk_190_25_10 (zL, τ) r0 i1 =
 
           some (.inl (25, [(0, .ref r0), (1, .int i1)], [], zL, τ, 0, 0)) := Eq.trans rfl rfl
set_option maxRecDepth 20000 in
noncomputable def zk_190_25_11 (q22 : Int32 × zm_Lay × zm_Sig) (r0 : Nat) (i1 : Int32) : Option (zm_St ⊕ zm_Out) :=
 
          if ¬ q22.1 = 0 then ((zm_is q22.2.1 r0 10).bind fun _ => (zm_av (zM 191 [.ref r0, .int i1] q22.2.1 q22.2.2)).bind fun q23 => zk_190_25_10 q23 r0 i1)
          else ((zm_is q22.2.1 r0 10).bind fun _ =>
           some (.inr (some (.int (q22.2.2.1 r0 31)), q22.2.1, q22.2.2)))
set_option maxRecDepth 20000 in
theorem zq_190_25_11 (υ : Int32) (τ : zm_Sig) (r0 : Nat) (i1 : Int32) : zk_190_25_11 (υ, zL, τ) r0 i1 =
 
          if ¬ υ = 0 then ((zm_is zL r0 10).bind fun _ => (zm_av (zM 191 [.ref r0, .int i1] zL τ)).bind fun q23 => zk_190_25_10 q23 r0 i1)
          else ((zm_is zL r0 10).bind fun _ =>
           some (.inr (some (.int (τ.1 r0 31)), zL, τ))) := Eq.trans rfl rfl
set_option maxRecDepth 20000 in
noncomputable def zk_190_25_12 (q26 : zm_Lay × zm_Sig) (r0 : Nat) (i1 : Int32) : Option (zm_St ⊕ zm_Out) :=
 
            some (.inl (25, [(0, .ref r0), (1, .int i1)], [], q26.1, q26.2, 0, 0))
set_option maxRecDepth 20000 in
theorem zq_190_25_12 (τ : zm_Sig) (r0 : Nat) (i1 : Int32) : zk_190_25_12 (zL, τ) r0 i1 =
 
            some (.inl (25, [(0, .ref r0), (1, .int i1)], [], zL, τ, 0, 0)) := Eq.trans rfl rfl
set_option maxRecDepth 20000 in
noncomputable def zk_190_25_13 (q25 : Int32 × zm_Lay × zm_Sig) (r0 : Nat) (i1 : Int32) : Option (zm_St ⊕ zm_Out) :=
 
           if ¬ q25.1 = 0 then ((zm_is q25.2.1 r0 10).bind fun _ => (zm_av (zM 191 [.ref r0, .int i1] q25.2.1 q25.2.2)).bind fun q26 => zk_190_25_12 q26 r0 i1)
           else ((zm_is q25.2.1 r0 10).bind fun _ =>
            some (.inr (some (.int (q25.2.2.1 r0 31)), q25.2.1, q25.2.2)))
set_option maxRecDepth 20000 in
theorem zq_190_25_13 (υ : Int32) (τ : zm_Sig) (r0 : Nat) (i1 : Int32) : zk_190_25_13 (υ, zL, τ) r0 i1 =
 
           if ¬ υ = 0 then ((zm_is zL r0 10).bind fun _ => (zm_av (zM 191 [.ref r0, .int i1] zL τ)).bind fun q26 => zk_190_25_12 q26 r0 i1)
           else ((zm_is zL r0 10).bind fun _ =>
            some (.inr (some (.int (τ.1 r0 31)), zL, τ))) := Eq.trans rfl rfl
set_option maxRecDepth 20000 in
noncomputable def zk_190_25_14 (q29 : zm_Lay × zm_Sig) (r0 : Nat) (i1 : Int32) : Option (zm_St ⊕ zm_Out) :=
 
            some (.inl (25, [(0, .ref r0), (1, .int i1)], [], q29.1, q29.2, 0, 0))
set_option maxRecDepth 20000 in
theorem zq_190_25_14 (τ : zm_Sig) (r0 : Nat) (i1 : Int32) : zk_190_25_14 (zL, τ) r0 i1 =
 
            some (.inl (25, [(0, .ref r0), (1, .int i1)], [], zL, τ, 0, 0)) := Eq.trans rfl rfl
set_option maxRecDepth 20000 in
noncomputable def zk_190_25_15 (q28 : Int32 × zm_Lay × zm_Sig) (r0 : Nat) (i1 : Int32) : Option (zm_St ⊕ zm_Out) :=
 
           if ¬ q28.1 = 0 then ((zm_is q28.2.1 r0 10).bind fun _ => (zm_av (zM 191 [.ref r0, .int i1] q28.2.1 q28.2.2)).bind fun q29 => zk_190_25_14 q29 r0 i1)
           else ((zm_is q28.2.1 r0 10).bind fun _ =>
            some (.inr (some (.int (q28.2.2.1 r0 31)), q28.2.1, q28.2.2)))
set_option maxRecDepth 20000 in
theorem zq_190_25_15 (υ : Int32) (τ : zm_Sig) (r0 : Nat) (i1 : Int32) : zk_190_25_15 (υ, zL, τ) r0 i1 =
 
           if ¬ υ = 0 then ((zm_is zL r0 10).bind fun _ => (zm_av (zM 191 [.ref r0, .int i1] zL τ)).bind fun q29 => zk_190_25_14 q29 r0 i1)
           else ((zm_is zL r0 10).bind fun _ =>
            some (.inr (some (.int (τ.1 r0 31)), zL, τ))) := Eq.trans rfl rfl
set_option maxRecDepth 20000 in
noncomputable def zk_190_25_16 (q8 : Int32 × zm_Lay × zm_Sig) (r0 : Nat) (i1 : Int32) : Option (zm_St ⊕ zm_Out) :=
 
   (zm_is q8.2.1 r0 10).bind fun _ =>
   if ¬ q8.1 = (((nI 97) : Int32) + (q8.2.2.1 r0 33)) then (if ¬ q8.1 = (nI 61) then ((zm_is q8.2.1 r0 10).bind fun _ =>
       some (.inr (some (.int (q8.2.2.1 r0 31)), q8.2.1, q8.2.2)))
    else ((zm_is q8.2.1 r0 10).bind fun _ =>
     if (q8.2.2.1 r0 33) ≤ 0 then ((zm_is q8.2.1 r0 10).bind fun _ =>
        some (.inr (some (.int (q8.2.2.1 r0 31)), q8.2.1, q8.2.2)))
     else ((zm_is q8.2.1 r0 10).bind fun _ =>
      if ((nI 3) : Int32) ≤ (q8.2.2.1 r0 34) then ((zm_is q8.2.1 r0 10).bind fun _ =>
         some (.inr (some (.int (q8.2.2.1 r0 31)), q8.2.1, q8.2.2)))
      else ((zm_is q8.2.1 r0 10).bind fun _ =>
         (zm_is q8.2.1 r0 10).bind fun _ => (zm_fw q8.2.2 r0 31 0 (.int ((q8.2.2.1 r0 31) + 1))).bind fun s9 =>
         (zm_is q8.2.1 r0 10).bind fun _ => (zm_ai (zM 195 [.ref r0, .int i1] q8.2.1 s9)).bind fun q10 => zk_190_25_3 q10 r0 i1))))
   else ((zm_is q8.2.1 r0 10).bind fun _ =>
    if ((nI 3) : Int32) ≤ (q8.2.2.1 r0 33) then (if ¬ q8.1 = (nI 61) then ((zm_is q8.2.1 r0 10).bind fun _ =>
        some (.inr (some (.int (q8.2.2.1 r0 31)), q8.2.1, q8.2.2)))
     else ((zm_is q8.2.1 r0 10).bind fun _ =>
      if (q8.2.2.1 r0 33) ≤ 0 then ((zm_is q8.2.1 r0 10).bind fun _ =>
         some (.inr (some (.int (q8.2.2.1 r0 31)), q8.2.1, q8.2.2)))
      else ((zm_is q8.2.1 r0 10).bind fun _ =>
       if ((nI 3) : Int32) ≤ (q8.2.2.1 r0 34) then ((zm_is q8.2.1 r0 10).bind fun _ =>
          some (.inr (some (.int (q8.2.2.1 r0 31)), q8.2.1, q8.2.2)))
       else ((zm_is q8.2.1 r0 10).bind fun _ =>
          (zm_is q8.2.1 r0 10).bind fun _ => (zm_fw q8.2.2 r0 31 0 (.int ((q8.2.2.1 r0 31) + 1))).bind fun s12 =>
          (zm_is q8.2.1 r0 10).bind fun _ => (zm_ai (zM 195 [.ref r0, .int i1] q8.2.1 s12)).bind fun q13 => zk_190_25_5 q13 r0 i1))))
    else ((zm_is q8.2.1 r0 10).bind fun _ =>
     if ¬ (q8.2.2.1 r0 34) = 0 then (if ¬ q8.1 = (nI 61) then ((zm_is q8.2.1 r0 10).bind fun _ =>
         some (.inr (some (.int (q8.2.2.1 r0 31)), q8.2.1, q8.2.2)))
      else ((zm_is q8.2.1 r0 10).bind fun _ =>
       if (q8.2.2.1 r0 33) ≤ 0 then ((zm_is q8.2.1 r0 10).bind fun _ =>
          some (.inr (some (.int (q8.2.2.1 r0 31)), q8.2.1, q8.2.2)))
       else ((zm_is q8.2.1 r0 10).bind fun _ =>
        if ((nI 3) : Int32) ≤ (q8.2.2.1 r0 34) then ((zm_is q8.2.1 r0 10).bind fun _ =>
           some (.inr (some (.int (q8.2.2.1 r0 31)), q8.2.1, q8.2.2)))
        else ((zm_is q8.2.1 r0 10).bind fun _ =>
           (zm_is q8.2.1 r0 10).bind fun _ => (zm_fw q8.2.2 r0 31 0 (.int ((q8.2.2.1 r0 31) + 1))).bind fun s15 =>
           (zm_is q8.2.1 r0 10).bind fun _ => (zm_ai (zM 195 [.ref r0, .int i1] q8.2.1 s15)).bind fun q16 => zk_190_25_7 q16 r0 i1))))
     else (if ¬ q8.1 = (nI 61) then ((zm_is q8.2.1 r0 10).bind fun _ =>
        (zm_is q8.2.1 r0 10).bind fun _ => (zm_fw q8.2.2 r0 31 0 (.int ((q8.2.2.1 r0 31) + 1))).bind fun s18 =>
        (zm_is q8.2.1 r0 10).bind fun _ => (zm_ai (zM 193 [.ref r0, .int i1] q8.2.1 s18)).bind fun q19 => zk_190_25_9 q19 r0 i1)
      else ((zm_is q8.2.1 r0 10).bind fun _ =>
       if (q8.2.2.1 r0 33) ≤ 0 then ((zm_is q8.2.1 r0 10).bind fun _ =>
         (zm_is q8.2.1 r0 10).bind fun _ => (zm_fw q8.2.2 r0 31 0 (.int ((q8.2.2.1 r0 31) + 1))).bind fun s21 =>
         (zm_is q8.2.1 r0 10).bind fun _ => (zm_ai (zM 193 [.ref r0, .int i1] q8.2.1 s21)).bind fun q22 => zk_190_25_11 q22 r0 i1)
       else ((zm_is q8.2.1 r0 10).bind fun _ =>
        if ((nI 3) : Int32) ≤ (q8.2.2.1 r0 34) then ((zm_is q8.2.1 r0 10).bind fun _ =>
          (zm_is q8.2.1 r0 10).bind fun _ => (zm_fw q8.2.2 r0 31 0 (.int ((q8.2.2.1 r0 31) + 1))).bind fun s24 =>
          (zm_is q8.2.1 r0 10).bind fun _ => (zm_ai (zM 193 [.ref r0, .int i1] q8.2.1 s24)).bind fun q25 => zk_190_25_13 q25 r0 i1)
        else ((zm_is q8.2.1 r0 10).bind fun _ =>
          (zm_is q8.2.1 r0 10).bind fun _ => (zm_fw q8.2.2 r0 31 0 (.int ((q8.2.2.1 r0 31) + 1))).bind fun s27 =>
          (zm_is q8.2.1 r0 10).bind fun _ => (zm_ai (zM 193 [.ref r0, .int i1] q8.2.1 s27)).bind fun q28 => zk_190_25_15 q28 r0 i1))))))
set_option maxRecDepth 20000 in
theorem zq_190_25_16 (υ : Int32) (τ : zm_Sig) (r0 : Nat) (i1 : Int32) : zk_190_25_16 (υ, zL, τ) r0 i1 =
 
   (zm_is zL r0 10).bind fun _ =>
   if ¬ υ = (((nI 97) : Int32) + (τ.1 r0 33)) then (if ¬ υ = (nI 61) then ((zm_is zL r0 10).bind fun _ =>
       some (.inr (some (.int (τ.1 r0 31)), zL, τ)))
    else ((zm_is zL r0 10).bind fun _ =>
     if (τ.1 r0 33) ≤ 0 then ((zm_is zL r0 10).bind fun _ =>
        some (.inr (some (.int (τ.1 r0 31)), zL, τ)))
     else ((zm_is zL r0 10).bind fun _ =>
      if ((nI 3) : Int32) ≤ (τ.1 r0 34) then ((zm_is zL r0 10).bind fun _ =>
         some (.inr (some (.int (τ.1 r0 31)), zL, τ)))
      else ((zm_is zL r0 10).bind fun _ =>
         (zm_is zL r0 10).bind fun _ => (zm_fw τ r0 31 0 (.int ((τ.1 r0 31) + 1))).bind fun s9 =>
         (zm_is zL r0 10).bind fun _ => (zm_ai (zM 195 [.ref r0, .int i1] zL s9)).bind fun q10 => zk_190_25_3 q10 r0 i1))))
   else ((zm_is zL r0 10).bind fun _ =>
    if ((nI 3) : Int32) ≤ (τ.1 r0 33) then (if ¬ υ = (nI 61) then ((zm_is zL r0 10).bind fun _ =>
        some (.inr (some (.int (τ.1 r0 31)), zL, τ)))
     else ((zm_is zL r0 10).bind fun _ =>
      if (τ.1 r0 33) ≤ 0 then ((zm_is zL r0 10).bind fun _ =>
         some (.inr (some (.int (τ.1 r0 31)), zL, τ)))
      else ((zm_is zL r0 10).bind fun _ =>
       if ((nI 3) : Int32) ≤ (τ.1 r0 34) then ((zm_is zL r0 10).bind fun _ =>
          some (.inr (some (.int (τ.1 r0 31)), zL, τ)))
       else ((zm_is zL r0 10).bind fun _ =>
          (zm_is zL r0 10).bind fun _ => (zm_fw τ r0 31 0 (.int ((τ.1 r0 31) + 1))).bind fun s12 =>
          (zm_is zL r0 10).bind fun _ => (zm_ai (zM 195 [.ref r0, .int i1] zL s12)).bind fun q13 => zk_190_25_5 q13 r0 i1))))
    else ((zm_is zL r0 10).bind fun _ =>
     if ¬ (τ.1 r0 34) = 0 then (if ¬ υ = (nI 61) then ((zm_is zL r0 10).bind fun _ =>
         some (.inr (some (.int (τ.1 r0 31)), zL, τ)))
      else ((zm_is zL r0 10).bind fun _ =>
       if (τ.1 r0 33) ≤ 0 then ((zm_is zL r0 10).bind fun _ =>
          some (.inr (some (.int (τ.1 r0 31)), zL, τ)))
       else ((zm_is zL r0 10).bind fun _ =>
        if ((nI 3) : Int32) ≤ (τ.1 r0 34) then ((zm_is zL r0 10).bind fun _ =>
           some (.inr (some (.int (τ.1 r0 31)), zL, τ)))
        else ((zm_is zL r0 10).bind fun _ =>
           (zm_is zL r0 10).bind fun _ => (zm_fw τ r0 31 0 (.int ((τ.1 r0 31) + 1))).bind fun s15 =>
           (zm_is zL r0 10).bind fun _ => (zm_ai (zM 195 [.ref r0, .int i1] zL s15)).bind fun q16 => zk_190_25_7 q16 r0 i1))))
     else (if ¬ υ = (nI 61) then ((zm_is zL r0 10).bind fun _ =>
        (zm_is zL r0 10).bind fun _ => (zm_fw τ r0 31 0 (.int ((τ.1 r0 31) + 1))).bind fun s18 =>
        (zm_is zL r0 10).bind fun _ => (zm_ai (zM 193 [.ref r0, .int i1] zL s18)).bind fun q19 => zk_190_25_9 q19 r0 i1)
      else ((zm_is zL r0 10).bind fun _ =>
       if (τ.1 r0 33) ≤ 0 then ((zm_is zL r0 10).bind fun _ =>
         (zm_is zL r0 10).bind fun _ => (zm_fw τ r0 31 0 (.int ((τ.1 r0 31) + 1))).bind fun s21 =>
         (zm_is zL r0 10).bind fun _ => (zm_ai (zM 193 [.ref r0, .int i1] zL s21)).bind fun q22 => zk_190_25_11 q22 r0 i1)
       else ((zm_is zL r0 10).bind fun _ =>
        if ((nI 3) : Int32) ≤ (τ.1 r0 34) then ((zm_is zL r0 10).bind fun _ =>
          (zm_is zL r0 10).bind fun _ => (zm_fw τ r0 31 0 (.int ((τ.1 r0 31) + 1))).bind fun s24 =>
          (zm_is zL r0 10).bind fun _ => (zm_ai (zM 193 [.ref r0, .int i1] zL s24)).bind fun q25 => zk_190_25_13 q25 r0 i1)
        else ((zm_is zL r0 10).bind fun _ =>
          (zm_is zL r0 10).bind fun _ => (zm_fw τ r0 31 0 (.int ((τ.1 r0 31) + 1))).bind fun s27 =>
          (zm_is zL r0 10).bind fun _ => (zm_ai (zM 193 [.ref r0, .int i1] zL s27)).bind fun q28 => zk_190_25_15 q28 r0 i1)))))) := Eq.trans rfl rfl
set_option maxRecDepth 20000 in
theorem zh_190_25 (σ : zm_Sig) (r0 : Nat) (i1 : Int32) : zb_190_25 zL σ r0 i1 =
  (zm_is zL r0 10).bind fun _ =>
  (zm_is zL r0 10).bind fun _ =>
  zm_opt (σ.2.2 r0 2) (fun q1 =>
  (zm_gI zL σ q1 i1).bind fun v2 =>
  if v2 ≤ (σ.1 r0 31) then ((zm_is zL r0 10).bind fun _ =>
   if (σ.1 r0 33) = 0 then ((zm_is zL r0 10).bind fun _ =>
    zm_opt (σ.2.2 r0 2) (fun q3 =>
    (zm_gI zL σ q3 i1).bind fun v4 =>
    some (.inr (some (.int v4), zL, σ))) (none))
   else ((zm_is zL r0 10).bind fun _ => (zm_ai (zM 198 [.ref r0] zL σ)).bind fun q5 => zk_190_25_1 q5 r0 i1))
  else ((zm_is zL r0 10).bind fun _ => (zm_ai (zM 192 [.ref r0, .int i1] zL σ)).bind fun q8 => zk_190_25_16 q8 r0 i1)) (none) := Eq.trans rfl rfl
set_option maxRecDepth 20000 in
noncomputable def zk_195_15_1 (q7 : Int32 × zm_Lay × zm_Sig) (r0 : Nat) (q6 : Int32 × zm_Lay × zm_Sig) (i4 : Int32) (i3 : Int32) (i1 : Int32) (i2 : Int32) : Option (zm_St ⊕ zm_Out) :=
 
   if q7.1 = 0 then ((zm_is q7.2.1 r0 10).bind fun _ =>
    if (q7.2.2.1 r0 33) < (((nI 64) : Int32) - q6.1) then (some (.inr (some (.int 0), q7.2.1, q7.2.2)))
    else ((zm_is q7.2.1 r0 10).bind fun _ =>
     if (q7.2.2.1 r0 33) < (-(((nI 64) : Int32) - q6.1)) then (some (.inr (some (.int 0), q7.2.1, q7.2.2)))
     else (if ¬ i4 = (nI 8) then ((zm_is q7.2.1 r0 10).bind fun _ =>
       zm_opt (q7.2.2.2.2 r0 38) (fun q8 =>
       (zm_sI q7.2.1 q7.2.2 q8 ((((nI 8) : Int32) * i3) + i4) (((nI 64) : Int32) - q6.1)).bind fun s9 =>
       (zm_is q7.2.1 r0 10).bind fun _ =>
       (zm_is q7.2.1 r0 10).bind fun _ => (zm_fw s9 r0 31 0 (.int ((s9.1 r0 31) + 1))).bind fun s10 =>
       some (.inl (15, [(0, .ref r0), (1, .int i1), (2, .int i2), (3, .int i3), (4, .int (i4 + 1))], [], q7.2.1, s10, 0, 0))) (none))
      else (some (.inr (some (.int 0), q7.2.1, q7.2.2))))))
   else ((zm_is q7.2.1 r0 10).bind fun _ =>
    if (q7.2.2.1 r0 33) < ((q6.1 - (nI 97)) + 1) then (some (.inr (some (.int 0), q7.2.1, q7.2.2)))
    else ((zm_is q7.2.1 r0 10).bind fun _ =>
     if (q7.2.2.1 r0 33) < (-((q6.1 - (nI 97)) + 1)) then (some (.inr (some (.int 0), q7.2.1, q7.2.2)))
     else (if ¬ i4 = (nI 8) then ((zm_is q7.2.1 r0 10).bind fun _ =>
       zm_opt (q7.2.2.2.2 r0 38) (fun q11 =>
       (zm_sI q7.2.1 q7.2.2 q11 ((((nI 8) : Int32) * i3) + i4) ((q6.1 - (nI 97)) + 1)).bind fun s12 =>
       (zm_is q7.2.1 r0 10).bind fun _ =>
       (zm_is q7.2.1 r0 10).bind fun _ => (zm_fw s12 r0 31 0 (.int ((s12.1 r0 31) + 1))).bind fun s13 =>
       some (.inl (15, [(0, .ref r0), (1, .int i1), (2, .int i2), (3, .int i3), (4, .int (i4 + 1))], [], q7.2.1, s13, 0, 0))) (none))
      else (some (.inr (some (.int 0), q7.2.1, q7.2.2))))))
set_option maxRecDepth 20000 in
theorem zq_195_15_1 (υ : Int32) (τ : zm_Sig) (r0 : Nat) (q6 : Int32 × zm_Lay × zm_Sig) (i4 : Int32) (i3 : Int32) (i1 : Int32) (i2 : Int32) : zk_195_15_1 (υ, zL, τ) r0 q6 i4 i3 i1 i2 =
 
   if υ = 0 then ((zm_is zL r0 10).bind fun _ =>
    if (τ.1 r0 33) < (((nI 64) : Int32) - q6.1) then (some (.inr (some (.int 0), zL, τ)))
    else ((zm_is zL r0 10).bind fun _ =>
     if (τ.1 r0 33) < (-(((nI 64) : Int32) - q6.1)) then (some (.inr (some (.int 0), zL, τ)))
     else (if ¬ i4 = (nI 8) then ((zm_is zL r0 10).bind fun _ =>
       zm_opt (τ.2.2 r0 38) (fun q8 =>
       (zm_sI zL τ q8 ((((nI 8) : Int32) * i3) + i4) (((nI 64) : Int32) - q6.1)).bind fun s9 =>
       (zm_is zL r0 10).bind fun _ =>
       (zm_is zL r0 10).bind fun _ => (zm_fw s9 r0 31 0 (.int ((s9.1 r0 31) + 1))).bind fun s10 =>
       some (.inl (15, [(0, .ref r0), (1, .int i1), (2, .int i2), (3, .int i3), (4, .int (i4 + 1))], [], zL, s10, 0, 0))) (none))
      else (some (.inr (some (.int 0), zL, τ))))))
   else ((zm_is zL r0 10).bind fun _ =>
    if (τ.1 r0 33) < ((q6.1 - (nI 97)) + 1) then (some (.inr (some (.int 0), zL, τ)))
    else ((zm_is zL r0 10).bind fun _ =>
     if (τ.1 r0 33) < (-((q6.1 - (nI 97)) + 1)) then (some (.inr (some (.int 0), zL, τ)))
     else (if ¬ i4 = (nI 8) then ((zm_is zL r0 10).bind fun _ =>
       zm_opt (τ.2.2 r0 38) (fun q11 =>
       (zm_sI zL τ q11 ((((nI 8) : Int32) * i3) + i4) ((q6.1 - (nI 97)) + 1)).bind fun s12 =>
       (zm_is zL r0 10).bind fun _ =>
       (zm_is zL r0 10).bind fun _ => (zm_fw s12 r0 31 0 (.int ((s12.1 r0 31) + 1))).bind fun s13 =>
       some (.inl (15, [(0, .ref r0), (1, .int i1), (2, .int i2), (3, .int i3), (4, .int (i4 + 1))], [], zL, s13, 0, 0))) (none))
      else (some (.inr (some (.int 0), zL, τ)))))) := Eq.trans rfl rfl
set_option maxRecDepth 20000 in
noncomputable def zk_195_15_2 (q6 : Int32 × zm_Lay × zm_Sig) (r0 : Nat) (i4 : Int32) (i3 : Int32) (i1 : Int32) (i2 : Int32) : Option (zm_St ⊕ zm_Out) :=
 
   (zm_ai (zM 176 [.int q6.1, .int (nI 97), .int (nI 99)] q6.2.1 q6.2.2)).bind fun q7 => zk_195_15_1 q7 r0 q6 i4 i3 i1 i2
set_option maxRecDepth 20000 in
theorem zq_195_15_2 (υ : Int32) (τ : zm_Sig) (r0 : Nat) (i4 : Int32) (i3 : Int32) (i1 : Int32) (i2 : Int32) : zk_195_15_2 (υ, zL, τ) r0 i4 i3 i1 i2 =
 
   (zm_ai (zM 176 [.int υ, .int (nI 97), .int (nI 99)] zL τ)).bind fun q7 => zk_195_15_1 q7 r0 (υ, zL, τ) i4 i3 i1 i2 := Eq.trans rfl rfl
set_option maxRecDepth 20000 in
noncomputable def zk_195_15_3 (q2 : Int32 × zm_Lay × zm_Sig) (i4 : Int32) (r0 : Nat) (i3 : Int32) (i2 : Int32) (i1 : Int32) : Option (zm_St ⊕ zm_Out) :=
 
  if q2.1 = 0 then (if ¬ i4 = 0 then ((zm_is q2.2.1 r0 10).bind fun _ =>
    zm_opt (q2.2.2.2.2 r0 37) (fun q3 =>
    (zm_sI q2.2.1 q2.2.2 q3 i3 i4).bind fun s4 =>
    (zm_is q2.2.1 r0 10).bind fun _ =>
    (zm_is q2.2.1 r0 10).bind fun _ => (zm_fw s4 r0 34 0 (.int ((s4.1 r0 34) + 1))).bind fun s5 =>
    some (.inl (148, [(0, .ref r0), (2, .int i2), (3, .int i3), (4, .int i4), (5, .int 0)], [], q2.2.1, s5, 0, 0))) (none))
   else (some (.inr (some (.int 0), q2.2.1, q2.2.2))))
  else ((zm_is q2.2.1 r0 10).bind fun _ => (zm_ai (zM 192 [.ref r0, .int i1] q2.2.1 q2.2.2)).bind fun q6 => zk_195_15_2 q6 r0 i4 i3 i1 i2)
set_option maxRecDepth 20000 in
theorem zq_195_15_3 (υ : Int32) (τ : zm_Sig) (i4 : Int32) (r0 : Nat) (i3 : Int32) (i2 : Int32) (i1 : Int32) : zk_195_15_3 (υ, zL, τ) i4 r0 i3 i2 i1 =
 
  if υ = 0 then (if ¬ i4 = 0 then ((zm_is zL r0 10).bind fun _ =>
    zm_opt (τ.2.2 r0 37) (fun q3 =>
    (zm_sI zL τ q3 i3 i4).bind fun s4 =>
    (zm_is zL r0 10).bind fun _ =>
    (zm_is zL r0 10).bind fun _ => (zm_fw s4 r0 34 0 (.int ((s4.1 r0 34) + 1))).bind fun s5 =>
    some (.inl (148, [(0, .ref r0), (2, .int i2), (3, .int i3), (4, .int i4), (5, .int 0)], [], zL, s5, 0, 0))) (none))
   else (some (.inr (some (.int 0), zL, τ))))
  else ((zm_is zL r0 10).bind fun _ => (zm_ai (zM 192 [.ref r0, .int i1] zL τ)).bind fun q6 => zk_195_15_2 q6 r0 i4 i3 i1 i2) := Eq.trans rfl rfl
set_option maxRecDepth 20000 in
noncomputable def zk_195_15_4 (q1 : Int32 × zm_Lay × zm_Sig) (i4 : Int32) (r0 : Nat) (i3 : Int32) (i2 : Int32) (i1 : Int32) : Option (zm_St ⊕ zm_Out) :=
 
  (zm_ai (zM 196 [.int q1.1] q1.2.1 q1.2.2)).bind fun q2 => zk_195_15_3 q2 i4 r0 i3 i2 i1
set_option maxRecDepth 20000 in
theorem zq_195_15_4 (υ : Int32) (τ : zm_Sig) (i4 : Int32) (r0 : Nat) (i3 : Int32) (i2 : Int32) (i1 : Int32) : zk_195_15_4 (υ, zL, τ) i4 r0 i3 i2 i1 =
 
  (zm_ai (zM 196 [.int υ] zL τ)).bind fun q2 => zk_195_15_3 q2 i4 r0 i3 i2 i1 := Eq.trans rfl rfl
set_option maxRecDepth 20000 in
theorem zh_195_15 (σ : zm_Sig) (r0 : Nat) (i1 : Int32) (i2 : Int32) (i3 : Int32) (i4 : Int32) : zb_195_15 zL σ r0 i1 i2 i3 i4 =
  (zm_is zL r0 10).bind fun _ => (zm_ai (zM 192 [.ref r0, .int i1] zL σ)).bind fun q1 => zk_195_15_4 q1 i4 r0 i3 i2 i1 := Eq.trans rfl rfl
