abbrev zp_P : Nat → Option zm_Mth := fun y => zp_all[y]?
noncomputable abbrev zM : Nat → List Value → zm_Lay → zm_Sig → Option zm_Out := zm_mean zp_P
/-! SubgroupWriter.row(II)I -/
noncomputable def zb_11_0 (lay : zm_Lay) (σ : zm_Sig) (r0 : Nat) (i1 : Int32) (i2 : Int32) : Option (zm_St ⊕ zm_Out) :=
  (zm_is lay r0 9).bind fun _ =>
  zm_opt (σ.2.2 r0 0) (fun q1 =>
  (zm_is lay q1 5).bind fun _ => (zm_ai (zM 12 [.ref q1, .int i1] lay σ)).bind fun q2 =>
  if q2.1 = 0 then (some (.inr (some (.int (-1)), q2.2.1, q2.2.2)))
  else (if i2 ≤ 40 then (if (0 : Int32) ≤ i2 then ((zm_is q2.2.1 r0 9).bind fun _ =>
     zm_opt (q2.2.2.2.2 r0 0) (fun q3 =>
     (zm_is q2.2.1 q3 5).bind fun _ => (zm_av (zM 14 [.ref q3, .int i1, .int i2, .int 0] q2.2.1 q2.2.2)).bind fun q4 =>
     some (.inr (some (.int i2), q4.1, q4.2))) (none))
    else ((zm_is q2.2.1 r0 9).bind fun _ => (zm_ai (zM 13 [.ref r0, .int 5] q2.2.1 q2.2.2)).bind fun q5 =>
     some (.inr (some (.int q5.1), q5.2.1, q5.2.2))))
   else (some (.inr (some (.int (-1)), q2.2.1, q2.2.2))))) (none)
set_option maxRecDepth 100000 in
theorem zr_11_0 (lay : zm_Lay) (σ : zm_Sig) (r0 : Nat) (i1 : Int32) (i2 : Int32) : zm_blk zM zp_11 (some .int) 0 0 zc_11 25 (zp_11.drop 0) (0, [(0, .ref r0), (1, .int i1), (2, .int i2)], [], lay, σ, 0, 0) = zb_11_0 lay σ r0 i1 i2 := rfl
/-! SubgroupWriter$Shelf.isNumber(I)Z -/
noncomputable def zb_12_0 (lay : zm_Lay) (σ : zm_Sig) (r0 : Nat) (i1 : Int32) : Option (zm_St ⊕ zm_Out) :=
  if i1 < 0 then (some (.inr (some (.int 0), lay, σ)))
  else ((zm_is lay r0 5).bind fun _ =>
   zm_opt (σ.2.2 r0 1) (fun q1 =>
   (zm_len lay q1).bind fun v2 =>
   if v2 ≤ i1 then (some (.inr (some (.int 0), lay, σ)))
   else (some (.inr (some (.int 1), lay, σ)))) (none))
set_option maxRecDepth 100000 in
theorem zr_12_0 (lay : zm_Lay) (σ : zm_Sig) (r0 : Nat) (i1 : Int32) : zm_blk zM zp_12 (some .boolean) 0 0 zc_12 12 (zp_12.drop 0) (0, [(0, .ref r0), (1, .int i1)], [], lay, σ, 0, 0) = zb_12_0 lay σ r0 i1 := rfl
/-! SubgroupWriter.found(I)I -/
noncomputable def zb_13_0 (lay : zm_Lay) (σ : zm_Sig) (r0 : Nat) (i1 : Int32) : Option (zm_St ⊕ zm_Out) :=
  (zm_is lay r0 9).bind fun _ => (zm_fw σ r0 16 0 (.int i1)).bind fun s1 =>
  (zm_is lay r0 9).bind fun _ =>
  zm_opt (s1.2.2 r0 7) (fun q2 =>
  (zm_gI lay s1 q2 i1).bind fun v3 =>
  (zm_sI lay s1 q2 i1 (v3 + 1)).bind fun s4 =>
  some (.inr (some (.int (-3)), lay, s4))) (none)
set_option maxRecDepth 100000 in
theorem zr_13_0 (lay : zm_Lay) (σ : zm_Sig) (r0 : Nat) (i1 : Int32) : zm_blk zM zp_13 (some .int) 0 0 zc_13 14 (zp_13.drop 0) (0, [(0, .ref r0), (1, .int i1)], [], lay, σ, 0, 0) = zb_13_0 lay σ r0 i1 := rfl
/-! SubgroupWriter$Shelf.make(III)V -/
noncomputable def zb_14_0 (lay : zm_Lay) (σ : zm_Sig) (r0 : Nat) (i1 : Int32) (i2 : Int32) (i3 : Int32) : Option (zm_St ⊕ zm_Out) :=
  (zm_is lay r0 5).bind fun _ => (zm_ai (zM 12 [.ref r0, .int i1] lay σ)).bind fun q1 =>
  if q1.1 = 0 then (some (.inr (none, q1.2.1, q1.2.2)))
  else (if i2 < 0 then (some (.inr (none, q1.2.1, q1.2.2)))
   else ((zm_is q1.2.1 r0 5).bind fun _ =>
    zm_opt (q1.2.2.2.2 r0 0) (fun q2 =>
    (zm_gR q1.2.1 q1.2.2 q2 i1).bind fun o3 => zm_opt o3 (fun q4 =>
    (zm_len q1.2.1 q4).bind fun v5 =>
    if i2 ≤ v5 then ((zm_is q1.2.1 r0 5).bind fun _ =>
     zm_opt (q1.2.2.2.2 r0 1) (fun q6 =>
     (zm_sI q1.2.1 q1.2.2 q6 i1 i2).bind fun s7 =>
     (zm_is q1.2.1 r0 5).bind fun _ =>
     zm_opt (s7.2.2 r0 0) (fun q8 =>
     (zm_gR q1.2.1 s7 q8 i1).bind fun o9 => zm_opt o9 (fun q10 =>
     (zm_av (zM 2 [.ref q10, .int i3] q1.2.1 s7)).bind fun q11 =>
     some (.inr (none, q11.1, q11.2))) ((zm_av (zM 2 [.null, .int i3] q1.2.1 s7)).bind fun q12 =>
     some (.inr (none, q12.1, q12.2)))) (none)) (none))
    else (some (.inr (none, q1.2.1, q1.2.2)))) (none)) (none)))
set_option maxRecDepth 100000 in
theorem zr_14_0 (lay : zm_Lay) (σ : zm_Sig) (r0 : Nat) (i1 : Int32) (i2 : Int32) (i3 : Int32) : zm_blk zM zp_14 none 0 0 zc_14 27 (zp_14.drop 0) (0, [(0, .ref r0), (1, .int i1), (2, .int i2), (3, .int i3)], [], lay, σ, 0, 0) = zb_14_0 lay σ r0 i1 i2 i3 := rfl
/-! SubgroupWriter.lay(III)I -/
noncomputable def zb_15_0 (lay : zm_Lay) (σ : zm_Sig) (r0 : Nat) (i1 : Int32) (i2 : Int32) (i3 : Int32) : Option (zm_St ⊕ zm_Out) :=
  (zm_is lay r0 9).bind fun _ =>
  zm_opt (σ.2.2 r0 0) (fun q1 =>
  (zm_is lay q1 5).bind fun _ => (zm_ai (zM 12 [.ref q1, .int i1] lay σ)).bind fun q2 =>
  if ¬ q2.1 = 0 then ((zm_is q2.2.1 r0 9).bind fun _ =>
   zm_opt (q2.2.2.2.2 r0 0) (fun q3 =>
   (zm_is q2.2.1 q3 5).bind fun _ => (zm_ai (zM 16 [.ref q3, .int i1] q2.2.1 q2.2.2)).bind fun q4 =>
   if q4.1 = 0 then ((zm_is q4.2.1 r0 9).bind fun _ =>
    zm_opt (q4.2.2.2.2 r0 0) (fun q5 =>
    (zm_is q4.2.1 q5 5).bind fun _ => (zm_ai (zM 17 [.ref q5, .int i1, .int i2] q4.2.1 q4.2.2)).bind fun q6 =>
    if ¬ q6.1 = 0 then ((zm_is q6.2.1 r0 9).bind fun _ =>
     zm_opt (q6.2.2.2.2 r0 0) (fun q7 =>
     (zm_is q6.2.1 q7 5).bind fun _ => (zm_ai (zM 18 [.ref q7, .int i1, .int i2] q6.2.1 q6.2.2)).bind fun q8 =>
     (zm_is q8.2.1 r0 9).bind fun _ =>
     zm_opt (q8.2.2.2.2 r0 0) (fun q9 =>
     (zm_is q8.2.1 q9 5).bind fun _ => (zm_av (zM 19 [.ref q9, .int i1, .int i2, .int i3] q8.2.1 q8.2.2)).bind fun q10 =>
     (zm_is q10.1 r0 9).bind fun _ => (zm_ai (zM 20 [.ref r0, .int q8.1] q10.1 q10.2)).bind fun q11 =>
     some (.inr (some (.int q11.1), q11.2.1, q11.2.2))) (none)) (none))
    else ((zm_is q6.2.1 r0 9).bind fun _ => (zm_ai (zM 13 [.ref r0, .int 2] q6.2.1 q6.2.2)).bind fun q12 =>
     some (.inr (some (.int q12.1), q12.2.1, q12.2.2)))) (none))
   else ((zm_is q4.2.1 r0 9).bind fun _ => (zm_ai (zM 13 [.ref r0, .int 1] q4.2.1 q4.2.2)).bind fun q13 =>
    some (.inr (some (.int q13.1), q13.2.1, q13.2.2)))) (none))
  else (some (.inr (some (.int (-1)), q2.2.1, q2.2.2)))) (none)
set_option maxRecDepth 100000 in
theorem zr_15_0 (lay : zm_Lay) (σ : zm_Sig) (r0 : Nat) (i1 : Int32) (i2 : Int32) (i3 : Int32) : zm_blk zM zp_15 (some .int) 0 0 zc_15 43 (zp_15.drop 0) (0, [(0, .ref r0), (1, .int i1), (2, .int i2), (3, .int i3)], [], lay, σ, 0, 0) = zb_15_0 lay σ r0 i1 i2 i3 := rfl
/-! SubgroupWriter$Shelf.isMissing(I)Z -/
noncomputable def zb_16_0 (lay : zm_Lay) (σ : zm_Sig) (r0 : Nat) (i1 : Int32) : Option (zm_St ⊕ zm_Out) :=
  (zm_is lay r0 5).bind fun _ => (zm_ai (zM 12 [.ref r0, .int i1] lay σ)).bind fun q1 =>
  if q1.1 = 0 then (some (.inr (some (.int 1), q1.2.1, q1.2.2)))
  else ((zm_is q1.2.1 r0 5).bind fun _ =>
   zm_opt (q1.2.2.2.2 r0 1) (fun q2 =>
   (zm_gI q1.2.1 q1.2.2 q2 i1).bind fun v3 =>
   if ¬ v3 = (-1) then (some (.inr (some (.int 0), q1.2.1, q1.2.2)))
   else (some (.inr (some (.int 1), q1.2.1, q1.2.2)))) (none))
set_option maxRecDepth 100000 in
theorem zr_16_0 (lay : zm_Lay) (σ : zm_Sig) (r0 : Nat) (i1 : Int32) : zm_blk zM zp_16 (some .boolean) 0 0 zc_16 15 (zp_16.drop 0) (0, [(0, .ref r0), (1, .int i1)], [], lay, σ, 0, 0) = zb_16_0 lay σ r0 i1 := rfl
/-! SubgroupWriter$Shelf.hasPlace(II)Z -/
noncomputable def zb_17_0 (lay : zm_Lay) (σ : zm_Sig) (r0 : Nat) (i1 : Int32) (i2 : Int32) : Option (zm_St ⊕ zm_Out) :=
  (zm_is lay r0 5).bind fun _ => (zm_ai (zM 12 [.ref r0, .int i1] lay σ)).bind fun q1 =>
  if q1.1 = 0 then (some (.inr (some (.int 0), q1.2.1, q1.2.2)))
  else (if i2 < 0 then (some (.inr (some (.int 0), q1.2.1, q1.2.2)))
   else ((zm_is q1.2.1 r0 5).bind fun _ =>
    zm_opt (q1.2.2.2.2 r0 1) (fun q2 =>
    (zm_gI q1.2.1 q1.2.2 q2 i1).bind fun v3 =>
    if v3 ≤ i2 then (some (.inr (some (.int 0), q1.2.1, q1.2.2)))
    else (some (.inr (some (.int 1), q1.2.1, q1.2.2)))) (none)))
set_option maxRecDepth 100000 in
theorem zr_17_0 (lay : zm_Lay) (σ : zm_Sig) (r0 : Nat) (i1 : Int32) (i2 : Int32) : zm_blk zM zp_17 (some .boolean) 0 0 zc_17 17 (zp_17.drop 0) (0, [(0, .ref r0), (1, .int i1), (2, .int i2)], [], lay, σ, 0, 0) = zb_17_0 lay σ r0 i1 i2 := rfl
/-! SubgroupWriter$Shelf.read(II)I -/
noncomputable def zb_18_0 (lay : zm_Lay) (σ : zm_Sig) (r0 : Nat) (i1 : Int32) (i2 : Int32) : Option (zm_St ⊕ zm_Out) :=
  (zm_is lay r0 5).bind fun _ => (zm_ai (zM 17 [.ref r0, .int i1, .int i2] lay σ)).bind fun q1 =>
  if q1.1 = 0 then (some (.inr (some (.int 0), q1.2.1, q1.2.2)))
  else ((zm_is q1.2.1 r0 5).bind fun _ =>
   zm_opt (q1.2.2.2.2 r0 0) (fun q2 =>
   (zm_gR q1.2.1 q1.2.2 q2 i1).bind fun o3 => zm_opt o3 (fun q4 =>
   (zm_gI q1.2.1 q1.2.2 q4 i2).bind fun v5 =>
   some (.inr (some (.int v5), q1.2.1, q1.2.2))) (none)) (none))
set_option maxRecDepth 100000 in
theorem zr_18_0 (lay : zm_Lay) (σ : zm_Sig) (r0 : Nat) (i1 : Int32) (i2 : Int32) : zm_blk zM zp_18 (some .int) 0 0 zc_18 15 (zp_18.drop 0) (0, [(0, .ref r0), (1, .int i1), (2, .int i2)], [], lay, σ, 0, 0) = zb_18_0 lay σ r0 i1 i2 := rfl
/-! SubgroupWriter$Shelf.write(III)V -/
noncomputable def zb_19_0 (lay : zm_Lay) (σ : zm_Sig) (r0 : Nat) (i1 : Int32) (i2 : Int32) (i3 : Int32) : Option (zm_St ⊕ zm_Out) :=
  (zm_is lay r0 5).bind fun _ => (zm_ai (zM 17 [.ref r0, .int i1, .int i2] lay σ)).bind fun q1 =>
  if q1.1 = 0 then (some (.inr (none, q1.2.1, q1.2.2)))
  else ((zm_is q1.2.1 r0 5).bind fun _ =>
   zm_opt (q1.2.2.2.2 r0 0) (fun q2 =>
   (zm_gR q1.2.1 q1.2.2 q2 i1).bind fun o3 => zm_opt o3 (fun q4 =>
   (zm_sI q1.2.1 q1.2.2 q4 i2 i3).bind fun s5 =>
   some (.inr (none, q1.2.1, s5))) (none)) (none))
set_option maxRecDepth 100000 in
theorem zr_19_0 (lay : zm_Lay) (σ : zm_Sig) (r0 : Nat) (i1 : Int32) (i2 : Int32) (i3 : Int32) : zm_blk zM zp_19 none 0 0 zc_19 14 (zp_19.drop 0) (0, [(0, .ref r0), (1, .int i1), (2, .int i2), (3, .int i3)], [], lay, σ, 0, 0) = zb_19_0 lay σ r0 i1 i2 i3 := rfl
/-! SubgroupWriter.told(I)I -/
noncomputable def zb_20_0 (lay : zm_Lay) (σ : zm_Sig) (r0 : Nat) (i1 : Int32) : Option (zm_St ⊕ zm_Out) :=
  (zm_is lay r0 9).bind fun _ => (zm_fw σ r0 13 0 (.int i1)).bind fun s1 =>
  some (.inr (some (.int 1), lay, s1))
set_option maxRecDepth 100000 in
theorem zr_20_0 (lay : zm_Lay) (σ : zm_Sig) (r0 : Nat) (i1 : Int32) : zm_blk zM zp_20 (some .int) 0 0 zc_20 6 (zp_20.drop 0) (0, [(0, .ref r0), (1, .int i1)], [], lay, σ, 0, 0) = zb_20_0 lay σ r0 i1 := rfl
/-! SubgroupWriter.at(II)I -/
noncomputable def zb_21_0 (lay : zm_Lay) (σ : zm_Sig) (r0 : Nat) (i1 : Int32) (i2 : Int32) : Option (zm_St ⊕ zm_Out) :=
  (zm_is lay r0 9).bind fun _ =>
  zm_opt (σ.2.2 r0 0) (fun q1 =>
  (zm_is lay q1 5).bind fun _ => (zm_ai (zM 12 [.ref q1, .int i1] lay σ)).bind fun q2 =>
  if ¬ q2.1 = 0 then ((zm_is q2.2.1 r0 9).bind fun _ =>
   zm_opt (q2.2.2.2.2 r0 0) (fun q3 =>
   (zm_is q2.2.1 q3 5).bind fun _ => (zm_ai (zM 16 [.ref q3, .int i1] q2.2.1 q2.2.2)).bind fun q4 =>
   if q4.1 = 0 then ((zm_is q4.2.1 r0 9).bind fun _ =>
    zm_opt (q4.2.2.2.2 r0 0) (fun q5 =>
    (zm_is q4.2.1 q5 5).bind fun _ => (zm_ai (zM 17 [.ref q5, .int i1, .int i2] q4.2.1 q4.2.2)).bind fun q6 =>
    if ¬ q6.1 = 0 then ((zm_is q6.2.1 r0 9).bind fun _ =>
     zm_opt (q6.2.2.2.2 r0 0) (fun q7 =>
     (zm_is q6.2.1 q7 5).bind fun _ => (zm_ai (zM 18 [.ref q7, .int i1, .int i2] q6.2.1 q6.2.2)).bind fun q8 =>
     (zm_is q8.2.1 r0 9).bind fun _ => (zm_ai (zM 20 [.ref r0, .int q8.1] q8.2.1 q8.2.2)).bind fun q9 =>
     some (.inr (some (.int q9.1), q9.2.1, q9.2.2))) (none))
    else ((zm_is q6.2.1 r0 9).bind fun _ => (zm_ai (zM 13 [.ref r0, .int 2] q6.2.1 q6.2.2)).bind fun q10 =>
     some (.inr (some (.int q10.1), q10.2.1, q10.2.2)))) (none))
   else ((zm_is q4.2.1 r0 9).bind fun _ => (zm_ai (zM 13 [.ref r0, .int 1] q4.2.1 q4.2.2)).bind fun q11 =>
    some (.inr (some (.int q11.1), q11.2.1, q11.2.2)))) (none))
  else (some (.inr (some (.int (-1)), q2.2.1, q2.2.2)))) (none)
set_option maxRecDepth 100000 in
theorem zr_21_0 (lay : zm_Lay) (σ : zm_Sig) (r0 : Nat) (i1 : Int32) (i2 : Int32) : zm_blk zM zp_21 (some .int) 0 0 zc_21 35 (zp_21.drop 0) (0, [(0, .ref r0), (1, .int i1), (2, .int i2)], [], lay, σ, 0, 0) = zb_21_0 lay σ r0 i1 i2 := rfl
/-! SubgroupWriter.tear(I)I -/
noncomputable def zb_22_0 (lay : zm_Lay) (σ : zm_Sig) (r0 : Nat) (i1 : Int32) : Option (zm_St ⊕ zm_Out) :=
  (zm_is lay r0 9).bind fun _ =>
  zm_opt (σ.2.2 r0 0) (fun q1 =>
  (zm_is lay q1 5).bind fun _ => (zm_ai (zM 12 [.ref q1, .int i1] lay σ)).bind fun q2 =>
  if ¬ q2.1 = 0 then ((zm_is q2.2.1 r0 9).bind fun _ =>
   zm_opt (q2.2.2.2.2 r0 0) (fun q3 =>
   (zm_is q2.2.1 q3 5).bind fun _ => (zm_ai (zM 16 [.ref q3, .int i1] q2.2.1 q2.2.2)).bind fun q4 =>
   if q4.1 = 0 then ((zm_is q4.2.1 r0 9).bind fun _ =>
    zm_opt (q4.2.2.2.2 r0 0) (fun q5 =>
    (zm_is q4.2.1 q5 5).bind fun _ => (zm_av (zM 23 [.ref q5, .int i1] q4.2.1 q4.2.2)).bind fun q6 =>
    some (.inr (some (.int 1), q6.1, q6.2))) (none))
   else ((zm_is q4.2.1 r0 9).bind fun _ => (zm_ai (zM 13 [.ref r0, .int 1] q4.2.1 q4.2.2)).bind fun q7 =>
    some (.inr (some (.int q7.1), q7.2.1, q7.2.2)))) (none))
  else (some (.inr (some (.int (-1)), q2.2.1, q2.2.2)))) (none)
set_option maxRecDepth 100000 in
theorem zr_22_0 (lay : zm_Lay) (σ : zm_Sig) (r0 : Nat) (i1 : Int32) : zm_blk zM zp_22 (some .int) 0 0 zc_22 23 (zp_22.drop 0) (0, [(0, .ref r0), (1, .int i1)], [], lay, σ, 0, 0) = zb_22_0 lay σ r0 i1 := rfl
/-! SubgroupWriter$Shelf.remove(I)V -/
noncomputable def zb_23_0 (lay : zm_Lay) (σ : zm_Sig) (r0 : Nat) (i1 : Int32) : Option (zm_St ⊕ zm_Out) :=
  (zm_is lay r0 5).bind fun _ => (zm_ai (zM 12 [.ref r0, .int i1] lay σ)).bind fun q1 =>
  if q1.1 = 0 then (some (.inr (none, q1.2.1, q1.2.2)))
  else ((zm_is q1.2.1 r0 5).bind fun _ =>
   zm_opt (q1.2.2.2.2 r0 1) (fun q2 =>
   (zm_sI q1.2.1 q1.2.2 q2 i1 (-1)).bind fun s3 =>
   some (.inr (none, q1.2.1, s3))) (none))
set_option maxRecDepth 100000 in
theorem zr_23_0 (lay : zm_Lay) (σ : zm_Sig) (r0 : Nat) (i1 : Int32) : zm_blk zM zp_23 none 0 0 zc_23 11 (zp_23.drop 0) (0, [(0, .ref r0), (1, .int i1)], [], lay, σ, 0, 0) = zb_23_0 lay σ r0 i1 := rfl
/-! SubgroupWriter.copy(IIIII)I -/
noncomputable def zb_24_0 (lay : zm_Lay) (σ : zm_Sig) (r0 : Nat) (i1 : Int32) (i2 : Int32) (i3 : Int32) (i4 : Int32) (i5 : Int32) : Option (zm_St ⊕ zm_Out) :=
  (zm_is lay r0 9).bind fun _ =>
  zm_opt (σ.2.2 r0 0) (fun q1 =>
  (zm_is lay q1 5).bind fun _ => (zm_ai (zM 12 [.ref q1, .int i1] lay σ)).bind fun q2 =>
  if q2.1 = 0 then (some (.inr (some (.int (-1)), q2.2.1, q2.2.2)))
  else ((zm_is q2.2.1 r0 9).bind fun _ =>
   zm_opt (q2.2.2.2.2 r0 0) (fun q3 =>
   (zm_is q2.2.1 q3 5).bind fun _ => (zm_ai (zM 12 [.ref q3, .int i3] q2.2.1 q2.2.2)).bind fun q4 =>
   if ¬ q4.1 = 0 then (if (0 : Int32) ≤ i5 then ((zm_is q4.2.1 r0 9).bind fun _ =>
     zm_opt (q4.2.2.2.2 r0 0) (fun q5 =>
     (zm_is q4.2.1 q5 5).bind fun _ => (zm_ai (zM 16 [.ref q5, .int i1] q4.2.1 q4.2.2)).bind fun q6 =>
     if ¬ q6.1 = 0 then ((zm_is q6.2.1 r0 9).bind fun _ => (zm_ai (zM 13 [.ref r0, .int 1] q6.2.1 q6.2.2)).bind fun q7 =>
      some (.inr (some (.int q7.1), q7.2.1, q7.2.2)))
     else ((zm_is q6.2.1 r0 9).bind fun _ =>
      zm_opt (q6.2.2.2.2 r0 0) (fun q8 =>
      (zm_is q6.2.1 q8 5).bind fun _ => (zm_ai (zM 16 [.ref q8, .int i3] q6.2.1 q6.2.2)).bind fun q9 =>
      if q9.1 = 0 then ((zm_is q9.2.1 r0 9).bind fun _ =>
       zm_opt (q9.2.2.2.2 r0 0) (fun q10 =>
       (zm_is q9.2.1 q10 5).bind fun _ => (zm_ai (zM 25 [.ref q10, .int i1, .int i2, .int i5] q9.2.1 q9.2.2)).bind fun q11 =>
       if q11.1 = 0 then ((zm_is q11.2.1 r0 9).bind fun _ => (zm_ai (zM 13 [.ref r0, .int 2] q11.2.1 q11.2.2)).bind fun q12 =>
        some (.inr (some (.int q12.1), q12.2.1, q12.2.2)))
       else ((zm_is q11.2.1 r0 9).bind fun _ =>
        zm_opt (q11.2.2.2.2 r0 0) (fun q13 =>
        (zm_is q11.2.1 q13 5).bind fun _ => (zm_ai (zM 25 [.ref q13, .int i3, .int i4, .int i5] q11.2.1 q11.2.2)).bind fun q14 =>
        if ¬ q14.1 = 0 then ((zm_is q14.2.1 r0 9).bind fun _ =>
         zm_opt (q14.2.2.2.2 r0 0) (fun q15 =>
         (zm_is q14.2.1 q15 5).bind fun _ => (zm_av (zM 26 [.ref q15, .int i1, .int i2, .int i3, .int i4, .int i5] q14.2.1 q14.2.2)).bind fun q16 =>
         some (.inr (some (.int 1), q16.1, q16.2))) (none))
        else ((zm_is q14.2.1 r0 9).bind fun _ => (zm_ai (zM 13 [.ref r0, .int 2] q14.2.1 q14.2.2)).bind fun q17 =>
         some (.inr (some (.int q17.1), q17.2.1, q17.2.2)))) (none))) (none))
      else ((zm_is q9.2.1 r0 9).bind fun _ => (zm_ai (zM 13 [.ref r0, .int 1] q9.2.1 q9.2.2)).bind fun q18 =>
       some (.inr (some (.int q18.1), q18.2.1, q18.2.2)))) (none))) (none))
    else ((zm_is q4.2.1 r0 9).bind fun _ => (zm_ai (zM 13 [.ref r0, .int 5] q4.2.1 q4.2.2)).bind fun q19 =>
     some (.inr (some (.int q19.1), q19.2.1, q19.2.2))))
   else (some (.inr (some (.int (-1)), q4.2.1, q4.2.2)))) (none))) (none)
set_option maxRecDepth 100000 in
theorem zr_24_0 (lay : zm_Lay) (σ : zm_Sig) (r0 : Nat) (i1 : Int32) (i2 : Int32) (i3 : Int32) (i4 : Int32) (i5 : Int32) : zm_blk zM zp_24 (some .int) 0 0 zc_24 61 (zp_24.drop 0) (0, [(0, .ref r0), (1, .int i1), (2, .int i2), (3, .int i3), (4, .int i4), (5, .int i5)], [], lay, σ, 0, 0) = zb_24_0 lay σ r0 i1 i2 i3 i4 i5 := rfl
/-! SubgroupWriter$Shelf.hasPlaces(III)Z -/
noncomputable def zb_25_0 (lay : zm_Lay) (σ : zm_Sig) (r0 : Nat) (i1 : Int32) (i2 : Int32) (i3 : Int32) : Option (zm_St ⊕ zm_Out) :=
  (zm_is lay r0 5).bind fun _ => (zm_ai (zM 16 [.ref r0, .int i1] lay σ)).bind fun q1 =>
  if ¬ q1.1 = 0 then (some (.inr (some (.int 0), q1.2.1, q1.2.2)))
  else (if i2 < 0 then (some (.inr (some (.int 0), q1.2.1, q1.2.2)))
   else ((zm_is q1.2.1 r0 5).bind fun _ =>
    zm_opt (q1.2.2.2.2 r0 1) (fun q2 =>
    (zm_gI q1.2.1 q1.2.2 q2 i1).bind fun v3 =>
    if v3 < i2 then (some (.inr (some (.int 0), q1.2.1, q1.2.2)))
    else (if i3 < 0 then (some (.inr (some (.int 0), q1.2.1, q1.2.2)))
     else ((zm_is q1.2.1 r0 5).bind fun _ =>
      zm_opt (q1.2.2.2.2 r0 1) (fun q4 =>
      (zm_gI q1.2.1 q1.2.2 q4 i1).bind fun v5 =>
      if (v5 - i2) < i3 then (some (.inr (some (.int 0), q1.2.1, q1.2.2)))
      else (some (.inr (some (.int 1), q1.2.1, q1.2.2)))) (none)))) (none)))
set_option maxRecDepth 100000 in
theorem zr_25_0 (lay : zm_Lay) (σ : zm_Sig) (r0 : Nat) (i1 : Int32) (i2 : Int32) (i3 : Int32) : zm_blk zM zp_25 (some .boolean) 0 0 zc_25 27 (zp_25.drop 0) (0, [(0, .ref r0), (1, .int i1), (2, .int i2), (3, .int i3)], [], lay, σ, 0, 0) = zb_25_0 lay σ r0 i1 i2 i3 := rfl
/-! SubgroupWriter$Shelf.move(IIIII)V -/
noncomputable def zb_26_0 (lay : zm_Lay) (σ : zm_Sig) (r0 : Nat) (i1 : Int32) (i2 : Int32) (i3 : Int32) (i4 : Int32) (i5 : Int32) : Option (zm_St ⊕ zm_Out) :=
  (zm_is lay r0 5).bind fun _ => (zm_ai (zM 25 [.ref r0, .int i1, .int i2, .int i5] lay σ)).bind fun q1 =>
  if q1.1 = 0 then (some (.inr (none, q1.2.1, q1.2.2)))
  else ((zm_is q1.2.1 r0 5).bind fun _ => (zm_ai (zM 25 [.ref r0, .int i3, .int i4, .int i5] q1.2.1 q1.2.2)).bind fun q2 =>
   if q2.1 = 0 then (some (.inr (none, q2.2.1, q2.2.2)))
   else ((zm_is q2.2.1 r0 5).bind fun _ =>
    zm_opt (q2.2.2.2.2 r0 0) (fun q3 =>
    (zm_gR q2.2.1 q2.2.2 q3 i1).bind fun o4 => zm_opt o4 (fun q5 =>
    (zm_is q2.2.1 r0 5).bind fun _ =>
    zm_opt (q2.2.2.2.2 r0 0) (fun q6 =>
    (zm_gR q2.2.1 q2.2.2 q6 i3).bind fun o7 => zm_opt o7 (fun q8 =>
    (zm_cpy q2.2.1 q2.2.2 q5 i2 q8 i4 i5).bind fun s9 =>
    some (.inr (none, q2.2.1, s9))) (none)) (none)) ((zm_is q2.2.1 r0 5).bind fun _ =>
    zm_opt (q2.2.2.2.2 r0 0) (fun q10 =>
    (zm_gR q2.2.1 q2.2.2 q10 i3).bind fun o11 => zm_opt o11 (fun q12 =>
    none) (none)) (none))) (none)))
set_option maxRecDepth 100000 in
theorem zr_26_0 (lay : zm_Lay) (σ : zm_Sig) (r0 : Nat) (i1 : Int32) (i2 : Int32) (i3 : Int32) (i4 : Int32) (i5 : Int32) : zm_blk zM zp_26 none 0 0 zc_26 26 (zp_26.drop 0) (0, [(0, .ref r0), (1, .int i1), (2, .int i2), (3, .int i3), (4, .int i4), (5, .int i5)], [], lay, σ, 0, 0) = zb_26_0 lay σ r0 i1 i2 i3 i4 i5 := rfl
/-! SubgroupWriter.mean(I)I -/
noncomputable def zb_27_0 (lay : zm_Lay) (σ : zm_Sig) (r0 : Nat) (i1 : Int32) : Option (zm_St ⊕ zm_Out) :=
  (zm_is lay r0 9).bind fun _ =>
  zm_opt (σ.2.2 r0 0) (fun q1 =>
  (zm_is lay q1 5).bind fun _ => (zm_ai (zM 12 [.ref q1, .int i1] lay σ)).bind fun q2 =>
  if ¬ q2.1 = 0 then ((zm_is q2.2.1 r0 9).bind fun _ =>
   zm_opt (q2.2.2.2.2 r0 0) (fun q3 =>
   (zm_is q2.2.1 q3 5).bind fun _ => (zm_ai (zM 16 [.ref q3, .int i1] q2.2.1 q2.2.2)).bind fun q4 =>
   if q4.1 = 0 then ((zm_is q4.2.1 r0 9).bind fun _ =>
    zm_opt (q4.2.2.2.2 r0 0) (fun q5 =>
    (zm_is q4.2.1 q5 5).bind fun _ => (zm_ai (zM 28 [.ref q5, .int i1] q4.2.1 q4.2.2)).bind fun q6 =>
    if (0 : Int32) < q6.1 then ((zm_is q6.2.1 r0 9).bind fun _ =>
     zm_opt (q6.2.2.2.2 r0 0) (fun q7 =>
     (zm_is q6.2.1 q7 5).bind fun _ => (zm_al (zM 29 [.ref q7, .int i1] q6.2.1 q6.2.2)).bind fun q8 =>
     if (q6.1 : Int32).toInt64 = 0 then none
     else ((zm_is q8.2.1 r0 9).bind fun _ => (zm_ai (zM 20 [.ref r0, .int ((q8.1 / (q6.1 : Int32).toInt64) : Int64).toInt32] q8.2.1 q8.2.2)).bind fun q9 =>
     some (.inr (some (.int q9.1), q9.2.1, q9.2.2)))) (none))
    else ((zm_is q6.2.1 r0 9).bind fun _ => (zm_ai (zM 13 [.ref r0, .int 4] q6.2.1 q6.2.2)).bind fun q10 =>
     some (.inr (some (.int q10.1), q10.2.1, q10.2.2)))) (none))
   else ((zm_is q4.2.1 r0 9).bind fun _ => (zm_ai (zM 13 [.ref r0, .int 1] q4.2.1 q4.2.2)).bind fun q11 =>
    some (.inr (some (.int q11.1), q11.2.1, q11.2.2)))) (none))
  else (some (.inr (some (.int (-1)), q2.2.1, q2.2.2)))) (none)
set_option maxRecDepth 100000 in
theorem zr_27_0 (lay : zm_Lay) (σ : zm_Sig) (r0 : Nat) (i1 : Int32) : zm_blk zM zp_27 (some .int) 0 0 zc_27 39 (zp_27.drop 0) (0, [(0, .ref r0), (1, .int i1)], [], lay, σ, 0, 0) = zb_27_0 lay σ r0 i1 := rfl
/-! SubgroupWriter$Shelf.sizeOf(I)I -/
noncomputable def zb_28_0 (lay : zm_Lay) (σ : zm_Sig) (r0 : Nat) (i1 : Int32) : Option (zm_St ⊕ zm_Out) :=
  (zm_is lay r0 5).bind fun _ => (zm_ai (zM 12 [.ref r0, .int i1] lay σ)).bind fun q1 =>
  if q1.1 = 0 then (some (.inr (some (.int (-1)), q1.2.1, q1.2.2)))
  else ((zm_is q1.2.1 r0 5).bind fun _ =>
   zm_opt (q1.2.2.2.2 r0 1) (fun q2 =>
   (zm_gI q1.2.1 q1.2.2 q2 i1).bind fun v3 =>
   some (.inr (some (.int v3), q1.2.1, q1.2.2))) (none))
set_option maxRecDepth 100000 in
theorem zr_28_0 (lay : zm_Lay) (σ : zm_Sig) (r0 : Nat) (i1 : Int32) : zm_blk zM zp_28 (some .int) 0 0 zc_28 12 (zp_28.drop 0) (0, [(0, .ref r0), (1, .int i1)], [], lay, σ, 0, 0) = zb_28_0 lay σ r0 i1 := rfl
/-! SubgroupWriter$Shelf.sum(I)J -/
noncomputable def zb_29_0 (lay : zm_Lay) (σ : zm_Sig) (r0 : Nat) (i1 : Int32) : Option (zm_St ⊕ zm_Out) :=
  some (.inl (5, [(0, .ref r0), (1, .int i1), (2, .long (Int64.ofNat 0)), (4, .int 0)], [], lay, σ, 0, 0))
set_option maxRecDepth 100000 in
theorem zr_29_0 (lay : zm_Lay) (σ : zm_Sig) (r0 : Nat) (i1 : Int32) : zm_blk zM zp_29 (some .long) 0 0 zc_29 24 (zp_29.drop 0) (0, [(0, .ref r0), (1, .int i1)], [], lay, σ, 0, 0) = zb_29_0 lay σ r0 i1 := rfl
noncomputable def zb_29_5 (lay : zm_Lay) (σ : zm_Sig) (r0 : Nat) (i1 : Int32) (l2 : Int64) (i4 : Int32) : Option (zm_St ⊕ zm_Out) :=
  (zm_is lay r0 5).bind fun _ => (zm_ai (zM 28 [.ref r0, .int i1] lay σ)).bind fun q1 =>
  if q1.1 ≤ i4 then (some (.inr (some (.long l2), q1.2.1, q1.2.2)))
  else ((zm_is q1.2.1 r0 5).bind fun _ =>
   zm_opt (q1.2.2.2.2 r0 0) (fun q2 =>
   (zm_gR q1.2.1 q1.2.2 q2 i1).bind fun o3 => zm_opt o3 (fun q4 =>
   (zm_gI q1.2.1 q1.2.2 q4 i4).bind fun v5 =>
   some (.inl (5, [(0, .ref r0), (1, .int i1), (2, .long (l2 + (v5 : Int32).toInt64)), (4, .int (i4 + 1))], [], q1.2.1, q1.2.2, 0, 0))) (none)) (none))
set_option maxRecDepth 100000 in
theorem zr_29_5 (lay : zm_Lay) (σ : zm_Sig) (r0 : Nat) (i1 : Int32) (l2 : Int64) (i4 : Int32) : zm_blk zM zp_29 (some .long) 0 0 zc_29 24 (zp_29.drop 4) (5, [(0, .ref r0), (1, .int i1), (2, .long l2), (4, .int i4)], [], lay, σ, 0, 0) = zb_29_5 lay σ r0 i1 l2 i4 := rfl
/-! SubgroupWriter.text(II)I -/
noncomputable def zb_30_0 (lay : zm_Lay) (σ : zm_Sig) (r0 : Nat) (i1 : Int32) (i2 : Int32) : Option (zm_St ⊕ zm_Out) :=
  (zm_is lay r0 9).bind fun _ =>
  zm_opt (σ.2.2 r0 1) (fun q1 =>
  (zm_is lay q1 5).bind fun _ => (zm_ai (zM 12 [.ref q1, .int i1] lay σ)).bind fun q2 =>
  if q2.1 = 0 then (some (.inr (some (.int (-1)), q2.2.1, q2.2.2)))
  else (if i2 ≤ 60 then (if (0 : Int32) ≤ i2 then ((zm_is q2.2.1 r0 9).bind fun _ =>
     zm_opt (q2.2.2.2.2 r0 1) (fun q3 =>
     (zm_is q2.2.1 q3 5).bind fun _ => (zm_av (zM 14 [.ref q3, .int i1, .int i2, .int 32] q2.2.1 q2.2.2)).bind fun q4 =>
     some (.inr (some (.int i2), q4.1, q4.2))) (none))
    else ((zm_is q2.2.1 r0 9).bind fun _ => (zm_ai (zM 13 [.ref r0, .int 5] q2.2.1 q2.2.2)).bind fun q5 =>
     some (.inr (some (.int q5.1), q5.2.1, q5.2.2))))
   else (some (.inr (some (.int (-1)), q2.2.1, q2.2.2))))) (none)
set_option maxRecDepth 100000 in
theorem zr_30_0 (lay : zm_Lay) (σ : zm_Sig) (r0 : Nat) (i1 : Int32) (i2 : Int32) : zm_blk zM zp_30 (some .int) 0 0 zc_30 25 (zp_30.drop 0) (0, [(0, .ref r0), (1, .int i1), (2, .int i2)], [], lay, σ, 0, 0) = zb_30_0 lay σ r0 i1 i2 := rfl
/-! SubgroupWriter.put(III)I -/
noncomputable def zb_31_0 (lay : zm_Lay) (σ : zm_Sig) (r0 : Nat) (i1 : Int32) (i2 : Int32) (i3 : Int32) : Option (zm_St ⊕ zm_Out) :=
  (zm_is lay r0 9).bind fun _ =>
  zm_opt (σ.2.2 r0 1) (fun q1 =>
  (zm_is lay q1 5).bind fun _ => (zm_ai (zM 12 [.ref q1, .int i1] lay σ)).bind fun q2 =>
  if ¬ q2.1 = 0 then ((zm_is q2.2.1 r0 9).bind fun _ =>
   zm_opt (q2.2.2.2.2 r0 1) (fun q3 =>
   (zm_is q2.2.1 q3 5).bind fun _ => (zm_ai (zM 16 [.ref q3, .int i1] q2.2.1 q2.2.2)).bind fun q4 =>
   if q4.1 = 0 then ((zm_is q4.2.1 r0 9).bind fun _ =>
    zm_opt (q4.2.2.2.2 r0 1) (fun q5 =>
    (zm_is q4.2.1 q5 5).bind fun _ => (zm_ai (zM 17 [.ref q5, .int i1, .int i2] q4.2.1 q4.2.2)).bind fun q6 =>
    if ¬ q6.1 = 0 then ((zm_is q6.2.1 r0 9).bind fun _ =>
     zm_opt (q6.2.2.2.2 r0 1) (fun q7 =>
     (zm_is q6.2.1 q7 5).bind fun _ => (zm_ai (zM 18 [.ref q7, .int i1, .int i2] q6.2.1 q6.2.2)).bind fun q8 =>
     (zm_is q8.2.1 r0 9).bind fun _ =>
     zm_opt (q8.2.2.2.2 r0 1) (fun q9 =>
     (zm_is q8.2.1 q9 5).bind fun _ => (zm_av (zM 19 [.ref q9, .int i1, .int i2, .int (i3 : Int32).toInt8.toInt32] q8.2.1 q8.2.2)).bind fun q10 =>
     some (.inr (some (.int (q8.1 + 1000)), q10.1, q10.2))) (none)) (none))
    else ((zm_is q6.2.1 r0 9).bind fun _ => (zm_ai (zM 13 [.ref r0, .int 2] q6.2.1 q6.2.2)).bind fun q11 =>
     some (.inr (some (.int q11.1), q11.2.1, q11.2.2)))) (none))
   else ((zm_is q4.2.1 r0 9).bind fun _ => (zm_ai (zM 13 [.ref r0, .int 1] q4.2.1 q4.2.2)).bind fun q12 =>
    some (.inr (some (.int q12.1), q12.2.1, q12.2.2)))) (none))
  else (some (.inr (some (.int (-1)), q2.2.1, q2.2.2)))) (none)
set_option maxRecDepth 100000 in
theorem zr_31_0 (lay : zm_Lay) (σ : zm_Sig) (r0 : Nat) (i1 : Int32) (i2 : Int32) (i3 : Int32) : zm_blk zM zp_31 (some .int) 0 0 zc_31 44 (zp_31.drop 0) (0, [(0, .ref r0), (1, .int i1), (2, .int i2), (3, .int i3)], [], lay, σ, 0, 0) = zb_31_0 lay σ r0 i1 i2 i3 := rfl
/-! SubgroupWriter.fault(I)I -/
noncomputable def zb_32_0 (lay : zm_Lay) (σ : zm_Sig) (r0 : Nat) (i1 : Int32) : Option (zm_St ⊕ zm_Out) :=
  (zm_is lay r0 9).bind fun _ =>
  zm_opt (σ.2.2 r0 1) (fun q1 =>
  (zm_is lay q1 5).bind fun _ => (zm_ai (zM 12 [.ref q1, .int i1] lay σ)).bind fun q2 =>
  if ¬ q2.1 = 0 then ((zm_is q2.2.1 r0 9).bind fun _ =>
   zm_opt (q2.2.2.2.2 r0 1) (fun q3 =>
   (zm_is q2.2.1 q3 5).bind fun _ => (zm_ai (zM 16 [.ref q3, .int i1] q2.2.1 q2.2.2)).bind fun q4 =>
   if q4.1 = 0 then ((zm_is q4.2.1 r0 9).bind fun _ =>
    zm_opt (q4.2.2.2.2 r0 2) (fun q5 =>
    (zm_is q4.2.1 r0 9).bind fun _ =>
    zm_opt (q4.2.2.2.2 r0 1) (fun q6 =>
    (zm_is q4.2.1 r0 9).bind fun _ =>
    zm_opt (q4.2.2.2.2 r0 12) (fun q7 =>
    (zm_is q4.2.1 q5 3).bind fun _ => (zm_ai (zM 33 [.ref q5, .ref q6, .int i1, .ref q7] q4.2.1 q4.2.2)).bind fun q8 =>
    some (.inr (some (.int q8.1), q8.2.1, q8.2.2))) ((zm_is q4.2.1 q5 3).bind fun _ => (zm_ai (zM 33 [.ref q5, .ref q6, .int i1, .null] q4.2.1 q4.2.2)).bind fun q9 =>
    some (.inr (some (.int q9.1), q9.2.1, q9.2.2)))) ((zm_is q4.2.1 r0 9).bind fun _ =>
    zm_opt (q4.2.2.2.2 r0 12) (fun q10 =>
    (zm_is q4.2.1 q5 3).bind fun _ => (zm_ai (zM 33 [.ref q5, .null, .int i1, .ref q10] q4.2.1 q4.2.2)).bind fun q11 =>
    some (.inr (some (.int q11.1), q11.2.1, q11.2.2))) ((zm_is q4.2.1 q5 3).bind fun _ => (zm_ai (zM 33 [.ref q5, .null, .int i1, .null] q4.2.1 q4.2.2)).bind fun q12 =>
    some (.inr (some (.int q12.1), q12.2.1, q12.2.2))))) ((zm_is q4.2.1 r0 9).bind fun _ =>
    zm_opt (q4.2.2.2.2 r0 1) (fun q13 =>
    (zm_is q4.2.1 r0 9).bind fun _ =>
    zm_opt (q4.2.2.2.2 r0 12) (fun q14 =>
    none) (none)) ((zm_is q4.2.1 r0 9).bind fun _ =>
    zm_opt (q4.2.2.2.2 r0 12) (fun q15 =>
    none) (none))))
   else ((zm_is q4.2.1 r0 9).bind fun _ => (zm_ai (zM 13 [.ref r0, .int 1] q4.2.1 q4.2.2)).bind fun q16 =>
    some (.inr (some (.int q16.1), q16.2.1, q16.2.2)))) (none))
  else (some (.inr (some (.int (-1)), q2.2.1, q2.2.2)))) (none)
set_option maxRecDepth 100000 in
theorem zr_32_0 (lay : zm_Lay) (σ : zm_Sig) (r0 : Nat) (i1 : Int32) : zm_blk zM zp_32 (some .int) 0 0 zc_32 26 (zp_32.drop 0) (0, [(0, .ref r0), (1, .int i1)], [], lay, σ, 0, 0) = zb_32_0 lay σ r0 i1 := rfl
/-! SubgroupWriter$Reader.readGroup(LSubgroupWriter$Shelf;ILSubgroupWriter$Group;)I -/
noncomputable def zb_33_0 (lay : zm_Lay) (σ : zm_Sig) (r0 : Nat) (r1 : Nat) (i2 : Int32) (r3 : Nat) : Option (zm_St ⊕ zm_Out) :=
  (zm_is lay r1 5).bind fun _ => (zm_ai (zM 28 [.ref r1, .int i2] lay σ)).bind fun q1 =>
  (zm_ai (zM 34 [.int 60, .int q1.1] q1.2.1 q1.2.2)).bind fun q2 =>
  (zm_is q2.2.1 r0 3).bind fun _ => (zm_fw q2.2.2 r0 1 0 (.int q2.1)).bind fun s3 =>
  some (.inl (17, [(0, .ref r0), (1, .ref r1), (2, .int i2), (3, .ref r3), (4, .int 0)], [], q2.2.1, s3, 0, 0))
set_option maxRecDepth 100000 in
theorem zr_33_0 (lay : zm_Lay) (σ : zm_Sig) (r0 : Nat) (r1 : Nat) (i2 : Int32) (r3 : Nat) : zm_blk zM zp_33 (some .int) 0 0 zc_33 58 (zp_33.drop 0) (0, [(0, .ref r0), (1, .ref r1), (2, .int i2), (3, .ref r3)], [], lay, σ, 0, 0) = zb_33_0 lay σ r0 r1 i2 r3 := rfl
noncomputable def zb_33_17 (lay : zm_Lay) (σ : zm_Sig) (r0 : Nat) (r1 : Nat) (i2 : Int32) (r3 : Nat) (i4 : Int32) : Option (zm_St ⊕ zm_Out) :=
  (zm_is lay r0 3).bind fun _ =>
  if (σ.1 r0 1) ≤ i4 then ((zm_is lay r0 3).bind fun _ => (zm_fw σ r0 2 0 (.int 0)).bind fun s1 =>
   (zm_is lay r3 1).bind fun _ => (zm_av (zM 35 [.ref r3] lay s1)).bind fun q2 =>
   (zm_is q2.1 r0 3).bind fun _ => (zm_ai (zM 36 [.ref r0, .ref r3] q2.1 q2.2)).bind fun q3 =>
   if q3.1 = 0 then ((zm_is q3.2.1 r0 3).bind fun _ =>
    some (.inr (some (.int (q3.2.2.1 r0 2)), q3.2.1, q3.2.2)))
   else ((zm_is q3.2.1 r0 3).bind fun _ => (zm_ai (zM 42 [.ref r0, .ref r3] q3.2.1 q3.2.2)).bind fun q4 =>
    if ¬ q4.1 = 0 then ((zm_is q4.2.1 r0 3).bind fun _ => (zm_av (zM 37 [.ref r0] q4.2.1 q4.2.2)).bind fun q5 =>
     (zm_is q5.1 r0 3).bind fun _ =>
     (zm_is q5.1 r0 3).bind fun _ =>
     if (q5.2.1 r0 1) ≤ (q5.2.1 r0 2) then ((zm_is q5.1 r3 1).bind fun _ => (zm_ai (zM 48 [.ref r3] q5.1 q5.2)).bind fun q6 =>
      if q6.1 = 0 then ((zm_is q6.2.1 r0 3).bind fun _ =>
       some (.inr (some (.int (q6.2.2.1 r0 1)), q6.2.1, q6.2.2)))
      else (some (.inr (some (.int (-9)), q6.2.1, q6.2.2))))
     else ((zm_is q5.1 r0 3).bind fun _ =>
      some (.inr (some (.int (q5.2.1 r0 2)), q5.1, q5.2))))
    else ((zm_is q4.2.1 r0 3).bind fun _ =>
     some (.inr (some (.int (q4.2.2.1 r0 2)), q4.2.1, q4.2.2)))))
  else ((zm_is lay r0 3).bind fun _ =>
   zm_opt (σ.2.2 r0 0) (fun q7 =>
   (zm_is lay r1 5).bind fun _ => (zm_ai (zM 18 [.ref r1, .int i2, .int i4] lay σ)).bind fun q8 =>
   (zm_sI q8.2.1 q8.2.2 q7 i4 q8.1).bind fun s9 =>
   some (.inl (17, [(0, .ref r0), (1, .ref r1), (2, .int i2), (3, .ref r3), (4, .int (i4 + 1))], [], q8.2.1, s9, 0, 0))) ((zm_is lay r1 5).bind fun _ => (zm_ai (zM 18 [.ref r1, .int i2, .int i4] lay σ)).bind fun q10 =>
   none))
set_option maxRecDepth 100000 in
theorem zr_33_17 (lay : zm_Lay) (σ : zm_Sig) (r0 : Nat) (r1 : Nat) (i2 : Int32) (r3 : Nat) (i4 : Int32) : zm_blk zM zp_33 (some .int) 0 0 zc_33 58 (zp_33.drop 9) (17, [(0, .ref r0), (1, .ref r1), (2, .int i2), (3, .ref r3), (4, .int i4)], [], lay, σ, 0, 0) = zb_33_17 lay σ r0 r1 i2 r3 i4 := rfl
/-! java/lang/Math.min(II)I -/
noncomputable def zb_34_0 (lay : zm_Lay) (σ : zm_Sig) (i0 : Int32) (i1 : Int32) : Option (zm_St ⊕ zm_Out) :=
  if i1 < i0 then (some (.inr (some (.int i1), lay, σ)))
  else (some (.inr (some (.int i0), lay, σ)))
set_option maxRecDepth 100000 in
theorem zr_34_0 (lay : zm_Lay) (σ : zm_Sig) (i0 : Int32) (i1 : Int32) : zm_blk zM zp_34 (some .int) 0 0 zc_34 8 (zp_34.drop 0) (0, [(0, .int i0), (1, .int i1)], [], lay, σ, 0, 0) = zb_34_0 lay σ i0 i1 := rfl
/-! SubgroupWriter$Group.empty()V -/
noncomputable def zb_35_0 (lay : zm_Lay) (σ : zm_Sig) (r0 : Nat) : Option (zm_St ⊕ zm_Out) :=
  (zm_is lay r0 1).bind fun _ => (zm_fw σ r0 0 0 (.int 0)).bind fun s1 =>
  (zm_is lay r0 1).bind fun _ => (zm_fw s1 r0 1 0 (.int 0)).bind fun s2 =>
  (zm_is lay r0 1).bind fun _ => (zm_fw s2 r0 2 0 (.int 0)).bind fun s3 =>
  some (.inl (17, [(0, .ref r0), (1, .int 0)], [], lay, s3, 0, 0))
set_option maxRecDepth 100000 in
theorem zr_35_0 (lay : zm_Lay) (σ : zm_Sig) (r0 : Nat) : zm_blk zM zp_35 none 0 0 zc_35 24 (zp_35.drop 0) (0, [(0, .ref r0)], [], lay, σ, 0, 0) = zb_35_0 lay σ r0 := rfl
noncomputable def zb_35_17 (lay : zm_Lay) (σ : zm_Sig) (r0 : Nat) (i1 : Int32) : Option (zm_St ⊕ zm_Out) :=
  if (6 : Int32) ≤ i1 then (some (.inr (none, lay, σ)))
  else ((zm_is lay r0 1).bind fun _ =>
   zm_opt (σ.2.2 r0 3) (fun q1 =>
   (zm_gR lay σ q1 i1).bind fun o2 => zm_opt o2 (fun q3 =>
   (zm_av (zM 2 [.ref q3, .int (-1)] lay σ)).bind fun q4 =>
   some (.inl (17, [(0, .ref r0), (1, .int (i1 + 1))], [], q4.1, q4.2, 0, 0))) ((zm_av (zM 2 [.null, .int (-1)] lay σ)).bind fun q5 =>
   some (.inl (17, [(0, .ref r0), (1, .int (i1 + 1))], [], q5.1, q5.2, 0, 0)))) (none))
set_option maxRecDepth 100000 in
theorem zr_35_17 (lay : zm_Lay) (σ : zm_Sig) (r0 : Nat) (i1 : Int32) : zm_blk zM zp_35 none 0 0 zc_35 24 (zp_35.drop 11) (17, [(0, .ref r0), (1, .int i1)], [], lay, σ, 0, 0) = zb_35_17 lay σ r0 i1 := rfl
/-! SubgroupWriter$Reader.readGenerators(LSubgroupWriter$Group;)Z -/
noncomputable def zb_36_0 (lay : zm_Lay) (σ : zm_Sig) (r0 : Nat) (r1 : Nat) : Option (zm_St ⊕ zm_Out) :=
  some (.inl (2, [(0, .ref r0), (1, .ref r1), (2, .int 0)], [], lay, σ, 0, 0))
set_option maxRecDepth 100000 in
theorem zr_36_0 (lay : zm_Lay) (σ : zm_Sig) (r0 : Nat) (r1 : Nat) : zm_blk zM zp_36 (some .boolean) 0 0 zc_36 61 (zp_36.drop 0) (0, [(0, .ref r0), (1, .ref r1)], [], lay, σ, 0, 0) = zb_36_0 lay σ r0 r1 := rfl
noncomputable def zb_36_2 (lay : zm_Lay) (σ : zm_Sig) (r0 : Nat) (r1 : Nat) (i2 : Int32) : Option (zm_St ⊕ zm_Out) :=
  if (3 : Int32) ≤ i2 then (some (.inr (some (.int 1), lay, σ)))
  else ((zm_is lay r0 3).bind fun _ => (zm_av (zM 37 [.ref r0] lay σ)).bind fun q1 =>
   (zm_is q1.1 r0 3).bind fun _ => (zm_ai (zM 38 [.ref r0] q1.1 q1.2)).bind fun q2 =>
   if q2.1 = ((97 : Int32) + i2) then ((zm_is q2.2.1 r0 3).bind fun _ =>
    (zm_is q2.2.1 r0 3).bind fun _ => (zm_fw q2.2.2 r0 2 0 (.int ((q2.2.2.1 r0 2) + 1))).bind fun s3 =>
    if ¬ i2 = 0 then ((zm_is q2.2.1 r1 1).bind fun _ =>
     if (2 : Int32) ≤ (s3.1 r1 0) then ((zm_is q2.2.1 r0 3).bind fun _ => (zm_ai (zM 41 [.ref r0, .ref r1, .int i2] q2.2.1 s3)).bind fun q4 =>
      if ¬ q4.1 = 0 then ((zm_is q4.2.1 r1 1).bind fun _ => (zm_fw q4.2.2 r1 1 0 (.int (i2 + 1))).bind fun s5 =>
       some (.inl (2, [(0, .ref r0), (1, .ref r1), (2, .int (i2 + 1))], [], q4.2.1, s5, 0, 0)))
      else (some (.inr (some (.int 0), q4.2.1, q4.2.2))))
     else ((zm_is q2.2.1 r0 3).bind fun _ =>
      (zm_is q2.2.1 r1 1).bind fun _ =>
      (zm_is q2.2.1 r0 3).bind fun _ => (zm_fw s3 r0 2 0 (.int ((s3.1 r0 2) + (s3.1 r1 0)))).bind fun s6 =>
      some (.inr (some (.int 0), q2.2.1, s6))))
    else ((zm_is q2.2.1 r0 3).bind fun _ => (zm_ai (zM 39 [.ref r0] q2.2.1 s3)).bind fun q7 =>
     (zm_is q7.2.1 r1 1).bind fun _ => (zm_fw q7.2.2 r1 0 0 (.int q7.1)).bind fun s8 =>
     (zm_is q7.2.1 r1 1).bind fun _ =>
     if (2 : Int32) ≤ (s8.1 r1 0) then ((zm_is q7.2.1 r0 3).bind fun _ => (zm_ai (zM 41 [.ref r0, .ref r1, .int i2] q7.2.1 s8)).bind fun q9 =>
      if ¬ q9.1 = 0 then ((zm_is q9.2.1 r1 1).bind fun _ => (zm_fw q9.2.2 r1 1 0 (.int (i2 + 1))).bind fun s10 =>
       some (.inl (2, [(0, .ref r0), (1, .ref r1), (2, .int (i2 + 1))], [], q9.2.1, s10, 0, 0)))
      else (some (.inr (some (.int 0), q9.2.1, q9.2.2))))
     else ((zm_is q7.2.1 r0 3).bind fun _ =>
      (zm_is q7.2.1 r1 1).bind fun _ =>
      (zm_is q7.2.1 r0 3).bind fun _ => (zm_fw s8 r0 2 0 (.int ((s8.1 r0 2) + (s8.1 r1 0)))).bind fun s11 =>
      some (.inr (some (.int 0), q7.2.1, s11)))))
   else (if i2 ≤ 0 then (some (.inr (some (.int 0), q2.2.1, q2.2.2)))
    else (some (.inr (some (.int 1), q2.2.1, q2.2.2)))))
set_option maxRecDepth 100000 in
theorem zr_36_2 (lay : zm_Lay) (σ : zm_Sig) (r0 : Nat) (r1 : Nat) (i2 : Int32) : zm_blk zM zp_36 (some .boolean) 0 0 zc_36 61 (zp_36.drop 2) (2, [(0, .ref r0), (1, .ref r1), (2, .int i2)], [], lay, σ, 0, 0) = zb_36_2 lay σ r0 r1 i2 := rfl
/-! SubgroupWriter$Reader.skipBlanks()V -/
noncomputable def zb_37_0 (lay : zm_Lay) (σ : zm_Sig) (r0 : Nat) : Option (zm_St ⊕ zm_Out) :=
  (zm_is lay r0 3).bind fun _ =>
  (zm_is lay r0 3).bind fun _ =>
  if (σ.1 r0 1) ≤ (σ.1 r0 2) then (some (.inr (none, lay, σ)))
  else ((zm_is lay r0 3).bind fun _ => (zm_ai (zM 38 [.ref r0] lay σ)).bind fun q1 =>
   if ¬ q1.1 = 32 then (some (.inr (none, q1.2.1, q1.2.2)))
   else ((zm_is q1.2.1 r0 3).bind fun _ =>
    (zm_is q1.2.1 r0 3).bind fun _ => (zm_fw q1.2.2 r0 2 0 (.int ((q1.2.2.1 r0 2) + 1))).bind fun s2 =>
    some (.inl (0, [(0, .ref r0)], [], q1.2.1, s2, 0, 0))))
set_option maxRecDepth 100000 in
theorem zr_37_0 (lay : zm_Lay) (σ : zm_Sig) (r0 : Nat) : zm_blk zM zp_37 none 0 0 zc_37 18 (zp_37.drop 0) (0, [(0, .ref r0)], [], lay, σ, 0, 0) = zb_37_0 lay σ r0 := rfl
/-! SubgroupWriter$Reader.signHere()I -/
noncomputable def zb_38_0 (lay : zm_Lay) (σ : zm_Sig) (r0 : Nat) : Option (zm_St ⊕ zm_Out) :=
  (zm_is lay r0 3).bind fun _ =>
  if (σ.1 r0 2) < 0 then (some (.inr (some (.int 1000), lay, σ)))
  else ((zm_is lay r0 3).bind fun _ =>
   (zm_is lay r0 3).bind fun _ =>
   if (σ.1 r0 1) ≤ (σ.1 r0 2) then (some (.inr (some (.int 1000), lay, σ)))
   else ((zm_is lay r0 3).bind fun _ =>
    zm_opt (σ.2.2 r0 0) (fun q1 =>
    (zm_is lay r0 3).bind fun _ =>
    (zm_gI lay σ q1 (σ.1 r0 2)).bind fun v2 =>
    some (.inr (some (.int v2), lay, σ))) ((zm_is lay r0 3).bind fun _ =>
    none)))
set_option maxRecDepth 100000 in
theorem zr_38_0 (lay : zm_Lay) (σ : zm_Sig) (r0 : Nat) : zm_blk zM zp_38 (some .int) 0 0 zc_38 17 (zp_38.drop 0) (0, [(0, .ref r0)], [], lay, σ, 0, 0) = zb_38_0 lay σ r0 := rfl
/-! SubgroupWriter$Reader.countFigures()I -/
noncomputable def zb_39_0 (lay : zm_Lay) (σ : zm_Sig) (r0 : Nat) : Option (zm_St ⊕ zm_Out) :=
  some (.inl (2, [(0, .ref r0), (1, .int 0)], [], lay, σ, 0, 0))
set_option maxRecDepth 100000 in
theorem zr_39_0 (lay : zm_Lay) (σ : zm_Sig) (r0 : Nat) : zm_blk zM zp_39 (some .int) 0 0 zc_39 26 (zp_39.drop 0) (0, [(0, .ref r0)], [], lay, σ, 0, 0) = zb_39_0 lay σ r0 := rfl
noncomputable def zb_39_2 (lay : zm_Lay) (σ : zm_Sig) (r0 : Nat) (i1 : Int32) : Option (zm_St ⊕ zm_Out) :=
  if (5 : Int32) ≤ i1 then (some (.inr (some (.int i1), lay, σ)))
  else ((zm_is lay r0 3).bind fun _ =>
   (zm_is lay r0 3).bind fun _ =>
   if (σ.1 r0 1) ≤ ((σ.1 r0 2) + i1) then (some (.inr (some (.int i1), lay, σ)))
   else ((zm_is lay r0 3).bind fun _ =>
    zm_opt (σ.2.2 r0 0) (fun q1 =>
    (zm_is lay r0 3).bind fun _ =>
    (zm_gI lay σ q1 ((σ.1 r0 2) + i1)).bind fun v2 =>
    (zm_ai (zM 40 [.int v2] lay σ)).bind fun q3 =>
    if q3.1 = 0 then (some (.inr (some (.int i1), q3.2.1, q3.2.2)))
    else (some (.inl (2, [(0, .ref r0), (1, .int (i1 + 1))], [], q3.2.1, q3.2.2, 0, 0)))) ((zm_is lay r0 3).bind fun _ =>
    none)))
set_option maxRecDepth 100000 in
theorem zr_39_2 (lay : zm_Lay) (σ : zm_Sig) (r0 : Nat) (i1 : Int32) : zm_blk zM zp_39 (some .int) 0 0 zc_39 26 (zp_39.drop 2) (2, [(0, .ref r0), (1, .int i1)], [], lay, σ, 0, 0) = zb_39_2 lay σ r0 i1 := rfl
/-! SubgroupWriter$Reader.isFigure(I)Z -/
noncomputable def zb_40_0 (lay : zm_Lay) (σ : zm_Sig) (i0 : Int32) : Option (zm_St ⊕ zm_Out) :=
  if i0 < 48 then (some (.inr (some (.int 0), lay, σ)))
  else (if (58 : Int32) ≤ i0 then (some (.inr (some (.int 0), lay, σ)))
   else (some (.inr (some (.int 1), lay, σ))))
set_option maxRecDepth 100000 in
theorem zr_40_0 (lay : zm_Lay) (σ : zm_Sig) (i0 : Int32) : zm_blk zM zp_40 (some .boolean) 0 0 zc_40 11 (zp_40.drop 0) (0, [(0, .int i0)], [], lay, σ, 0, 0) = zb_40_0 lay σ i0 := rfl
/-! SubgroupWriter$Reader.readFigures(LSubgroupWriter$Group;I)Z -/
noncomputable def zb_41_0 (lay : zm_Lay) (σ : zm_Sig) (r0 : Nat) (r1 : Nat) (i2 : Int32) : Option (zm_St ⊕ zm_Out) :=
  some (.inl (2, [(0, .ref r0), (1, .ref r1), (2, .int i2), (3, .int 0)], [], lay, σ, 0, 0))
set_option maxRecDepth 100000 in
theorem zr_41_0 (lay : zm_Lay) (σ : zm_Sig) (r0 : Nat) (r1 : Nat) (i2 : Int32) : zm_blk zM zp_41 (some .boolean) 0 0 zc_41 62 (zp_41.drop 0) (0, [(0, .ref r0), (1, .ref r1), (2, .int i2)], [], lay, σ, 0, 0) = zb_41_0 lay σ r0 r1 i2 := rfl
noncomputable def zb_41_2 (lay : zm_Lay) (σ : zm_Sig) (r0 : Nat) (r1 : Nat) (i2 : Int32) (i3 : Int32) : Option (zm_St ⊕ zm_Out) :=
  (zm_is lay r1 1).bind fun _ =>
  if (σ.1 r1 0) ≤ i3 then (some (.inr (some (.int 1), lay, σ)))
  else ((zm_is lay r0 3).bind fun _ => (zm_ai (zM 38 [.ref r0] lay σ)).bind fun q1 =>
   if (q1.1 - 48) < 0 then (some (.inr (some (.int 0), q1.2.1, q1.2.2)))
   else ((zm_is q1.2.1 r1 1).bind fun _ =>
    if (q1.2.2.1 r1 0) ≤ (q1.1 - 48) then (some (.inr (some (.int 0), q1.2.1, q1.2.2)))
    else ((zm_is q1.2.1 r1 1).bind fun _ =>
     zm_opt (q1.2.2.2.2 r1 3) (fun q2 =>
     (zm_gR q1.2.1 q1.2.2 q2 (((2 : Int32) * i2) + 1)).bind fun o3 => zm_opt o3 (fun q4 =>
     (zm_gI q1.2.1 q1.2.2 q4 (q1.1 - 48)).bind fun v5 =>
     if v5 = (-1) then ((zm_is q1.2.1 r1 1).bind fun _ =>
      zm_opt (q1.2.2.2.2 r1 3) (fun q6 =>
      (zm_gR q1.2.1 q1.2.2 q6 ((2 : Int32) * i2)).bind fun o7 => zm_opt o7 (fun q8 =>
      (zm_sI q1.2.1 q1.2.2 q8 i3 (q1.1 - 48)).bind fun s9 =>
      (zm_is q1.2.1 r1 1).bind fun _ =>
      zm_opt (s9.2.2 r1 3) (fun q10 =>
      (zm_gR q1.2.1 s9 q10 (((2 : Int32) * i2) + 1)).bind fun o11 => zm_opt o11 (fun q12 =>
      (zm_sI q1.2.1 s9 q12 (q1.1 - 48) i3).bind fun s13 =>
      (zm_is q1.2.1 r0 3).bind fun _ =>
      (zm_is q1.2.1 r0 3).bind fun _ => (zm_fw s13 r0 2 0 (.int ((s13.1 r0 2) + 1))).bind fun s14 =>
      some (.inl (2, [(0, .ref r0), (1, .ref r1), (2, .int i2), (3, .int (i3 + 1))], [], q1.2.1, s14, 0, 0))) (none)) (none)) (none)) (none))
     else (some (.inr (some (.int 0), q1.2.1, q1.2.2)))) (none)) (none))))
set_option maxRecDepth 100000 in
theorem zr_41_2 (lay : zm_Lay) (σ : zm_Sig) (r0 : Nat) (r1 : Nat) (i2 : Int32) (i3 : Int32) : zm_blk zM zp_41 (some .boolean) 0 0 zc_41 62 (zp_41.drop 2) (2, [(0, .ref r0), (1, .ref r1), (2, .int i2), (3, .int i3)], [], lay, σ, 0, 0) = zb_41_2 lay σ r0 r1 i2 i3 := rfl
