abbrev zp_P : Nat → Option zm_Mth := fun y => zp_all[y]?
noncomputable abbrev zM : Nat → List Value → zm_Lay → zm_Sig → Option zm_Out := zm_mean zp_P
/-! java/util/Arrays.fill([II)V -/
theorem zs_2 : zm_srt zp_2 = true := by decide +kernel
noncomputable def zb_2_0 (lay : zm_Lay) (σ : zm_Sig) (r0 : Nat) (i1 : Int32) : Option (zm_St ⊕ zm_Out) :=
  (zm_len lay r0).bind fun v1 =>
  some (.inl (5, [(0, .ref r0), (1, .int i1), (2, .int 0), (3, .int v1)], [], lay, σ, 0, 0))
set_option maxRecDepth 100000 in
theorem zr_2_0 (lay : zm_Lay) (σ : zm_Sig) (r0 : Nat) (i1 : Int32) : zm_blk zM zp_2 none 0 0 zc_2 16 (zp_2.drop 0) (0, [(0, .ref r0), (1, .int i1)], [], lay, σ, 0, 0) = zb_2_0 lay σ r0 i1 := rfl
theorem ze_2 {lay : zm_Lay} {σ : zm_Sig} {r0 : Nat} {i1 : Int32} {out : zm_Out} {r : zm_St ⊕ zm_Out} (h : zb_2_0 lay σ r0 i1 = some r) (hg : zm_end zp_P 2 out r) : zM 2 [.ref r0, .int i1] lay σ = some out :=
  zm_mean_go (M := zd_2) rfl (Nat.le_of_ble_eq_true rfl) (zm_blk_go (M := zd_2) rfl zs_2 16 (zp_2.drop 0) _ r (fun _ h => List.mem_of_mem_drop h) ((zr_2_0 lay σ r0 i1).trans h) hg)
noncomputable def zb_2_5 (lay : zm_Lay) (σ : zm_Sig) (r0 : Nat) (i1 : Int32) (i2 : Int32) (i3 : Int32) : Option (zm_St ⊕ zm_Out) :=
  if i3 ≤ i2 then (some (.inr (none, lay, σ)))
  else ((zm_sI lay σ r0 i2 i1).bind fun s1 =>
   some (.inl (5, [(0, .ref r0), (1, .int i1), (2, .int (i2 + 1)), (3, .int i3)], [], lay, s1, 0, 0)))
set_option maxRecDepth 100000 in
theorem zr_2_5 (lay : zm_Lay) (σ : zm_Sig) (r0 : Nat) (i1 : Int32) (i2 : Int32) (i3 : Int32) : zm_blk zM zp_2 none 0 0 zc_2 16 (zp_2.drop 5) (5, [(0, .ref r0), (1, .int i1), (2, .int i2), (3, .int i3)], [], lay, σ, 0, 0) = zb_2_5 lay σ r0 i1 i2 i3 := rfl
theorem zg_2_5 {lay : zm_Lay} {σ : zm_Sig} {r0 : Nat} {i1 : Int32} {i2 : Int32} {i3 : Int32} {out : zm_Out} {r : zm_St ⊕ zm_Out} (h : zb_2_5 lay σ r0 i1 i2 i3 = some r) (hg : zm_end zp_P 2 out r) : zm_go zp_P 2 (5, [(0, .ref r0), (1, .int i1), (2, .int i2), (3, .int i3)], [], lay, σ, 0, 0) out :=
  zm_blk_go (M := zd_2) rfl zs_2 16 (zp_2.drop 5) _ r (fun _ h => List.mem_of_mem_drop h) ((zr_2_5 lay σ r0 i1 i2 i3).trans h) hg
/-! SubgroupWriter.row(II)I -/
theorem zs_11 : zm_srt zp_11 = true := by decide +kernel
noncomputable def zb_11_0 (lay : zm_Lay) (σ : zm_Sig) (r0 : Nat) (i1 : Int32) (i2 : Int32) : Option (zm_St ⊕ zm_Out) :=
  (zm_is lay r0 9).bind fun _ =>
  zm_opt (σ.2.2 r0 0) (fun q1 =>
  (zm_is lay q1 5).bind fun _ => (zm_ai (zM 12 [.ref q1, .int i1] lay σ)).bind fun q2 =>
  if q2.1 = 0 then (some (.inr (some (.int (-1)), q2.2.1, q2.2.2)))
  else (if i2 ≤ (nI 40) then (if (0 : Int32) ≤ i2 then ((zm_is q2.2.1 r0 9).bind fun _ =>
     zm_opt (q2.2.2.2.2 r0 0) (fun q3 =>
     (zm_is q2.2.1 q3 5).bind fun _ => (zm_av (zM 14 [.ref q3, .int i1, .int i2, .int 0] q2.2.1 q2.2.2)).bind fun q4 =>
     some (.inr (some (.int i2), q4.1, q4.2))) (none))
    else ((zm_is q2.2.1 r0 9).bind fun _ => (zm_ai (zM 13 [.ref r0, .int (nI 5)] q2.2.1 q2.2.2)).bind fun q5 =>
     some (.inr (some (.int q5.1), q5.2.1, q5.2.2))))
   else (some (.inr (some (.int (-1)), q2.2.1, q2.2.2))))) (none)
set_option maxRecDepth 100000 in
theorem zr_11_0 (lay : zm_Lay) (σ : zm_Sig) (r0 : Nat) (i1 : Int32) (i2 : Int32) : zm_blk zM zp_11 (some .int) 0 0 zc_11 25 (zp_11.drop 0) (0, [(0, .ref r0), (1, .int i1), (2, .int i2)], [], lay, σ, 0, 0) = zb_11_0 lay σ r0 i1 i2 := rfl
theorem ze_11 {lay : zm_Lay} {σ : zm_Sig} {r0 : Nat} {i1 : Int32} {i2 : Int32} {out : zm_Out} {r : zm_St ⊕ zm_Out} (h : zb_11_0 lay σ r0 i1 i2 = some r) (hg : zm_end zp_P 11 out r) : zM 11 [.ref r0, .int i1, .int i2] lay σ = some out :=
  zm_mean_go (M := zd_11) rfl (Nat.le_of_ble_eq_true rfl) (zm_blk_go (M := zd_11) rfl zs_11 25 (zp_11.drop 0) _ r (fun _ h => List.mem_of_mem_drop h) ((zr_11_0 lay σ r0 i1 i2).trans h) hg)
/-! SubgroupWriter$Shelf.isNumber(I)Z -/
theorem zs_12 : zm_srt zp_12 = true := by decide +kernel
noncomputable def zb_12_0 (lay : zm_Lay) (σ : zm_Sig) (r0 : Nat) (i1 : Int32) : Option (zm_St ⊕ zm_Out) :=
  if i1 < 0 then (some (.inr (some (.int 0), lay, σ)))
  else ((zm_is lay r0 5).bind fun _ =>
   zm_opt (σ.2.2 r0 1) (fun q1 =>
   (zm_len lay q1).bind fun v2 =>
   if v2 ≤ i1 then (some (.inr (some (.int 0), lay, σ)))
   else (some (.inr (some (.int 1), lay, σ)))) (none))
set_option maxRecDepth 100000 in
theorem zr_12_0 (lay : zm_Lay) (σ : zm_Sig) (r0 : Nat) (i1 : Int32) : zm_blk zM zp_12 (some .boolean) 0 0 zc_12 12 (zp_12.drop 0) (0, [(0, .ref r0), (1, .int i1)], [], lay, σ, 0, 0) = zb_12_0 lay σ r0 i1 := rfl
theorem ze_12 {lay : zm_Lay} {σ : zm_Sig} {r0 : Nat} {i1 : Int32} {out : zm_Out} {r : zm_St ⊕ zm_Out} (h : zb_12_0 lay σ r0 i1 = some r) (hg : zm_end zp_P 12 out r) : zM 12 [.ref r0, .int i1] lay σ = some out :=
  zm_mean_go (M := zd_12) rfl (Nat.le_of_ble_eq_true rfl) (zm_blk_go (M := zd_12) rfl zs_12 12 (zp_12.drop 0) _ r (fun _ h => List.mem_of_mem_drop h) ((zr_12_0 lay σ r0 i1).trans h) hg)
/-! SubgroupWriter.found(I)I -/
theorem zs_13 : zm_srt zp_13 = true := by decide +kernel
noncomputable def zb_13_0 (lay : zm_Lay) (σ : zm_Sig) (r0 : Nat) (i1 : Int32) : Option (zm_St ⊕ zm_Out) :=
  (zm_is lay r0 9).bind fun _ => (zm_fw σ r0 16 0 (.int i1)).bind fun s1 =>
  (zm_is lay r0 9).bind fun _ =>
  zm_opt (s1.2.2 r0 7) (fun q2 =>
  (zm_gI lay s1 q2 i1).bind fun v3 =>
  (zm_sI lay s1 q2 i1 (v3 + 1)).bind fun s4 =>
  some (.inr (some (.int (-3)), lay, s4))) (none)
set_option maxRecDepth 100000 in
theorem zr_13_0 (lay : zm_Lay) (σ : zm_Sig) (r0 : Nat) (i1 : Int32) : zm_blk zM zp_13 (some .int) 0 0 zc_13 14 (zp_13.drop 0) (0, [(0, .ref r0), (1, .int i1)], [], lay, σ, 0, 0) = zb_13_0 lay σ r0 i1 := rfl
theorem ze_13 {lay : zm_Lay} {σ : zm_Sig} {r0 : Nat} {i1 : Int32} {out : zm_Out} {r : zm_St ⊕ zm_Out} (h : zb_13_0 lay σ r0 i1 = some r) (hg : zm_end zp_P 13 out r) : zM 13 [.ref r0, .int i1] lay σ = some out :=
  zm_mean_go (M := zd_13) rfl (Nat.le_of_ble_eq_true rfl) (zm_blk_go (M := zd_13) rfl zs_13 14 (zp_13.drop 0) _ r (fun _ h => List.mem_of_mem_drop h) ((zr_13_0 lay σ r0 i1).trans h) hg)
/-! SubgroupWriter$Shelf.make(III)V -/
theorem zs_14 : zm_srt zp_14 = true := by decide +kernel
noncomputable def zb_14_0 (lay : zm_Lay) (σ : zm_Sig) (r0 : Nat) (i1 : Int32) (i2 : Int32) (i3 : Int32) : Option (zm_St ⊕ zm_Out) :=
  (zm_is lay r0 5).bind fun _ => (zm_ai (zM 12 [.ref r0, .int i1] lay σ)).bind fun q1 =>
  if q1.1 = 0 then (some (.inr (none, q1.2.1, q1.2.2)))
  else (if i2 < 0 then (some (.inr (none, q1.2.1, q1.2.2)))
   else ((zm_is q1.2.1 r0 5).bind fun _ =>
    zm_opt (q1.2.2.2.2 r0 0) (fun q2 =>
    (zm_gR q1.2.1 q1.2.2 q2 i1).bind fun o3 => zm_opt o3 (fun q4 =>
    (zm_len q1.2.1 q4).bind fun v5 =>
    if i2 ≤ v5 then ((zm_is q1.2.1 r0 5).bind fun _ =>
     zm_opt (q1.2.2.2.2 r0 1) (fun q6 =>
     (zm_sI q1.2.1 q1.2.2 q6 i1 i2).bind fun s7 =>
     (zm_is q1.2.1 r0 5).bind fun _ =>
     zm_opt (s7.2.2 r0 0) (fun q8 =>
     (zm_gR q1.2.1 s7 q8 i1).bind fun o9 => zm_opt o9 (fun q10 =>
     (zm_av (zM 2 [.ref q10, .int i3] q1.2.1 s7)).bind fun q11 =>
     some (.inr (none, q11.1, q11.2))) none) (none)) (none))
    else (some (.inr (none, q1.2.1, q1.2.2)))) none) (none)))
set_option maxRecDepth 100000 in
theorem zr_14_0 (lay : zm_Lay) (σ : zm_Sig) (r0 : Nat) (i1 : Int32) (i2 : Int32) (i3 : Int32) : zm_blk zM zp_14 none 0 0 zc_14 27 (zp_14.drop 0) (0, [(0, .ref r0), (1, .int i1), (2, .int i2), (3, .int i3)], [], lay, σ, 0, 0) = zb_14_0 lay σ r0 i1 i2 i3 := rfl
theorem ze_14 {lay : zm_Lay} {σ : zm_Sig} {r0 : Nat} {i1 : Int32} {i2 : Int32} {i3 : Int32} {out : zm_Out} {r : zm_St ⊕ zm_Out} (h : zb_14_0 lay σ r0 i1 i2 i3 = some r) (hg : zm_end zp_P 14 out r) : zM 14 [.ref r0, .int i1, .int i2, .int i3] lay σ = some out :=
  zm_mean_go (M := zd_14) rfl (Nat.le_of_ble_eq_true rfl) (zm_blk_go (M := zd_14) rfl zs_14 27 (zp_14.drop 0) _ r (fun _ h => List.mem_of_mem_drop h) ((zr_14_0 lay σ r0 i1 i2 i3).trans h) hg)
/-! SubgroupWriter.lay(III)I -/
theorem zs_15 : zm_srt zp_15 = true := by decide +kernel
noncomputable def zb_15_0 (lay : zm_Lay) (σ : zm_Sig) (r0 : Nat) (i1 : Int32) (i2 : Int32) (i3 : Int32) : Option (zm_St ⊕ zm_Out) :=
  (zm_is lay r0 9).bind fun _ =>
  zm_opt (σ.2.2 r0 0) (fun q1 =>
  (zm_is lay q1 5).bind fun _ => (zm_ai (zM 12 [.ref q1, .int i1] lay σ)).bind fun q2 =>
  if ¬ q2.1 = 0 then ((zm_is q2.2.1 r0 9).bind fun _ =>
   zm_opt (q2.2.2.2.2 r0 0) (fun q3 =>
   (zm_is q2.2.1 q3 5).bind fun _ => (zm_ai (zM 16 [.ref q3, .int i1] q2.2.1 q2.2.2)).bind fun q4 =>
   if q4.1 = 0 then ((zm_is q4.2.1 r0 9).bind fun _ =>
    zm_opt (q4.2.2.2.2 r0 0) (fun q5 =>
    (zm_is q4.2.1 q5 5).bind fun _ => (zm_ai (zM 17 [.ref q5, .int i1, .int i2] q4.2.1 q4.2.2)).bind fun q6 =>
    if ¬ q6.1 = 0 then ((zm_is q6.2.1 r0 9).bind fun _ =>
     zm_opt (q6.2.2.2.2 r0 0) (fun q7 =>
     (zm_is q6.2.1 q7 5).bind fun _ => (zm_ai (zM 18 [.ref q7, .int i1, .int i2] q6.2.1 q6.2.2)).bind fun q8 =>
     (zm_is q8.2.1 r0 9).bind fun _ =>
     zm_opt (q8.2.2.2.2 r0 0) (fun q9 =>
     (zm_is q8.2.1 q9 5).bind fun _ => (zm_av (zM 19 [.ref q9, .int i1, .int i2, .int i3] q8.2.1 q8.2.2)).bind fun q10 =>
     (zm_is q10.1 r0 9).bind fun _ => (zm_ai (zM 20 [.ref r0, .int q8.1] q10.1 q10.2)).bind fun q11 =>
     some (.inr (some (.int q11.1), q11.2.1, q11.2.2))) (none)) (none))
    else ((zm_is q6.2.1 r0 9).bind fun _ => (zm_ai (zM 13 [.ref r0, .int (nI 2)] q6.2.1 q6.2.2)).bind fun q12 =>
     some (.inr (some (.int q12.1), q12.2.1, q12.2.2)))) (none))
   else ((zm_is q4.2.1 r0 9).bind fun _ => (zm_ai (zM 13 [.ref r0, .int 1] q4.2.1 q4.2.2)).bind fun q13 =>
    some (.inr (some (.int q13.1), q13.2.1, q13.2.2)))) (none))
  else (some (.inr (some (.int (-1)), q2.2.1, q2.2.2)))) (none)
set_option maxRecDepth 100000 in
theorem zr_15_0 (lay : zm_Lay) (σ : zm_Sig) (r0 : Nat) (i1 : Int32) (i2 : Int32) (i3 : Int32) : zm_blk zM zp_15 (some .int) 0 0 zc_15 43 (zp_15.drop 0) (0, [(0, .ref r0), (1, .int i1), (2, .int i2), (3, .int i3)], [], lay, σ, 0, 0) = zb_15_0 lay σ r0 i1 i2 i3 := rfl
theorem ze_15 {lay : zm_Lay} {σ : zm_Sig} {r0 : Nat} {i1 : Int32} {i2 : Int32} {i3 : Int32} {out : zm_Out} {r : zm_St ⊕ zm_Out} (h : zb_15_0 lay σ r0 i1 i2 i3 = some r) (hg : zm_end zp_P 15 out r) : zM 15 [.ref r0, .int i1, .int i2, .int i3] lay σ = some out :=
  zm_mean_go (M := zd_15) rfl (Nat.le_of_ble_eq_true rfl) (zm_blk_go (M := zd_15) rfl zs_15 43 (zp_15.drop 0) _ r (fun _ h => List.mem_of_mem_drop h) ((zr_15_0 lay σ r0 i1 i2 i3).trans h) hg)
/-! SubgroupWriter$Shelf.isMissing(I)Z -/
theorem zs_16 : zm_srt zp_16 = true := by decide +kernel
noncomputable def zb_16_0 (lay : zm_Lay) (σ : zm_Sig) (r0 : Nat) (i1 : Int32) : Option (zm_St ⊕ zm_Out) :=
  (zm_is lay r0 5).bind fun _ => (zm_ai (zM 12 [.ref r0, .int i1] lay σ)).bind fun q1 =>
  if q1.1 = 0 then (some (.inr (some (.int 1), q1.2.1, q1.2.2)))
  else ((zm_is q1.2.1 r0 5).bind fun _ =>
   zm_opt (q1.2.2.2.2 r0 1) (fun q2 =>
   (zm_gI q1.2.1 q1.2.2 q2 i1).bind fun v3 =>
   if ¬ v3 = (-1) then (some (.inr (some (.int 0), q1.2.1, q1.2.2)))
   else (some (.inr (some (.int 1), q1.2.1, q1.2.2)))) (none))
set_option maxRecDepth 100000 in
theorem zr_16_0 (lay : zm_Lay) (σ : zm_Sig) (r0 : Nat) (i1 : Int32) : zm_blk zM zp_16 (some .boolean) 0 0 zc_16 15 (zp_16.drop 0) (0, [(0, .ref r0), (1, .int i1)], [], lay, σ, 0, 0) = zb_16_0 lay σ r0 i1 := rfl
theorem ze_16 {lay : zm_Lay} {σ : zm_Sig} {r0 : Nat} {i1 : Int32} {out : zm_Out} {r : zm_St ⊕ zm_Out} (h : zb_16_0 lay σ r0 i1 = some r) (hg : zm_end zp_P 16 out r) : zM 16 [.ref r0, .int i1] lay σ = some out :=
  zm_mean_go (M := zd_16) rfl (Nat.le_of_ble_eq_true rfl) (zm_blk_go (M := zd_16) rfl zs_16 15 (zp_16.drop 0) _ r (fun _ h => List.mem_of_mem_drop h) ((zr_16_0 lay σ r0 i1).trans h) hg)
/-! SubgroupWriter$Shelf.hasPlace(II)Z -/
theorem zs_17 : zm_srt zp_17 = true := by decide +kernel
noncomputable def zb_17_0 (lay : zm_Lay) (σ : zm_Sig) (r0 : Nat) (i1 : Int32) (i2 : Int32) : Option (zm_St ⊕ zm_Out) :=
  (zm_is lay r0 5).bind fun _ => (zm_ai (zM 12 [.ref r0, .int i1] lay σ)).bind fun q1 =>
  if q1.1 = 0 then (some (.inr (some (.int 0), q1.2.1, q1.2.2)))
  else (if i2 < 0 then (some (.inr (some (.int 0), q1.2.1, q1.2.2)))
   else ((zm_is q1.2.1 r0 5).bind fun _ =>
    zm_opt (q1.2.2.2.2 r0 1) (fun q2 =>
    (zm_gI q1.2.1 q1.2.2 q2 i1).bind fun v3 =>
    if v3 ≤ i2 then (some (.inr (some (.int 0), q1.2.1, q1.2.2)))
    else (some (.inr (some (.int 1), q1.2.1, q1.2.2)))) (none)))
set_option maxRecDepth 100000 in
theorem zr_17_0 (lay : zm_Lay) (σ : zm_Sig) (r0 : Nat) (i1 : Int32) (i2 : Int32) : zm_blk zM zp_17 (some .boolean) 0 0 zc_17 17 (zp_17.drop 0) (0, [(0, .ref r0), (1, .int i1), (2, .int i2)], [], lay, σ, 0, 0) = zb_17_0 lay σ r0 i1 i2 := rfl
theorem ze_17 {lay : zm_Lay} {σ : zm_Sig} {r0 : Nat} {i1 : Int32} {i2 : Int32} {out : zm_Out} {r : zm_St ⊕ zm_Out} (h : zb_17_0 lay σ r0 i1 i2 = some r) (hg : zm_end zp_P 17 out r) : zM 17 [.ref r0, .int i1, .int i2] lay σ = some out :=
  zm_mean_go (M := zd_17) rfl (Nat.le_of_ble_eq_true rfl) (zm_blk_go (M := zd_17) rfl zs_17 17 (zp_17.drop 0) _ r (fun _ h => List.mem_of_mem_drop h) ((zr_17_0 lay σ r0 i1 i2).trans h) hg)
/-! SubgroupWriter$Shelf.read(II)I -/
theorem zs_18 : zm_srt zp_18 = true := by decide +kernel
noncomputable def zb_18_0 (lay : zm_Lay) (σ : zm_Sig) (r0 : Nat) (i1 : Int32) (i2 : Int32) : Option (zm_St ⊕ zm_Out) :=
  (zm_is lay r0 5).bind fun _ => (zm_ai (zM 17 [.ref r0, .int i1, .int i2] lay σ)).bind fun q1 =>
  if q1.1 = 0 then (some (.inr (some (.int 0), q1.2.1, q1.2.2)))
  else ((zm_is q1.2.1 r0 5).bind fun _ =>
   zm_opt (q1.2.2.2.2 r0 0) (fun q2 =>
   (zm_gR q1.2.1 q1.2.2 q2 i1).bind fun o3 => zm_opt o3 (fun q4 =>
   (zm_gI q1.2.1 q1.2.2 q4 i2).bind fun v5 =>
   some (.inr (some (.int v5), q1.2.1, q1.2.2))) none) (none))
set_option maxRecDepth 100000 in
theorem zr_18_0 (lay : zm_Lay) (σ : zm_Sig) (r0 : Nat) (i1 : Int32) (i2 : Int32) : zm_blk zM zp_18 (some .int) 0 0 zc_18 15 (zp_18.drop 0) (0, [(0, .ref r0), (1, .int i1), (2, .int i2)], [], lay, σ, 0, 0) = zb_18_0 lay σ r0 i1 i2 := rfl
theorem ze_18 {lay : zm_Lay} {σ : zm_Sig} {r0 : Nat} {i1 : Int32} {i2 : Int32} {out : zm_Out} {r : zm_St ⊕ zm_Out} (h : zb_18_0 lay σ r0 i1 i2 = some r) (hg : zm_end zp_P 18 out r) : zM 18 [.ref r0, .int i1, .int i2] lay σ = some out :=
  zm_mean_go (M := zd_18) rfl (Nat.le_of_ble_eq_true rfl) (zm_blk_go (M := zd_18) rfl zs_18 15 (zp_18.drop 0) _ r (fun _ h => List.mem_of_mem_drop h) ((zr_18_0 lay σ r0 i1 i2).trans h) hg)
/-! SubgroupWriter$Shelf.write(III)V -/
theorem zs_19 : zm_srt zp_19 = true := by decide +kernel
noncomputable def zb_19_0 (lay : zm_Lay) (σ : zm_Sig) (r0 : Nat) (i1 : Int32) (i2 : Int32) (i3 : Int32) : Option (zm_St ⊕ zm_Out) :=
  (zm_is lay r0 5).bind fun _ => (zm_ai (zM 17 [.ref r0, .int i1, .int i2] lay σ)).bind fun q1 =>
  if q1.1 = 0 then (some (.inr (none, q1.2.1, q1.2.2)))
  else ((zm_is q1.2.1 r0 5).bind fun _ =>
   zm_opt (q1.2.2.2.2 r0 0) (fun q2 =>
   (zm_gR q1.2.1 q1.2.2 q2 i1).bind fun o3 => zm_opt o3 (fun q4 =>
   (zm_sI q1.2.1 q1.2.2 q4 i2 i3).bind fun s5 =>
   some (.inr (none, q1.2.1, s5))) none) (none))
set_option maxRecDepth 100000 in
theorem zr_19_0 (lay : zm_Lay) (σ : zm_Sig) (r0 : Nat) (i1 : Int32) (i2 : Int32) (i3 : Int32) : zm_blk zM zp_19 none 0 0 zc_19 14 (zp_19.drop 0) (0, [(0, .ref r0), (1, .int i1), (2, .int i2), (3, .int i3)], [], lay, σ, 0, 0) = zb_19_0 lay σ r0 i1 i2 i3 := rfl
theorem ze_19 {lay : zm_Lay} {σ : zm_Sig} {r0 : Nat} {i1 : Int32} {i2 : Int32} {i3 : Int32} {out : zm_Out} {r : zm_St ⊕ zm_Out} (h : zb_19_0 lay σ r0 i1 i2 i3 = some r) (hg : zm_end zp_P 19 out r) : zM 19 [.ref r0, .int i1, .int i2, .int i3] lay σ = some out :=
  zm_mean_go (M := zd_19) rfl (Nat.le_of_ble_eq_true rfl) (zm_blk_go (M := zd_19) rfl zs_19 14 (zp_19.drop 0) _ r (fun _ h => List.mem_of_mem_drop h) ((zr_19_0 lay σ r0 i1 i2 i3).trans h) hg)
/-! SubgroupWriter.told(I)I -/
theorem zs_20 : zm_srt zp_20 = true := by decide +kernel
noncomputable def zb_20_0 (lay : zm_Lay) (σ : zm_Sig) (r0 : Nat) (i1 : Int32) : Option (zm_St ⊕ zm_Out) :=
  (zm_is lay r0 9).bind fun _ => (zm_fw σ r0 13 0 (.int i1)).bind fun s1 =>
  some (.inr (some (.int 1), lay, s1))
set_option maxRecDepth 100000 in
theorem zr_20_0 (lay : zm_Lay) (σ : zm_Sig) (r0 : Nat) (i1 : Int32) : zm_blk zM zp_20 (some .int) 0 0 zc_20 6 (zp_20.drop 0) (0, [(0, .ref r0), (1, .int i1)], [], lay, σ, 0, 0) = zb_20_0 lay σ r0 i1 := rfl
theorem ze_20 {lay : zm_Lay} {σ : zm_Sig} {r0 : Nat} {i1 : Int32} {out : zm_Out} {r : zm_St ⊕ zm_Out} (h : zb_20_0 lay σ r0 i1 = some r) (hg : zm_end zp_P 20 out r) : zM 20 [.ref r0, .int i1] lay σ = some out :=
  zm_mean_go (M := zd_20) rfl (Nat.le_of_ble_eq_true rfl) (zm_blk_go (M := zd_20) rfl zs_20 6 (zp_20.drop 0) _ r (fun _ h => List.mem_of_mem_drop h) ((zr_20_0 lay σ r0 i1).trans h) hg)
/-! SubgroupWriter.at(II)I -/
theorem zs_21 : zm_srt zp_21 = true := by decide +kernel
noncomputable def zb_21_0 (lay : zm_Lay) (σ : zm_Sig) (r0 : Nat) (i1 : Int32) (i2 : Int32) : Option (zm_St ⊕ zm_Out) :=
  (zm_is lay r0 9).bind fun _ =>
  zm_opt (σ.2.2 r0 0) (fun q1 =>
  (zm_is lay q1 5).bind fun _ => (zm_ai (zM 12 [.ref q1, .int i1] lay σ)).bind fun q2 =>
  if ¬ q2.1 = 0 then ((zm_is q2.2.1 r0 9).bind fun _ =>
   zm_opt (q2.2.2.2.2 r0 0) (fun q3 =>
   (zm_is q2.2.1 q3 5).bind fun _ => (zm_ai (zM 16 [.ref q3, .int i1] q2.2.1 q2.2.2)).bind fun q4 =>
   if q4.1 = 0 then ((zm_is q4.2.1 r0 9).bind fun _ =>
    zm_opt (q4.2.2.2.2 r0 0) (fun q5 =>
    (zm_is q4.2.1 q5 5).bind fun _ => (zm_ai (zM 17 [.ref q5, .int i1, .int i2] q4.2.1 q4.2.2)).bind fun q6 =>
    if ¬ q6.1 = 0 then ((zm_is q6.2.1 r0 9).bind fun _ =>
     zm_opt (q6.2.2.2.2 r0 0) (fun q7 =>
     (zm_is q6.2.1 q7 5).bind fun _ => (zm_ai (zM 18 [.ref q7, .int i1, .int i2] q6.2.1 q6.2.2)).bind fun q8 =>
     (zm_is q8.2.1 r0 9).bind fun _ => (zm_ai (zM 20 [.ref r0, .int q8.1] q8.2.1 q8.2.2)).bind fun q9 =>
     some (.inr (some (.int q9.1), q9.2.1, q9.2.2))) (none))
    else ((zm_is q6.2.1 r0 9).bind fun _ => (zm_ai (zM 13 [.ref r0, .int (nI 2)] q6.2.1 q6.2.2)).bind fun q10 =>
     some (.inr (some (.int q10.1), q10.2.1, q10.2.2)))) (none))
   else ((zm_is q4.2.1 r0 9).bind fun _ => (zm_ai (zM 13 [.ref r0, .int 1] q4.2.1 q4.2.2)).bind fun q11 =>
    some (.inr (some (.int q11.1), q11.2.1, q11.2.2)))) (none))
  else (some (.inr (some (.int (-1)), q2.2.1, q2.2.2)))) (none)
set_option maxRecDepth 100000 in
theorem zr_21_0 (lay : zm_Lay) (σ : zm_Sig) (r0 : Nat) (i1 : Int32) (i2 : Int32) : zm_blk zM zp_21 (some .int) 0 0 zc_21 35 (zp_21.drop 0) (0, [(0, .ref r0), (1, .int i1), (2, .int i2)], [], lay, σ, 0, 0) = zb_21_0 lay σ r0 i1 i2 := rfl
theorem ze_21 {lay : zm_Lay} {σ : zm_Sig} {r0 : Nat} {i1 : Int32} {i2 : Int32} {out : zm_Out} {r : zm_St ⊕ zm_Out} (h : zb_21_0 lay σ r0 i1 i2 = some r) (hg : zm_end zp_P 21 out r) : zM 21 [.ref r0, .int i1, .int i2] lay σ = some out :=
  zm_mean_go (M := zd_21) rfl (Nat.le_of_ble_eq_true rfl) (zm_blk_go (M := zd_21) rfl zs_21 35 (zp_21.drop 0) _ r (fun _ h => List.mem_of_mem_drop h) ((zr_21_0 lay σ r0 i1 i2).trans h) hg)
/-! SubgroupWriter.tear(I)I -/
theorem zs_22 : zm_srt zp_22 = true := by decide +kernel
noncomputable def zb_22_0 (lay : zm_Lay) (σ : zm_Sig) (r0 : Nat) (i1 : Int32) : Option (zm_St ⊕ zm_Out) :=
  (zm_is lay r0 9).bind fun _ =>
  zm_opt (σ.2.2 r0 0) (fun q1 =>
  (zm_is lay q1 5).bind fun _ => (zm_ai (zM 12 [.ref q1, .int i1] lay σ)).bind fun q2 =>
  if ¬ q2.1 = 0 then ((zm_is q2.2.1 r0 9).bind fun _ =>
   zm_opt (q2.2.2.2.2 r0 0) (fun q3 =>
   (zm_is q2.2.1 q3 5).bind fun _ => (zm_ai (zM 16 [.ref q3, .int i1] q2.2.1 q2.2.2)).bind fun q4 =>
   if q4.1 = 0 then ((zm_is q4.2.1 r0 9).bind fun _ =>
    zm_opt (q4.2.2.2.2 r0 0) (fun q5 =>
    (zm_is q4.2.1 q5 5).bind fun _ => (zm_av (zM 23 [.ref q5, .int i1] q4.2.1 q4.2.2)).bind fun q6 =>
    some (.inr (some (.int 1), q6.1, q6.2))) (none))
   else ((zm_is q4.2.1 r0 9).bind fun _ => (zm_ai (zM 13 [.ref r0, .int 1] q4.2.1 q4.2.2)).bind fun q7 =>
    some (.inr (some (.int q7.1), q7.2.1, q7.2.2)))) (none))
  else (some (.inr (some (.int (-1)), q2.2.1, q2.2.2)))) (none)
set_option maxRecDepth 100000 in
theorem zr_22_0 (lay : zm_Lay) (σ : zm_Sig) (r0 : Nat) (i1 : Int32) : zm_blk zM zp_22 (some .int) 0 0 zc_22 23 (zp_22.drop 0) (0, [(0, .ref r0), (1, .int i1)], [], lay, σ, 0, 0) = zb_22_0 lay σ r0 i1 := rfl
theorem ze_22 {lay : zm_Lay} {σ : zm_Sig} {r0 : Nat} {i1 : Int32} {out : zm_Out} {r : zm_St ⊕ zm_Out} (h : zb_22_0 lay σ r0 i1 = some r) (hg : zm_end zp_P 22 out r) : zM 22 [.ref r0, .int i1] lay σ = some out :=
  zm_mean_go (M := zd_22) rfl (Nat.le_of_ble_eq_true rfl) (zm_blk_go (M := zd_22) rfl zs_22 23 (zp_22.drop 0) _ r (fun _ h => List.mem_of_mem_drop h) ((zr_22_0 lay σ r0 i1).trans h) hg)
/-! SubgroupWriter$Shelf.remove(I)V -/
theorem zs_23 : zm_srt zp_23 = true := by decide +kernel
noncomputable def zb_23_0 (lay : zm_Lay) (σ : zm_Sig) (r0 : Nat) (i1 : Int32) : Option (zm_St ⊕ zm_Out) :=
  (zm_is lay r0 5).bind fun _ => (zm_ai (zM 12 [.ref r0, .int i1] lay σ)).bind fun q1 =>
  if q1.1 = 0 then (some (.inr (none, q1.2.1, q1.2.2)))
  else ((zm_is q1.2.1 r0 5).bind fun _ =>
   zm_opt (q1.2.2.2.2 r0 1) (fun q2 =>
   (zm_sI q1.2.1 q1.2.2 q2 i1 (-1)).bind fun s3 =>
   some (.inr (none, q1.2.1, s3))) (none))
set_option maxRecDepth 100000 in
theorem zr_23_0 (lay : zm_Lay) (σ : zm_Sig) (r0 : Nat) (i1 : Int32) : zm_blk zM zp_23 none 0 0 zc_23 11 (zp_23.drop 0) (0, [(0, .ref r0), (1, .int i1)], [], lay, σ, 0, 0) = zb_23_0 lay σ r0 i1 := rfl
theorem ze_23 {lay : zm_Lay} {σ : zm_Sig} {r0 : Nat} {i1 : Int32} {out : zm_Out} {r : zm_St ⊕ zm_Out} (h : zb_23_0 lay σ r0 i1 = some r) (hg : zm_end zp_P 23 out r) : zM 23 [.ref r0, .int i1] lay σ = some out :=
  zm_mean_go (M := zd_23) rfl (Nat.le_of_ble_eq_true rfl) (zm_blk_go (M := zd_23) rfl zs_23 11 (zp_23.drop 0) _ r (fun _ h => List.mem_of_mem_drop h) ((zr_23_0 lay σ r0 i1).trans h) hg)
/-! SubgroupWriter.copy(IIIII)I -/
theorem zs_24 : zm_srt zp_24 = true := by decide +kernel
noncomputable def zb_24_0 (lay : zm_Lay) (σ : zm_Sig) (r0 : Nat) (i1 : Int32) (i2 : Int32) (i3 : Int32) (i4 : Int32) (i5 : Int32) : Option (zm_St ⊕ zm_Out) :=
  (zm_is lay r0 9).bind fun _ =>
  zm_opt (σ.2.2 r0 0) (fun q1 =>
  (zm_is lay q1 5).bind fun _ => (zm_ai (zM 12 [.ref q1, .int i1] lay σ)).bind fun q2 =>
  if q2.1 = 0 then (some (.inr (some (.int (-1)), q2.2.1, q2.2.2)))
  else ((zm_is q2.2.1 r0 9).bind fun _ =>
   zm_opt (q2.2.2.2.2 r0 0) (fun q3 =>
   (zm_is q2.2.1 q3 5).bind fun _ => (zm_ai (zM 12 [.ref q3, .int i3] q2.2.1 q2.2.2)).bind fun q4 =>
   if ¬ q4.1 = 0 then (if (0 : Int32) ≤ i5 then ((zm_is q4.2.1 r0 9).bind fun _ =>
     zm_opt (q4.2.2.2.2 r0 0) (fun q5 =>
     (zm_is q4.2.1 q5 5).bind fun _ => (zm_ai (zM 16 [.ref q5, .int i1] q4.2.1 q4.2.2)).bind fun q6 =>
     if ¬ q6.1 = 0 then ((zm_is q6.2.1 r0 9).bind fun _ => (zm_ai (zM 13 [.ref r0, .int 1] q6.2.1 q6.2.2)).bind fun q7 =>
      some (.inr (some (.int q7.1), q7.2.1, q7.2.2)))
     else ((zm_is q6.2.1 r0 9).bind fun _ =>
      zm_opt (q6.2.2.2.2 r0 0) (fun q8 =>
      (zm_is q6.2.1 q8 5).bind fun _ => (zm_ai (zM 16 [.ref q8, .int i3] q6.2.1 q6.2.2)).bind fun q9 =>
      if q9.1 = 0 then ((zm_is q9.2.1 r0 9).bind fun _ =>
       zm_opt (q9.2.2.2.2 r0 0) (fun q10 =>
       (zm_is q9.2.1 q10 5).bind fun _ => (zm_ai (zM 25 [.ref q10, .int i1, .int i2, .int i5] q9.2.1 q9.2.2)).bind fun q11 =>
       if q11.1 = 0 then ((zm_is q11.2.1 r0 9).bind fun _ => (zm_ai (zM 13 [.ref r0, .int (nI 2)] q11.2.1 q11.2.2)).bind fun q12 =>
        some (.inr (some (.int q12.1), q12.2.1, q12.2.2)))
       else ((zm_is q11.2.1 r0 9).bind fun _ =>
        zm_opt (q11.2.2.2.2 r0 0) (fun q13 =>
        (zm_is q11.2.1 q13 5).bind fun _ => (zm_ai (zM 25 [.ref q13, .int i3, .int i4, .int i5] q11.2.1 q11.2.2)).bind fun q14 =>
        if ¬ q14.1 = 0 then ((zm_is q14.2.1 r0 9).bind fun _ =>
         zm_opt (q14.2.2.2.2 r0 0) (fun q15 =>
         (zm_is q14.2.1 q15 5).bind fun _ => (zm_av (zM 26 [.ref q15, .int i1, .int i2, .int i3, .int i4, .int i5] q14.2.1 q14.2.2)).bind fun q16 =>
         some (.inr (some (.int 1), q16.1, q16.2))) (none))
        else ((zm_is q14.2.1 r0 9).bind fun _ => (zm_ai (zM 13 [.ref r0, .int (nI 2)] q14.2.1 q14.2.2)).bind fun q17 =>
         some (.inr (some (.int q17.1), q17.2.1, q17.2.2)))) (none))) (none))
      else ((zm_is q9.2.1 r0 9).bind fun _ => (zm_ai (zM 13 [.ref r0, .int 1] q9.2.1 q9.2.2)).bind fun q18 =>
       some (.inr (some (.int q18.1), q18.2.1, q18.2.2)))) (none))) (none))
    else ((zm_is q4.2.1 r0 9).bind fun _ => (zm_ai (zM 13 [.ref r0, .int (nI 5)] q4.2.1 q4.2.2)).bind fun q19 =>
     some (.inr (some (.int q19.1), q19.2.1, q19.2.2))))
   else (some (.inr (some (.int (-1)), q4.2.1, q4.2.2)))) (none))) (none)
set_option maxRecDepth 100000 in
theorem zr_24_0 (lay : zm_Lay) (σ : zm_Sig) (r0 : Nat) (i1 : Int32) (i2 : Int32) (i3 : Int32) (i4 : Int32) (i5 : Int32) : zm_blk zM zp_24 (some .int) 0 0 zc_24 61 (zp_24.drop 0) (0, [(0, .ref r0), (1, .int i1), (2, .int i2), (3, .int i3), (4, .int i4), (5, .int i5)], [], lay, σ, 0, 0) = zb_24_0 lay σ r0 i1 i2 i3 i4 i5 := rfl
theorem ze_24 {lay : zm_Lay} {σ : zm_Sig} {r0 : Nat} {i1 : Int32} {i2 : Int32} {i3 : Int32} {i4 : Int32} {i5 : Int32} {out : zm_Out} {r : zm_St ⊕ zm_Out} (h : zb_24_0 lay σ r0 i1 i2 i3 i4 i5 = some r) (hg : zm_end zp_P 24 out r) : zM 24 [.ref r0, .int i1, .int i2, .int i3, .int i4, .int i5] lay σ = some out :=
  zm_mean_go (M := zd_24) rfl (Nat.le_of_ble_eq_true rfl) (zm_blk_go (M := zd_24) rfl zs_24 61 (zp_24.drop 0) _ r (fun _ h => List.mem_of_mem_drop h) ((zr_24_0 lay σ r0 i1 i2 i3 i4 i5).trans h) hg)
/-! SubgroupWriter$Shelf.hasPlaces(III)Z -/
theorem zs_25 : zm_srt zp_25 = true := by decide +kernel
noncomputable def zb_25_0 (lay : zm_Lay) (σ : zm_Sig) (r0 : Nat) (i1 : Int32) (i2 : Int32) (i3 : Int32) : Option (zm_St ⊕ zm_Out) :=
  (zm_is lay r0 5).bind fun _ => (zm_ai (zM 16 [.ref r0, .int i1] lay σ)).bind fun q1 =>
  if ¬ q1.1 = 0 then (some (.inr (some (.int 0), q1.2.1, q1.2.2)))
  else (if i2 < 0 then (some (.inr (some (.int 0), q1.2.1, q1.2.2)))
   else ((zm_is q1.2.1 r0 5).bind fun _ =>
    zm_opt (q1.2.2.2.2 r0 1) (fun q2 =>
    (zm_gI q1.2.1 q1.2.2 q2 i1).bind fun v3 =>
    if v3 < i2 then (some (.inr (some (.int 0), q1.2.1, q1.2.2)))
    else (if i3 < 0 then (some (.inr (some (.int 0), q1.2.1, q1.2.2)))
     else ((zm_is q1.2.1 r0 5).bind fun _ =>
      zm_opt (q1.2.2.2.2 r0 1) (fun q4 =>
      (zm_gI q1.2.1 q1.2.2 q4 i1).bind fun v5 =>
      if (v5 - i2) < i3 then (some (.inr (some (.int 0), q1.2.1, q1.2.2)))
      else (some (.inr (some (.int 1), q1.2.1, q1.2.2)))) (none)))) (none)))
set_option maxRecDepth 100000 in
theorem zr_25_0 (lay : zm_Lay) (σ : zm_Sig) (r0 : Nat) (i1 : Int32) (i2 : Int32) (i3 : Int32) : zm_blk zM zp_25 (some .boolean) 0 0 zc_25 27 (zp_25.drop 0) (0, [(0, .ref r0), (1, .int i1), (2, .int i2), (3, .int i3)], [], lay, σ, 0, 0) = zb_25_0 lay σ r0 i1 i2 i3 := rfl
theorem ze_25 {lay : zm_Lay} {σ : zm_Sig} {r0 : Nat} {i1 : Int32} {i2 : Int32} {i3 : Int32} {out : zm_Out} {r : zm_St ⊕ zm_Out} (h : zb_25_0 lay σ r0 i1 i2 i3 = some r) (hg : zm_end zp_P 25 out r) : zM 25 [.ref r0, .int i1, .int i2, .int i3] lay σ = some out :=
  zm_mean_go (M := zd_25) rfl (Nat.le_of_ble_eq_true rfl) (zm_blk_go (M := zd_25) rfl zs_25 27 (zp_25.drop 0) _ r (fun _ h => List.mem_of_mem_drop h) ((zr_25_0 lay σ r0 i1 i2 i3).trans h) hg)
/-! SubgroupWriter$Shelf.move(IIIII)V -/
theorem zs_26 : zm_srt zp_26 = true := by decide +kernel
noncomputable def zb_26_0 (lay : zm_Lay) (σ : zm_Sig) (r0 : Nat) (i1 : Int32) (i2 : Int32) (i3 : Int32) (i4 : Int32) (i5 : Int32) : Option (zm_St ⊕ zm_Out) :=
  (zm_is lay r0 5).bind fun _ => (zm_ai (zM 25 [.ref r0, .int i1, .int i2, .int i5] lay σ)).bind fun q1 =>
  if q1.1 = 0 then (some (.inr (none, q1.2.1, q1.2.2)))
  else ((zm_is q1.2.1 r0 5).bind fun _ => (zm_ai (zM 25 [.ref r0, .int i3, .int i4, .int i5] q1.2.1 q1.2.2)).bind fun q2 =>
   if q2.1 = 0 then (some (.inr (none, q2.2.1, q2.2.2)))
   else ((zm_is q2.2.1 r0 5).bind fun _ =>
    zm_opt (q2.2.2.2.2 r0 0) (fun q3 =>
    (zm_gR q2.2.1 q2.2.2 q3 i1).bind fun o4 => zm_opt o4 (fun q5 =>
    (zm_is q2.2.1 r0 5).bind fun _ =>
    zm_opt (q2.2.2.2.2 r0 0) (fun q6 =>
    (zm_gR q2.2.1 q2.2.2 q6 i3).bind fun o7 => zm_opt o7 (fun q8 =>
    (zm_cpy q2.2.1 q2.2.2 q5 i2 q8 i4 i5).bind fun s9 =>
    some (.inr (none, q2.2.1, s9))) none) (none)) none) (none)))
set_option maxRecDepth 100000 in
theorem zr_26_0 (lay : zm_Lay) (σ : zm_Sig) (r0 : Nat) (i1 : Int32) (i2 : Int32) (i3 : Int32) (i4 : Int32) (i5 : Int32) : zm_blk zM zp_26 none 0 0 zc_26 26 (zp_26.drop 0) (0, [(0, .ref r0), (1, .int i1), (2, .int i2), (3, .int i3), (4, .int i4), (5, .int i5)], [], lay, σ, 0, 0) = zb_26_0 lay σ r0 i1 i2 i3 i4 i5 := rfl
theorem ze_26 {lay : zm_Lay} {σ : zm_Sig} {r0 : Nat} {i1 : Int32} {i2 : Int32} {i3 : Int32} {i4 : Int32} {i5 : Int32} {out : zm_Out} {r : zm_St ⊕ zm_Out} (h : zb_26_0 lay σ r0 i1 i2 i3 i4 i5 = some r) (hg : zm_end zp_P 26 out r) : zM 26 [.ref r0, .int i1, .int i2, .int i3, .int i4, .int i5] lay σ = some out :=
  zm_mean_go (M := zd_26) rfl (Nat.le_of_ble_eq_true rfl) (zm_blk_go (M := zd_26) rfl zs_26 26 (zp_26.drop 0) _ r (fun _ h => List.mem_of_mem_drop h) ((zr_26_0 lay σ r0 i1 i2 i3 i4 i5).trans h) hg)
/-! SubgroupWriter.mean(I)I -/
theorem zs_27 : zm_srt zp_27 = true := by decide +kernel
noncomputable def zb_27_0 (lay : zm_Lay) (σ : zm_Sig) (r0 : Nat) (i1 : Int32) : Option (zm_St ⊕ zm_Out) :=
  (zm_is lay r0 9).bind fun _ =>
  zm_opt (σ.2.2 r0 0) (fun q1 =>
  (zm_is lay q1 5).bind fun _ => (zm_ai (zM 12 [.ref q1, .int i1] lay σ)).bind fun q2 =>
  if ¬ q2.1 = 0 then ((zm_is q2.2.1 r0 9).bind fun _ =>
   zm_opt (q2.2.2.2.2 r0 0) (fun q3 =>
   (zm_is q2.2.1 q3 5).bind fun _ => (zm_ai (zM 16 [.ref q3, .int i1] q2.2.1 q2.2.2)).bind fun q4 =>
   if q4.1 = 0 then ((zm_is q4.2.1 r0 9).bind fun _ =>
    zm_opt (q4.2.2.2.2 r0 0) (fun q5 =>
    (zm_is q4.2.1 q5 5).bind fun _ => (zm_ai (zM 28 [.ref q5, .int i1] q4.2.1 q4.2.2)).bind fun q6 =>
    if (0 : Int32) < q6.1 then ((zm_is q6.2.1 r0 9).bind fun _ =>
     zm_opt (q6.2.2.2.2 r0 0) (fun q7 =>
     (zm_is q6.2.1 q7 5).bind fun _ => (zm_al (zM 29 [.ref q7, .int i1] q6.2.1 q6.2.2)).bind fun q8 =>
     if (q6.1 : Int32).toInt64 = 0 then none
     else ((zm_is q8.2.1 r0 9).bind fun _ => (zm_ai (zM 20 [.ref r0, .int ((q8.1 / (q6.1 : Int32).toInt64) : Int64).toInt32] q8.2.1 q8.2.2)).bind fun q9 =>
     some (.inr (some (.int q9.1), q9.2.1, q9.2.2)))) (none))
    else ((zm_is q6.2.1 r0 9).bind fun _ => (zm_ai (zM 13 [.ref r0, .int (nI 4)] q6.2.1 q6.2.2)).bind fun q10 =>
     some (.inr (some (.int q10.1), q10.2.1, q10.2.2)))) (none))
   else ((zm_is q4.2.1 r0 9).bind fun _ => (zm_ai (zM 13 [.ref r0, .int 1] q4.2.1 q4.2.2)).bind fun q11 =>
    some (.inr (some (.int q11.1), q11.2.1, q11.2.2)))) (none))
  else (some (.inr (some (.int (-1)), q2.2.1, q2.2.2)))) (none)
set_option maxRecDepth 100000 in
theorem zr_27_0 (lay : zm_Lay) (σ : zm_Sig) (r0 : Nat) (i1 : Int32) : zm_blk zM zp_27 (some .int) 0 0 zc_27 39 (zp_27.drop 0) (0, [(0, .ref r0), (1, .int i1)], [], lay, σ, 0, 0) = zb_27_0 lay σ r0 i1 := rfl
theorem ze_27 {lay : zm_Lay} {σ : zm_Sig} {r0 : Nat} {i1 : Int32} {out : zm_Out} {r : zm_St ⊕ zm_Out} (h : zb_27_0 lay σ r0 i1 = some r) (hg : zm_end zp_P 27 out r) : zM 27 [.ref r0, .int i1] lay σ = some out :=
  zm_mean_go (M := zd_27) rfl (Nat.le_of_ble_eq_true rfl) (zm_blk_go (M := zd_27) rfl zs_27 39 (zp_27.drop 0) _ r (fun _ h => List.mem_of_mem_drop h) ((zr_27_0 lay σ r0 i1).trans h) hg)
/-! SubgroupWriter$Shelf.sizeOf(I)I -/
theorem zs_28 : zm_srt zp_28 = true := by decide +kernel
noncomputable def zb_28_0 (lay : zm_Lay) (σ : zm_Sig) (r0 : Nat) (i1 : Int32) : Option (zm_St ⊕ zm_Out) :=
  (zm_is lay r0 5).bind fun _ => (zm_ai (zM 12 [.ref r0, .int i1] lay σ)).bind fun q1 =>
  if q1.1 = 0 then (some (.inr (some (.int (-1)), q1.2.1, q1.2.2)))
  else ((zm_is q1.2.1 r0 5).bind fun _ =>
   zm_opt (q1.2.2.2.2 r0 1) (fun q2 =>
   (zm_gI q1.2.1 q1.2.2 q2 i1).bind fun v3 =>
   some (.inr (some (.int v3), q1.2.1, q1.2.2))) (none))
set_option maxRecDepth 100000 in
theorem zr_28_0 (lay : zm_Lay) (σ : zm_Sig) (r0 : Nat) (i1 : Int32) : zm_blk zM zp_28 (some .int) 0 0 zc_28 12 (zp_28.drop 0) (0, [(0, .ref r0), (1, .int i1)], [], lay, σ, 0, 0) = zb_28_0 lay σ r0 i1 := rfl
theorem ze_28 {lay : zm_Lay} {σ : zm_Sig} {r0 : Nat} {i1 : Int32} {out : zm_Out} {r : zm_St ⊕ zm_Out} (h : zb_28_0 lay σ r0 i1 = some r) (hg : zm_end zp_P 28 out r) : zM 28 [.ref r0, .int i1] lay σ = some out :=
  zm_mean_go (M := zd_28) rfl (Nat.le_of_ble_eq_true rfl) (zm_blk_go (M := zd_28) rfl zs_28 12 (zp_28.drop 0) _ r (fun _ h => List.mem_of_mem_drop h) ((zr_28_0 lay σ r0 i1).trans h) hg)
/-! SubgroupWriter$Shelf.sum(I)J -/
theorem zs_29 : zm_srt zp_29 = true := by decide +kernel
noncomputable def zb_29_0 (lay : zm_Lay) (σ : zm_Sig) (r0 : Nat) (i1 : Int32) : Option (zm_St ⊕ zm_Out) :=
  some (.inl (5, [(0, .ref r0), (1, .int i1), (2, .long (Int64.ofNat 0)), (4, .int 0)], [], lay, σ, 0, 0))
set_option maxRecDepth 100000 in
theorem zr_29_0 (lay : zm_Lay) (σ : zm_Sig) (r0 : Nat) (i1 : Int32) : zm_blk zM zp_29 (some .long) 0 0 zc_29 24 (zp_29.drop 0) (0, [(0, .ref r0), (1, .int i1)], [], lay, σ, 0, 0) = zb_29_0 lay σ r0 i1 := rfl
theorem ze_29 {lay : zm_Lay} {σ : zm_Sig} {r0 : Nat} {i1 : Int32} {out : zm_Out} {r : zm_St ⊕ zm_Out} (h : zb_29_0 lay σ r0 i1 = some r) (hg : zm_end zp_P 29 out r) : zM 29 [.ref r0, .int i1] lay σ = some out :=
  zm_mean_go (M := zd_29) rfl (Nat.le_of_ble_eq_true rfl) (zm_blk_go (M := zd_29) rfl zs_29 24 (zp_29.drop 0) _ r (fun _ h => List.mem_of_mem_drop h) ((zr_29_0 lay σ r0 i1).trans h) hg)
noncomputable def zb_29_5 (lay : zm_Lay) (σ : zm_Sig) (r0 : Nat) (i1 : Int32) (l2 : Int64) (i4 : Int32) : Option (zm_St ⊕ zm_Out) :=
  (zm_is lay r0 5).bind fun _ => (zm_ai (zM 28 [.ref r0, .int i1] lay σ)).bind fun q1 =>
  if q1.1 ≤ i4 then (some (.inr (some (.long l2), q1.2.1, q1.2.2)))
  else ((zm_is q1.2.1 r0 5).bind fun _ =>
   zm_opt (q1.2.2.2.2 r0 0) (fun q2 =>
   (zm_gR q1.2.1 q1.2.2 q2 i1).bind fun o3 => zm_opt o3 (fun q4 =>
   (zm_gI q1.2.1 q1.2.2 q4 i4).bind fun v5 =>
   some (.inl (5, [(0, .ref r0), (1, .int i1), (2, .long (l2 + (v5 : Int32).toInt64)), (4, .int (i4 + 1))], [], q1.2.1, q1.2.2, 0, 0))) none) (none))
set_option maxRecDepth 100000 in
theorem zr_29_5 (lay : zm_Lay) (σ : zm_Sig) (r0 : Nat) (i1 : Int32) (l2 : Int64) (i4 : Int32) : zm_blk zM zp_29 (some .long) 0 0 zc_29 24 (zp_29.drop 4) (5, [(0, .ref r0), (1, .int i1), (2, .long l2), (4, .int i4)], [], lay, σ, 0, 0) = zb_29_5 lay σ r0 i1 l2 i4 := rfl
theorem zg_29_5 {lay : zm_Lay} {σ : zm_Sig} {r0 : Nat} {i1 : Int32} {l2 : Int64} {i4 : Int32} {out : zm_Out} {r : zm_St ⊕ zm_Out} (h : zb_29_5 lay σ r0 i1 l2 i4 = some r) (hg : zm_end zp_P 29 out r) : zm_go zp_P 29 (5, [(0, .ref r0), (1, .int i1), (2, .long l2), (4, .int i4)], [], lay, σ, 0, 0) out :=
  zm_blk_go (M := zd_29) rfl zs_29 24 (zp_29.drop 4) _ r (fun _ h => List.mem_of_mem_drop h) ((zr_29_5 lay σ r0 i1 l2 i4).trans h) hg
/-! SubgroupWriter.text(II)I -/
theorem zs_30 : zm_srt zp_30 = true := by decide +kernel
noncomputable def zb_30_0 (lay : zm_Lay) (σ : zm_Sig) (r0 : Nat) (i1 : Int32) (i2 : Int32) : Option (zm_St ⊕ zm_Out) :=
  (zm_is lay r0 9).bind fun _ =>
  zm_opt (σ.2.2 r0 1) (fun q1 =>
  (zm_is lay q1 5).bind fun _ => (zm_ai (zM 12 [.ref q1, .int i1] lay σ)).bind fun q2 =>
  if q2.1 = 0 then (some (.inr (some (.int (-1)), q2.2.1, q2.2.2)))
  else (if i2 ≤ (nI 60) then (if (0 : Int32) ≤ i2 then ((zm_is q2.2.1 r0 9).bind fun _ =>
     zm_opt (q2.2.2.2.2 r0 1) (fun q3 =>
     (zm_is q2.2.1 q3 5).bind fun _ => (zm_av (zM 14 [.ref q3, .int i1, .int i2, .int (nI 32)] q2.2.1 q2.2.2)).bind fun q4 =>
     some (.inr (some (.int i2), q4.1, q4.2))) (none))
    else ((zm_is q2.2.1 r0 9).bind fun _ => (zm_ai (zM 13 [.ref r0, .int (nI 5)] q2.2.1 q2.2.2)).bind fun q5 =>
     some (.inr (some (.int q5.1), q5.2.1, q5.2.2))))
   else (some (.inr (some (.int (-1)), q2.2.1, q2.2.2))))) (none)
set_option maxRecDepth 100000 in
theorem zr_30_0 (lay : zm_Lay) (σ : zm_Sig) (r0 : Nat) (i1 : Int32) (i2 : Int32) : zm_blk zM zp_30 (some .int) 0 0 zc_30 25 (zp_30.drop 0) (0, [(0, .ref r0), (1, .int i1), (2, .int i2)], [], lay, σ, 0, 0) = zb_30_0 lay σ r0 i1 i2 := rfl
theorem ze_30 {lay : zm_Lay} {σ : zm_Sig} {r0 : Nat} {i1 : Int32} {i2 : Int32} {out : zm_Out} {r : zm_St ⊕ zm_Out} (h : zb_30_0 lay σ r0 i1 i2 = some r) (hg : zm_end zp_P 30 out r) : zM 30 [.ref r0, .int i1, .int i2] lay σ = some out :=
  zm_mean_go (M := zd_30) rfl (Nat.le_of_ble_eq_true rfl) (zm_blk_go (M := zd_30) rfl zs_30 25 (zp_30.drop 0) _ r (fun _ h => List.mem_of_mem_drop h) ((zr_30_0 lay σ r0 i1 i2).trans h) hg)
/-! SubgroupWriter.put(III)I -/
theorem zs_31 : zm_srt zp_31 = true := by decide +kernel
noncomputable def zb_31_0 (lay : zm_Lay) (σ : zm_Sig) (r0 : Nat) (i1 : Int32) (i2 : Int32) (i3 : Int32) : Option (zm_St ⊕ zm_Out) :=
  (zm_is lay r0 9).bind fun _ =>
  zm_opt (σ.2.2 r0 1) (fun q1 =>
  (zm_is lay q1 5).bind fun _ => (zm_ai (zM 12 [.ref q1, .int i1] lay σ)).bind fun q2 =>
  if ¬ q2.1 = 0 then ((zm_is q2.2.1 r0 9).bind fun _ =>
   zm_opt (q2.2.2.2.2 r0 1) (fun q3 =>
   (zm_is q2.2.1 q3 5).bind fun _ => (zm_ai (zM 16 [.ref q3, .int i1] q2.2.1 q2.2.2)).bind fun q4 =>
   if q4.1 = 0 then ((zm_is q4.2.1 r0 9).bind fun _ =>
    zm_opt (q4.2.2.2.2 r0 1) (fun q5 =>
    (zm_is q4.2.1 q5 5).bind fun _ => (zm_ai (zM 17 [.ref q5, .int i1, .int i2] q4.2.1 q4.2.2)).bind fun q6 =>
    if ¬ q6.1 = 0 then ((zm_is q6.2.1 r0 9).bind fun _ =>
     zm_opt (q6.2.2.2.2 r0 1) (fun q7 =>
     (zm_is q6.2.1 q7 5).bind fun _ => (zm_ai (zM 18 [.ref q7, .int i1, .int i2] q6.2.1 q6.2.2)).bind fun q8 =>
     (zm_is q8.2.1 r0 9).bind fun _ =>
     zm_opt (q8.2.2.2.2 r0 1) (fun q9 =>
     (zm_is q8.2.1 q9 5).bind fun _ => (zm_av (zM 19 [.ref q9, .int i1, .int i2, .int (i3 : Int32).toInt8.toInt32] q8.2.1 q8.2.2)).bind fun q10 =>
     some (.inr (some (.int (q8.1 + (nI 1000))), q10.1, q10.2))) (none)) (none))
    else ((zm_is q6.2.1 r0 9).bind fun _ => (zm_ai (zM 13 [.ref r0, .int (nI 2)] q6.2.1 q6.2.2)).bind fun q11 =>
     some (.inr (some (.int q11.1), q11.2.1, q11.2.2)))) (none))
   else ((zm_is q4.2.1 r0 9).bind fun _ => (zm_ai (zM 13 [.ref r0, .int 1] q4.2.1 q4.2.2)).bind fun q12 =>
    some (.inr (some (.int q12.1), q12.2.1, q12.2.2)))) (none))
  else (some (.inr (some (.int (-1)), q2.2.1, q2.2.2)))) (none)
set_option maxRecDepth 100000 in
theorem zr_31_0 (lay : zm_Lay) (σ : zm_Sig) (r0 : Nat) (i1 : Int32) (i2 : Int32) (i3 : Int32) : zm_blk zM zp_31 (some .int) 0 0 zc_31 44 (zp_31.drop 0) (0, [(0, .ref r0), (1, .int i1), (2, .int i2), (3, .int i3)], [], lay, σ, 0, 0) = zb_31_0 lay σ r0 i1 i2 i3 := rfl
theorem ze_31 {lay : zm_Lay} {σ : zm_Sig} {r0 : Nat} {i1 : Int32} {i2 : Int32} {i3 : Int32} {out : zm_Out} {r : zm_St ⊕ zm_Out} (h : zb_31_0 lay σ r0 i1 i2 i3 = some r) (hg : zm_end zp_P 31 out r) : zM 31 [.ref r0, .int i1, .int i2, .int i3] lay σ = some out :=
  zm_mean_go (M := zd_31) rfl (Nat.le_of_ble_eq_true rfl) (zm_blk_go (M := zd_31) rfl zs_31 44 (zp_31.drop 0) _ r (fun _ h => List.mem_of_mem_drop h) ((zr_31_0 lay σ r0 i1 i2 i3).trans h) hg)
/-! SubgroupWriter.fault(I)I -/
theorem zs_32 : zm_srt zp_32 = true := by decide +kernel
noncomputable def zb_32_0 (lay : zm_Lay) (σ : zm_Sig) (r0 : Nat) (i1 : Int32) : Option (zm_St ⊕ zm_Out) :=
  (zm_is lay r0 9).bind fun _ =>
  zm_opt (σ.2.2 r0 1) (fun q1 =>
  (zm_is lay q1 5).bind fun _ => (zm_ai (zM 12 [.ref q1, .int i1] lay σ)).bind fun q2 =>
  if ¬ q2.1 = 0 then ((zm_is q2.2.1 r0 9).bind fun _ =>
   zm_opt (q2.2.2.2.2 r0 1) (fun q3 =>
   (zm_is q2.2.1 q3 5).bind fun _ => (zm_ai (zM 16 [.ref q3, .int i1] q2.2.1 q2.2.2)).bind fun q4 =>
   if q4.1 = 0 then ((zm_is q4.2.1 r0 9).bind fun _ =>
    zm_opt (q4.2.2.2.2 r0 2) (fun q5 =>
    (zm_is q4.2.1 r0 9).bind fun _ =>
    zm_opt (q4.2.2.2.2 r0 1) (fun q6 =>
    (zm_is q4.2.1 r0 9).bind fun _ =>
    zm_opt (q4.2.2.2.2 r0 12) (fun q7 =>
    (zm_is q4.2.1 q5 3).bind fun _ => (zm_ai (zM 33 [.ref q5, .ref q6, .int i1, .ref q7] q4.2.1 q4.2.2)).bind fun q8 =>
    some (.inr (some (.int q8.1), q8.2.1, q8.2.2))) (none)) (none)) (none))
   else ((zm_is q4.2.1 r0 9).bind fun _ => (zm_ai (zM 13 [.ref r0, .int 1] q4.2.1 q4.2.2)).bind fun q9 =>
    some (.inr (some (.int q9.1), q9.2.1, q9.2.2)))) (none))
  else (some (.inr (some (.int (-1)), q2.2.1, q2.2.2)))) (none)
set_option maxRecDepth 100000 in
theorem zr_32_0 (lay : zm_Lay) (σ : zm_Sig) (r0 : Nat) (i1 : Int32) : zm_blk zM zp_32 (some .int) 0 0 zc_32 26 (zp_32.drop 0) (0, [(0, .ref r0), (1, .int i1)], [], lay, σ, 0, 0) = zb_32_0 lay σ r0 i1 := rfl
theorem ze_32 {lay : zm_Lay} {σ : zm_Sig} {r0 : Nat} {i1 : Int32} {out : zm_Out} {r : zm_St ⊕ zm_Out} (h : zb_32_0 lay σ r0 i1 = some r) (hg : zm_end zp_P 32 out r) : zM 32 [.ref r0, .int i1] lay σ = some out :=
  zm_mean_go (M := zd_32) rfl (Nat.le_of_ble_eq_true rfl) (zm_blk_go (M := zd_32) rfl zs_32 26 (zp_32.drop 0) _ r (fun _ h => List.mem_of_mem_drop h) ((zr_32_0 lay σ r0 i1).trans h) hg)
/-! SubgroupWriter$Reader.readGroup(LSubgroupWriter$Shelf;ILSubgroupWriter$Group;)I -/
theorem zs_33 : zm_srt zp_33 = true := by decide +kernel
noncomputable def zb_33_0 (lay : zm_Lay) (σ : zm_Sig) (r0 : Nat) (r1 : Nat) (i2 : Int32) (r3 : Nat) : Option (zm_St ⊕ zm_Out) :=
  (zm_is lay r1 5).bind fun _ => (zm_ai (zM 28 [.ref r1, .int i2] lay σ)).bind fun q1 =>
  (zm_ai (zM 34 [.int (nI 60), .int q1.1] q1.2.1 q1.2.2)).bind fun q2 =>
  (zm_is q2.2.1 r0 3).bind fun _ => (zm_fw q2.2.2 r0 1 0 (.int q2.1)).bind fun s3 =>
  some (.inl (17, [(0, .ref r0), (1, .ref r1), (2, .int i2), (3, .ref r3), (4, .int 0)], [], q2.2.1, s3, 0, 0))
set_option maxRecDepth 100000 in
theorem zr_33_0 (lay : zm_Lay) (σ : zm_Sig) (r0 : Nat) (r1 : Nat) (i2 : Int32) (r3 : Nat) : zm_blk zM zp_33 (some .int) 0 0 zc_33 58 (zp_33.drop 0) (0, [(0, .ref r0), (1, .ref r1), (2, .int i2), (3, .ref r3)], [], lay, σ, 0, 0) = zb_33_0 lay σ r0 r1 i2 r3 := rfl
theorem ze_33 {lay : zm_Lay} {σ : zm_Sig} {r0 : Nat} {r1 : Nat} {i2 : Int32} {r3 : Nat} {out : zm_Out} {r : zm_St ⊕ zm_Out} (h : zb_33_0 lay σ r0 r1 i2 r3 = some r) (hg : zm_end zp_P 33 out r) : zM 33 [.ref r0, .ref r1, .int i2, .ref r3] lay σ = some out :=
  zm_mean_go (M := zd_33) rfl (Nat.le_of_ble_eq_true rfl) (zm_blk_go (M := zd_33) rfl zs_33 58 (zp_33.drop 0) _ r (fun _ h => List.mem_of_mem_drop h) ((zr_33_0 lay σ r0 r1 i2 r3).trans h) hg)
noncomputable def zb_33_17 (lay : zm_Lay) (σ : zm_Sig) (r0 : Nat) (r1 : Nat) (i2 : Int32) (r3 : Nat) (i4 : Int32) : Option (zm_St ⊕ zm_Out) :=
  (zm_is lay r0 3).bind fun _ =>
  if (σ.1 r0 1) ≤ i4 then ((zm_is lay r0 3).bind fun _ => (zm_fw σ r0 2 0 (.int 0)).bind fun s1 =>
   (zm_is lay r3 1).bind fun _ => (zm_av (zM 35 [.ref r3] lay s1)).bind fun q2 =>
   (zm_is q2.1 r0 3).bind fun _ => (zm_ai (zM 36 [.ref r0, .ref r3] q2.1 q2.2)).bind fun q3 =>
   if q3.1 = 0 then ((zm_is q3.2.1 r0 3).bind fun _ =>
    some (.inr (some (.int (q3.2.2.1 r0 2)), q3.2.1, q3.2.2)))
   else ((zm_is q3.2.1 r0 3).bind fun _ => (zm_ai (zM 42 [.ref r0, .ref r3] q3.2.1 q3.2.2)).bind fun q4 =>
    if ¬ q4.1 = 0 then ((zm_is q4.2.1 r0 3).bind fun _ => (zm_av (zM 37 [.ref r0] q4.2.1 q4.2.2)).bind fun q5 =>
     (zm_is q5.1 r0 3).bind fun _ =>
     (zm_is q5.1 r0 3).bind fun _ =>
     if (q5.2.1 r0 1) ≤ (q5.2.1 r0 2) then ((zm_is q5.1 r3 1).bind fun _ => (zm_ai (zM 48 [.ref r3] q5.1 q5.2)).bind fun q6 =>
      if q6.1 = 0 then ((zm_is q6.2.1 r0 3).bind fun _ =>
       some (.inr (some (.int (q6.2.2.1 r0 1)), q6.2.1, q6.2.2)))
      else (some (.inr (some (.int (-9)), q6.2.1, q6.2.2))))
     else ((zm_is q5.1 r0 3).bind fun _ =>
      some (.inr (some (.int (q5.2.1 r0 2)), q5.1, q5.2))))
    else ((zm_is q4.2.1 r0 3).bind fun _ =>
     some (.inr (some (.int (q4.2.2.1 r0 2)), q4.2.1, q4.2.2)))))
  else ((zm_is lay r0 3).bind fun _ =>
   zm_opt (σ.2.2 r0 0) (fun q7 =>
   (zm_is lay r1 5).bind fun _ => (zm_ai (zM 18 [.ref r1, .int i2, .int i4] lay σ)).bind fun q8 =>
   (zm_sI q8.2.1 q8.2.2 q7 i4 q8.1).bind fun s9 =>
   some (.inl (17, [(0, .ref r0), (1, .ref r1), (2, .int i2), (3, .ref r3), (4, .int (i4 + 1))], [], q8.2.1, s9, 0, 0))) (none))
set_option maxRecDepth 100000 in
theorem zr_33_17 (lay : zm_Lay) (σ : zm_Sig) (r0 : Nat) (r1 : Nat) (i2 : Int32) (r3 : Nat) (i4 : Int32) : zm_blk zM zp_33 (some .int) 0 0 zc_33 58 (zp_33.drop 9) (17, [(0, .ref r0), (1, .ref r1), (2, .int i2), (3, .ref r3), (4, .int i4)], [], lay, σ, 0, 0) = zb_33_17 lay σ r0 r1 i2 r3 i4 := rfl
theorem zg_33_17 {lay : zm_Lay} {σ : zm_Sig} {r0 : Nat} {r1 : Nat} {i2 : Int32} {r3 : Nat} {i4 : Int32} {out : zm_Out} {r : zm_St ⊕ zm_Out} (h : zb_33_17 lay σ r0 r1 i2 r3 i4 = some r) (hg : zm_end zp_P 33 out r) : zm_go zp_P 33 (17, [(0, .ref r0), (1, .ref r1), (2, .int i2), (3, .ref r3), (4, .int i4)], [], lay, σ, 0, 0) out :=
  zm_blk_go (M := zd_33) rfl zs_33 58 (zp_33.drop 9) _ r (fun _ h => List.mem_of_mem_drop h) ((zr_33_17 lay σ r0 r1 i2 r3 i4).trans h) hg
/-! java/lang/Math.min(II)I -/
theorem zs_34 : zm_srt zp_34 = true := by decide +kernel
noncomputable def zb_34_0 (lay : zm_Lay) (σ : zm_Sig) (i0 : Int32) (i1 : Int32) : Option (zm_St ⊕ zm_Out) :=
  if i1 < i0 then (some (.inr (some (.int i1), lay, σ)))
  else (some (.inr (some (.int i0), lay, σ)))
set_option maxRecDepth 100000 in
theorem zr_34_0 (lay : zm_Lay) (σ : zm_Sig) (i0 : Int32) (i1 : Int32) : zm_blk zM zp_34 (some .int) 0 0 zc_34 8 (zp_34.drop 0) (0, [(0, .int i0), (1, .int i1)], [], lay, σ, 0, 0) = zb_34_0 lay σ i0 i1 := rfl
theorem ze_34 {lay : zm_Lay} {σ : zm_Sig} {i0 : Int32} {i1 : Int32} {out : zm_Out} {r : zm_St ⊕ zm_Out} (h : zb_34_0 lay σ i0 i1 = some r) (hg : zm_end zp_P 34 out r) : zM 34 [.int i0, .int i1] lay σ = some out :=
  zm_mean_go (M := zd_34) rfl (Nat.le_of_ble_eq_true rfl) (zm_blk_go (M := zd_34) rfl zs_34 8 (zp_34.drop 0) _ r (fun _ h => List.mem_of_mem_drop h) ((zr_34_0 lay σ i0 i1).trans h) hg)
/-! SubgroupWriter$Group.empty()V -/
theorem zs_35 : zm_srt zp_35 = true := by decide +kernel
noncomputable def zb_35_0 (lay : zm_Lay) (σ : zm_Sig) (r0 : Nat) : Option (zm_St ⊕ zm_Out) :=
  (zm_is lay r0 1).bind fun _ => (zm_fw σ r0 0 0 (.int 0)).bind fun s1 =>
  (zm_is lay r0 1).bind fun _ => (zm_fw s1 r0 1 0 (.int 0)).bind fun s2 =>
  (zm_is lay r0 1).bind fun _ => (zm_fw s2 r0 2 0 (.int 0)).bind fun s3 =>
  some (.inl (17, [(0, .ref r0), (1, .int 0)], [], lay, s3, 0, 0))
set_option maxRecDepth 100000 in
theorem zr_35_0 (lay : zm_Lay) (σ : zm_Sig) (r0 : Nat) : zm_blk zM zp_35 none 0 0 zc_35 24 (zp_35.drop 0) (0, [(0, .ref r0)], [], lay, σ, 0, 0) = zb_35_0 lay σ r0 := rfl
theorem ze_35 {lay : zm_Lay} {σ : zm_Sig} {r0 : Nat} {out : zm_Out} {r : zm_St ⊕ zm_Out} (h : zb_35_0 lay σ r0 = some r) (hg : zm_end zp_P 35 out r) : zM 35 [.ref r0] lay σ = some out :=
  zm_mean_go (M := zd_35) rfl (Nat.le_of_ble_eq_true rfl) (zm_blk_go (M := zd_35) rfl zs_35 24 (zp_35.drop 0) _ r (fun _ h => List.mem_of_mem_drop h) ((zr_35_0 lay σ r0).trans h) hg)
noncomputable def zb_35_17 (lay : zm_Lay) (σ : zm_Sig) (r0 : Nat) (i1 : Int32) : Option (zm_St ⊕ zm_Out) :=
  if ((nI 6) : Int32) ≤ i1 then (some (.inr (none, lay, σ)))
  else ((zm_is lay r0 1).bind fun _ =>
   zm_opt (σ.2.2 r0 3) (fun q1 =>
   (zm_gR lay σ q1 i1).bind fun o2 => zm_opt o2 (fun q3 =>
   (zm_av (zM 2 [.ref q3, .int (-1)] lay σ)).bind fun q4 =>
   some (.inl (17, [(0, .ref r0), (1, .int (i1 + 1))], [], q4.1, q4.2, 0, 0))) none) (none))
set_option maxRecDepth 100000 in
theorem zr_35_17 (lay : zm_Lay) (σ : zm_Sig) (r0 : Nat) (i1 : Int32) : zm_blk zM zp_35 none 0 0 zc_35 24 (zp_35.drop 11) (17, [(0, .ref r0), (1, .int i1)], [], lay, σ, 0, 0) = zb_35_17 lay σ r0 i1 := rfl
theorem zg_35_17 {lay : zm_Lay} {σ : zm_Sig} {r0 : Nat} {i1 : Int32} {out : zm_Out} {r : zm_St ⊕ zm_Out} (h : zb_35_17 lay σ r0 i1 = some r) (hg : zm_end zp_P 35 out r) : zm_go zp_P 35 (17, [(0, .ref r0), (1, .int i1)], [], lay, σ, 0, 0) out :=
  zm_blk_go (M := zd_35) rfl zs_35 24 (zp_35.drop 11) _ r (fun _ h => List.mem_of_mem_drop h) ((zr_35_17 lay σ r0 i1).trans h) hg
/-! SubgroupWriter$Reader.readGenerators(LSubgroupWriter$Group;)Z -/
theorem zs_36 : zm_srt zp_36 = true := by decide +kernel
noncomputable def zb_36_0 (lay : zm_Lay) (σ : zm_Sig) (r0 : Nat) (r1 : Nat) : Option (zm_St ⊕ zm_Out) :=
  some (.inl (2, [(0, .ref r0), (1, .ref r1), (2, .int 0)], [], lay, σ, 0, 0))
set_option maxRecDepth 100000 in
theorem zr_36_0 (lay : zm_Lay) (σ : zm_Sig) (r0 : Nat) (r1 : Nat) : zm_blk zM zp_36 (some .boolean) 0 0 zc_36 61 (zp_36.drop 0) (0, [(0, .ref r0), (1, .ref r1)], [], lay, σ, 0, 0) = zb_36_0 lay σ r0 r1 := rfl
theorem ze_36 {lay : zm_Lay} {σ : zm_Sig} {r0 : Nat} {r1 : Nat} {out : zm_Out} {r : zm_St ⊕ zm_Out} (h : zb_36_0 lay σ r0 r1 = some r) (hg : zm_end zp_P 36 out r) : zM 36 [.ref r0, .ref r1] lay σ = some out :=
  zm_mean_go (M := zd_36) rfl (Nat.le_of_ble_eq_true rfl) (zm_blk_go (M := zd_36) rfl zs_36 61 (zp_36.drop 0) _ r (fun _ h => List.mem_of_mem_drop h) ((zr_36_0 lay σ r0 r1).trans h) hg)
noncomputable def zb_36_2 (lay : zm_Lay) (σ : zm_Sig) (r0 : Nat) (r1 : Nat) (i2 : Int32) : Option (zm_St ⊕ zm_Out) :=
  if ((nI 3) : Int32) ≤ i2 then (some (.inr (some (.int 1), lay, σ)))
  else ((zm_is lay r0 3).bind fun _ => (zm_av (zM 37 [.ref r0] lay σ)).bind fun q1 =>
   (zm_is q1.1 r0 3).bind fun _ => (zm_ai (zM 38 [.ref r0] q1.1 q1.2)).bind fun q2 =>
   if q2.1 = (((nI 97) : Int32) + i2) then ((zm_is q2.2.1 r0 3).bind fun _ =>
    (zm_is q2.2.1 r0 3).bind fun _ => (zm_fw q2.2.2 r0 2 0 (.int ((q2.2.2.1 r0 2) + 1))).bind fun s3 =>
    if ¬ i2 = 0 then ((zm_is q2.2.1 r1 1).bind fun _ =>
     if ((nI 2) : Int32) ≤ (s3.1 r1 0) then ((zm_is q2.2.1 r0 3).bind fun _ => (zm_ai (zM 41 [.ref r0, .ref r1, .int i2] q2.2.1 s3)).bind fun q4 =>
      if ¬ q4.1 = 0 then ((zm_is q4.2.1 r1 1).bind fun _ => (zm_fw q4.2.2 r1 1 0 (.int (i2 + 1))).bind fun s5 =>
       some (.inl (2, [(0, .ref r0), (1, .ref r1), (2, .int (i2 + 1))], [], q4.2.1, s5, 0, 0)))
      else (some (.inr (some (.int 0), q4.2.1, q4.2.2))))
     else ((zm_is q2.2.1 r0 3).bind fun _ =>
      (zm_is q2.2.1 r1 1).bind fun _ =>
      (zm_is q2.2.1 r0 3).bind fun _ => (zm_fw s3 r0 2 0 (.int ((s3.1 r0 2) + (s3.1 r1 0)))).bind fun s6 =>
      some (.inr (some (.int 0), q2.2.1, s6))))
    else ((zm_is q2.2.1 r0 3).bind fun _ => (zm_ai (zM 39 [.ref r0] q2.2.1 s3)).bind fun q7 =>
     (zm_is q7.2.1 r1 1).bind fun _ => (zm_fw q7.2.2 r1 0 0 (.int q7.1)).bind fun s8 =>
     (zm_is q7.2.1 r1 1).bind fun _ =>
     if ((nI 2) : Int32) ≤ (s8.1 r1 0) then ((zm_is q7.2.1 r0 3).bind fun _ => (zm_ai (zM 41 [.ref r0, .ref r1, .int i2] q7.2.1 s8)).bind fun q9 =>
      if ¬ q9.1 = 0 then ((zm_is q9.2.1 r1 1).bind fun _ => (zm_fw q9.2.2 r1 1 0 (.int (i2 + 1))).bind fun s10 =>
       some (.inl (2, [(0, .ref r0), (1, .ref r1), (2, .int (i2 + 1))], [], q9.2.1, s10, 0, 0)))
      else (some (.inr (some (.int 0), q9.2.1, q9.2.2))))
     else ((zm_is q7.2.1 r0 3).bind fun _ =>
      (zm_is q7.2.1 r1 1).bind fun _ =>
      (zm_is q7.2.1 r0 3).bind fun _ => (zm_fw s8 r0 2 0 (.int ((s8.1 r0 2) + (s8.1 r1 0)))).bind fun s11 =>
      some (.inr (some (.int 0), q7.2.1, s11)))))
   else (if i2 ≤ 0 then (some (.inr (some (.int 0), q2.2.1, q2.2.2)))
    else (some (.inr (some (.int 1), q2.2.1, q2.2.2)))))
set_option maxRecDepth 100000 in
theorem zr_36_2 (lay : zm_Lay) (σ : zm_Sig) (r0 : Nat) (r1 : Nat) (i2 : Int32) : zm_blk zM zp_36 (some .boolean) 0 0 zc_36 61 (zp_36.drop 2) (2, [(0, .ref r0), (1, .ref r1), (2, .int i2)], [], lay, σ, 0, 0) = zb_36_2 lay σ r0 r1 i2 := rfl
theorem zg_36_2 {lay : zm_Lay} {σ : zm_Sig} {r0 : Nat} {r1 : Nat} {i2 : Int32} {out : zm_Out} {r : zm_St ⊕ zm_Out} (h : zb_36_2 lay σ r0 r1 i2 = some r) (hg : zm_end zp_P 36 out r) : zm_go zp_P 36 (2, [(0, .ref r0), (1, .ref r1), (2, .int i2)], [], lay, σ, 0, 0) out :=
  zm_blk_go (M := zd_36) rfl zs_36 61 (zp_36.drop 2) _ r (fun _ h => List.mem_of_mem_drop h) ((zr_36_2 lay σ r0 r1 i2).trans h) hg
/-! SubgroupWriter$Reader.skipBlanks()V -/
theorem zs_37 : zm_srt zp_37 = true := by decide +kernel
noncomputable def zb_37_0 (lay : zm_Lay) (σ : zm_Sig) (r0 : Nat) : Option (zm_St ⊕ zm_Out) :=
  (zm_is lay r0 3).bind fun _ =>
  (zm_is lay r0 3).bind fun _ =>
  if (σ.1 r0 1) ≤ (σ.1 r0 2) then (some (.inr (none, lay, σ)))
  else ((zm_is lay r0 3).bind fun _ => (zm_ai (zM 38 [.ref r0] lay σ)).bind fun q1 =>
   if ¬ q1.1 = (nI 32) then (some (.inr (none, q1.2.1, q1.2.2)))
   else ((zm_is q1.2.1 r0 3).bind fun _ =>
    (zm_is q1.2.1 r0 3).bind fun _ => (zm_fw q1.2.2 r0 2 0 (.int ((q1.2.2.1 r0 2) + 1))).bind fun s2 =>
    some (.inl (0, [(0, .ref r0)], [], q1.2.1, s2, 0, 0))))
set_option maxRecDepth 100000 in
theorem zr_37_0 (lay : zm_Lay) (σ : zm_Sig) (r0 : Nat) : zm_blk zM zp_37 none 0 0 zc_37 18 (zp_37.drop 0) (0, [(0, .ref r0)], [], lay, σ, 0, 0) = zb_37_0 lay σ r0 := rfl
theorem ze_37 {lay : zm_Lay} {σ : zm_Sig} {r0 : Nat} {out : zm_Out} {r : zm_St ⊕ zm_Out} (h : zb_37_0 lay σ r0 = some r) (hg : zm_end zp_P 37 out r) : zM 37 [.ref r0] lay σ = some out :=
  zm_mean_go (M := zd_37) rfl (Nat.le_of_ble_eq_true rfl) (zm_blk_go (M := zd_37) rfl zs_37 18 (zp_37.drop 0) _ r (fun _ h => List.mem_of_mem_drop h) ((zr_37_0 lay σ r0).trans h) hg)
theorem zg_37_0 {lay : zm_Lay} {σ : zm_Sig} {r0 : Nat} {out : zm_Out} {r : zm_St ⊕ zm_Out} (h : zb_37_0 lay σ r0 = some r) (hg : zm_end zp_P 37 out r) : zm_go zp_P 37 (0, [(0, .ref r0)], [], lay, σ, 0, 0) out :=
  zm_blk_go (M := zd_37) rfl zs_37 18 (zp_37.drop 0) _ r (fun _ h => List.mem_of_mem_drop h) ((zr_37_0 lay σ r0).trans h) hg
/-! SubgroupWriter$Reader.signHere()I -/
theorem zs_38 : zm_srt zp_38 = true := by decide +kernel
noncomputable def zb_38_0 (lay : zm_Lay) (σ : zm_Sig) (r0 : Nat) : Option (zm_St ⊕ zm_Out) :=
  (zm_is lay r0 3).bind fun _ =>
  if (σ.1 r0 2) < 0 then (some (.inr (some (.int (nI 1000)), lay, σ)))
  else ((zm_is lay r0 3).bind fun _ =>
   (zm_is lay r0 3).bind fun _ =>
   if (σ.1 r0 1) ≤ (σ.1 r0 2) then (some (.inr (some (.int (nI 1000)), lay, σ)))
   else ((zm_is lay r0 3).bind fun _ =>
    zm_opt (σ.2.2 r0 0) (fun q1 =>
    (zm_is lay r0 3).bind fun _ =>
    (zm_gI lay σ q1 (σ.1 r0 2)).bind fun v2 =>
    some (.inr (some (.int v2), lay, σ))) (none)))
set_option maxRecDepth 100000 in
theorem zr_38_0 (lay : zm_Lay) (σ : zm_Sig) (r0 : Nat) : zm_blk zM zp_38 (some .int) 0 0 zc_38 17 (zp_38.drop 0) (0, [(0, .ref r0)], [], lay, σ, 0, 0) = zb_38_0 lay σ r0 := rfl
theorem ze_38 {lay : zm_Lay} {σ : zm_Sig} {r0 : Nat} {out : zm_Out} {r : zm_St ⊕ zm_Out} (h : zb_38_0 lay σ r0 = some r) (hg : zm_end zp_P 38 out r) : zM 38 [.ref r0] lay σ = some out :=
  zm_mean_go (M := zd_38) rfl (Nat.le_of_ble_eq_true rfl) (zm_blk_go (M := zd_38) rfl zs_38 17 (zp_38.drop 0) _ r (fun _ h => List.mem_of_mem_drop h) ((zr_38_0 lay σ r0).trans h) hg)
/-! SubgroupWriter$Reader.countFigures()I -/
theorem zs_39 : zm_srt zp_39 = true := by decide +kernel
noncomputable def zb_39_0 (lay : zm_Lay) (σ : zm_Sig) (r0 : Nat) : Option (zm_St ⊕ zm_Out) :=
  some (.inl (2, [(0, .ref r0), (1, .int 0)], [], lay, σ, 0, 0))
set_option maxRecDepth 100000 in
theorem zr_39_0 (lay : zm_Lay) (σ : zm_Sig) (r0 : Nat) : zm_blk zM zp_39 (some .int) 0 0 zc_39 26 (zp_39.drop 0) (0, [(0, .ref r0)], [], lay, σ, 0, 0) = zb_39_0 lay σ r0 := rfl
theorem ze_39 {lay : zm_Lay} {σ : zm_Sig} {r0 : Nat} {out : zm_Out} {r : zm_St ⊕ zm_Out} (h : zb_39_0 lay σ r0 = some r) (hg : zm_end zp_P 39 out r) : zM 39 [.ref r0] lay σ = some out :=
  zm_mean_go (M := zd_39) rfl (Nat.le_of_ble_eq_true rfl) (zm_blk_go (M := zd_39) rfl zs_39 26 (zp_39.drop 0) _ r (fun _ h => List.mem_of_mem_drop h) ((zr_39_0 lay σ r0).trans h) hg)
noncomputable def zb_39_2 (lay : zm_Lay) (σ : zm_Sig) (r0 : Nat) (i1 : Int32) : Option (zm_St ⊕ zm_Out) :=
  if ((nI 5) : Int32) ≤ i1 then (some (.inr (some (.int i1), lay, σ)))
  else ((zm_is lay r0 3).bind fun _ =>
   (zm_is lay r0 3).bind fun _ =>
   if (σ.1 r0 1) ≤ ((σ.1 r0 2) + i1) then (some (.inr (some (.int i1), lay, σ)))
   else ((zm_is lay r0 3).bind fun _ =>
    zm_opt (σ.2.2 r0 0) (fun q1 =>
    (zm_is lay r0 3).bind fun _ =>
    (zm_gI lay σ q1 ((σ.1 r0 2) + i1)).bind fun v2 =>
    (zm_ai (zM 40 [.int v2] lay σ)).bind fun q3 =>
    if q3.1 = 0 then (some (.inr (some (.int i1), q3.2.1, q3.2.2)))
    else (some (.inl (2, [(0, .ref r0), (1, .int (i1 + 1))], [], q3.2.1, q3.2.2, 0, 0)))) (none)))
set_option maxRecDepth 100000 in
theorem zr_39_2 (lay : zm_Lay) (σ : zm_Sig) (r0 : Nat) (i1 : Int32) : zm_blk zM zp_39 (some .int) 0 0 zc_39 26 (zp_39.drop 2) (2, [(0, .ref r0), (1, .int i1)], [], lay, σ, 0, 0) = zb_39_2 lay σ r0 i1 := rfl
theorem zg_39_2 {lay : zm_Lay} {σ : zm_Sig} {r0 : Nat} {i1 : Int32} {out : zm_Out} {r : zm_St ⊕ zm_Out} (h : zb_39_2 lay σ r0 i1 = some r) (hg : zm_end zp_P 39 out r) : zm_go zp_P 39 (2, [(0, .ref r0), (1, .int i1)], [], lay, σ, 0, 0) out :=
  zm_blk_go (M := zd_39) rfl zs_39 26 (zp_39.drop 2) _ r (fun _ h => List.mem_of_mem_drop h) ((zr_39_2 lay σ r0 i1).trans h) hg
/-! SubgroupWriter$Reader.isFigure(I)Z -/
theorem zs_40 : zm_srt zp_40 = true := by decide +kernel
noncomputable def zb_40_0 (lay : zm_Lay) (σ : zm_Sig) (i0 : Int32) : Option (zm_St ⊕ zm_Out) :=
  if i0 < (nI 48) then (some (.inr (some (.int 0), lay, σ)))
  else (if ((nI 58) : Int32) ≤ i0 then (some (.inr (some (.int 0), lay, σ)))
   else (some (.inr (some (.int 1), lay, σ))))
set_option maxRecDepth 100000 in
theorem zr_40_0 (lay : zm_Lay) (σ : zm_Sig) (i0 : Int32) : zm_blk zM zp_40 (some .boolean) 0 0 zc_40 11 (zp_40.drop 0) (0, [(0, .int i0)], [], lay, σ, 0, 0) = zb_40_0 lay σ i0 := rfl
theorem ze_40 {lay : zm_Lay} {σ : zm_Sig} {i0 : Int32} {out : zm_Out} {r : zm_St ⊕ zm_Out} (h : zb_40_0 lay σ i0 = some r) (hg : zm_end zp_P 40 out r) : zM 40 [.int i0] lay σ = some out :=
  zm_mean_go (M := zd_40) rfl (Nat.le_of_ble_eq_true rfl) (zm_blk_go (M := zd_40) rfl zs_40 11 (zp_40.drop 0) _ r (fun _ h => List.mem_of_mem_drop h) ((zr_40_0 lay σ i0).trans h) hg)
/-! SubgroupWriter$Reader.readFigures(LSubgroupWriter$Group;I)Z -/
theorem zs_41 : zm_srt zp_41 = true := by decide +kernel
noncomputable def zb_41_0 (lay : zm_Lay) (σ : zm_Sig) (r0 : Nat) (r1 : Nat) (i2 : Int32) : Option (zm_St ⊕ zm_Out) :=
  some (.inl (2, [(0, .ref r0), (1, .ref r1), (2, .int i2), (3, .int 0)], [], lay, σ, 0, 0))
set_option maxRecDepth 100000 in
theorem zr_41_0 (lay : zm_Lay) (σ : zm_Sig) (r0 : Nat) (r1 : Nat) (i2 : Int32) : zm_blk zM zp_41 (some .boolean) 0 0 zc_41 62 (zp_41.drop 0) (0, [(0, .ref r0), (1, .ref r1), (2, .int i2)], [], lay, σ, 0, 0) = zb_41_0 lay σ r0 r1 i2 := rfl
theorem ze_41 {lay : zm_Lay} {σ : zm_Sig} {r0 : Nat} {r1 : Nat} {i2 : Int32} {out : zm_Out} {r : zm_St ⊕ zm_Out} (h : zb_41_0 lay σ r0 r1 i2 = some r) (hg : zm_end zp_P 41 out r) : zM 41 [.ref r0, .ref r1, .int i2] lay σ = some out :=
  zm_mean_go (M := zd_41) rfl (Nat.le_of_ble_eq_true rfl) (zm_blk_go (M := zd_41) rfl zs_41 62 (zp_41.drop 0) _ r (fun _ h => List.mem_of_mem_drop h) ((zr_41_0 lay σ r0 r1 i2).trans h) hg)
noncomputable def zb_41_2 (lay : zm_Lay) (σ : zm_Sig) (r0 : Nat) (r1 : Nat) (i2 : Int32) (i3 : Int32) : Option (zm_St ⊕ zm_Out) :=
  (zm_is lay r1 1).bind fun _ =>
  if (σ.1 r1 0) ≤ i3 then (some (.inr (some (.int 1), lay, σ)))
  else ((zm_is lay r0 3).bind fun _ => (zm_ai (zM 38 [.ref r0] lay σ)).bind fun q1 =>
   if (q1.1 - (nI 48)) < 0 then (some (.inr (some (.int 0), q1.2.1, q1.2.2)))
   else ((zm_is q1.2.1 r1 1).bind fun _ =>
    if (q1.2.2.1 r1 0) ≤ (q1.1 - (nI 48)) then (some (.inr (some (.int 0), q1.2.1, q1.2.2)))
    else ((zm_is q1.2.1 r1 1).bind fun _ =>
     zm_opt (q1.2.2.2.2 r1 3) (fun q2 =>
     (zm_gR q1.2.1 q1.2.2 q2 ((((nI 2) : Int32) * i2) + 1)).bind fun o3 => zm_opt o3 (fun q4 =>
     (zm_gI q1.2.1 q1.2.2 q4 (q1.1 - (nI 48))).bind fun v5 =>
     if v5 = (-1) then ((zm_is q1.2.1 r1 1).bind fun _ =>
      zm_opt (q1.2.2.2.2 r1 3) (fun q6 =>
      (zm_gR q1.2.1 q1.2.2 q6 (((nI 2) : Int32) * i2)).bind fun o7 => zm_opt o7 (fun q8 =>
      (zm_sI q1.2.1 q1.2.2 q8 i3 (q1.1 - (nI 48))).bind fun s9 =>
      (zm_is q1.2.1 r1 1).bind fun _ =>
      zm_opt (s9.2.2 r1 3) (fun q10 =>
      (zm_gR q1.2.1 s9 q10 ((((nI 2) : Int32) * i2) + 1)).bind fun o11 => zm_opt o11 (fun q12 =>
      (zm_sI q1.2.1 s9 q12 (q1.1 - (nI 48)) i3).bind fun s13 =>
      (zm_is q1.2.1 r0 3).bind fun _ =>
      (zm_is q1.2.1 r0 3).bind fun _ => (zm_fw s13 r0 2 0 (.int ((s13.1 r0 2) + 1))).bind fun s14 =>
      some (.inl (2, [(0, .ref r0), (1, .ref r1), (2, .int i2), (3, .int (i3 + 1))], [], q1.2.1, s14, 0, 0))) none) (none)) none) (none))
     else (some (.inr (some (.int 0), q1.2.1, q1.2.2)))) none) (none))))
set_option maxRecDepth 100000 in
theorem zr_41_2 (lay : zm_Lay) (σ : zm_Sig) (r0 : Nat) (r1 : Nat) (i2 : Int32) (i3 : Int32) : zm_blk zM zp_41 (some .boolean) 0 0 zc_41 62 (zp_41.drop 2) (2, [(0, .ref r0), (1, .ref r1), (2, .int i2), (3, .int i3)], [], lay, σ, 0, 0) = zb_41_2 lay σ r0 r1 i2 i3 := rfl
theorem zg_41_2 {lay : zm_Lay} {σ : zm_Sig} {r0 : Nat} {r1 : Nat} {i2 : Int32} {i3 : Int32} {out : zm_Out} {r : zm_St ⊕ zm_Out} (h : zb_41_2 lay σ r0 r1 i2 i3 = some r) (hg : zm_end zp_P 41 out r) : zm_go zp_P 41 (2, [(0, .ref r0), (1, .ref r1), (2, .int i2), (3, .int i3)], [], lay, σ, 0, 0) out :=
  zm_blk_go (M := zd_41) rfl zs_41 62 (zp_41.drop 2) _ r (fun _ h => List.mem_of_mem_drop h) ((zr_41_2 lay σ r0 r1 i2 i3).trans h) hg
/-! SubgroupWriter$Reader.readRelators(LSubgroupWriter$Group;)Z -/
theorem zs_42 : zm_srt zp_42 = true := by decide +kernel
noncomputable def zb_42_0 (lay : zm_Lay) (σ : zm_Sig) (r0 : Nat) (r1 : Nat) : Option (zm_St ⊕ zm_Out) :=
  some (.inl (2, [(0, .ref r0), (1, .ref r1), (2, .int 0)], [], lay, σ, 0, 0))
set_option maxRecDepth 100000 in
theorem zr_42_0 (lay : zm_Lay) (σ : zm_Sig) (r0 : Nat) (r1 : Nat) : zm_blk zM zp_42 (some .boolean) 0 0 zc_42 48 (zp_42.drop 0) (0, [(0, .ref r0), (1, .ref r1)], [], lay, σ, 0, 0) = zb_42_0 lay σ r0 r1 := rfl
theorem ze_42 {lay : zm_Lay} {σ : zm_Sig} {r0 : Nat} {r1 : Nat} {out : zm_Out} {r : zm_St ⊕ zm_Out} (h : zb_42_0 lay σ r0 r1 = some r) (hg : zm_end zp_P 42 out r) : zM 42 [.ref r0, .ref r1] lay σ = some out :=
  zm_mean_go (M := zd_42) rfl (Nat.le_of_ble_eq_true rfl) (zm_blk_go (M := zd_42) rfl zs_42 48 (zp_42.drop 0) _ r (fun _ h => List.mem_of_mem_drop h) ((zr_42_0 lay σ r0 r1).trans h) hg)
noncomputable def zb_42_2 (lay : zm_Lay) (σ : zm_Sig) (r0 : Nat) (r1 : Nat) (i2 : Int32) : Option (zm_St ⊕ zm_Out) :=
  if ((nI 3) : Int32) ≤ i2 then (some (.inr (some (.int 1), lay, σ)))
  else ((zm_is lay r0 3).bind fun _ => (zm_av (zM 37 [.ref r0] lay σ)).bind fun q1 =>
   (zm_is q1.1 r0 3).bind fun _ => (zm_ai (zM 38 [.ref r0] q1.1 q1.2)).bind fun q2 =>
   if q2.1 = (nI 61) then ((zm_is q2.2.1 r0 3).bind fun _ =>
    (zm_is q2.2.1 r0 3).bind fun _ =>
    (zm_is q2.2.1 r0 3).bind fun _ => (zm_fw q2.2.2 r0 2 0 (.int ((q2.2.2.1 r0 2) + 1))).bind fun s3 =>
    (zm_is q2.2.1 r0 3).bind fun _ => (zm_ai (zM 43 [.ref r0, .ref r1, .int i2] q2.2.1 s3)).bind fun q4 =>
    if ¬ q4.1 = 0 then ((zm_is q4.2.1 r1 1).bind fun _ => (zm_ai (zM 46 [.ref r1, .int i2] q4.2.1 q4.2.2)).bind fun q5 =>
     if ¬ q5.1 = 0 then ((zm_is q5.2.1 r1 1).bind fun _ => (zm_fw q5.2.2 r1 2 0 (.int (i2 + 1))).bind fun s6 =>
      some (.inl (2, [(0, .ref r0), (1, .ref r1), (2, .int (i2 + 1))], [], q5.2.1, s6, 0, 0)))
     else ((zm_is q5.2.1 r0 3).bind fun _ => (zm_fw q5.2.2 r0 2 0 (.int (q2.2.2.1 r0 2))).bind fun s7 =>
      some (.inr (some (.int 0), q5.2.1, s7))))
    else (some (.inr (some (.int 0), q4.2.1, q4.2.2))))
   else (some (.inr (some (.int 1), q2.2.1, q2.2.2))))
set_option maxRecDepth 100000 in
theorem zr_42_2 (lay : zm_Lay) (σ : zm_Sig) (r0 : Nat) (r1 : Nat) (i2 : Int32) : zm_blk zM zp_42 (some .boolean) 0 0 zc_42 48 (zp_42.drop 2) (2, [(0, .ref r0), (1, .ref r1), (2, .int i2)], [], lay, σ, 0, 0) = zb_42_2 lay σ r0 r1 i2 := rfl
theorem zg_42_2 {lay : zm_Lay} {σ : zm_Sig} {r0 : Nat} {r1 : Nat} {i2 : Int32} {out : zm_Out} {r : zm_St ⊕ zm_Out} (h : zb_42_2 lay σ r0 r1 i2 = some r) (hg : zm_end zp_P 42 out r) : zm_go zp_P 42 (2, [(0, .ref r0), (1, .ref r1), (2, .int i2)], [], lay, σ, 0, 0) out :=
  zm_blk_go (M := zd_42) rfl zs_42 48 (zp_42.drop 2) _ r (fun _ h => List.mem_of_mem_drop h) ((zr_42_2 lay σ r0 r1 i2).trans h) hg
/-! SubgroupWriter$Reader.readLetters(LSubgroupWriter$Group;I)Z -/
theorem zs_43 : zm_srt zp_43 = true := by decide +kernel
noncomputable def zb_43_0 (lay : zm_Lay) (σ : zm_Sig) (r0 : Nat) (r1 : Nat) (i2 : Int32) : Option (zm_St ⊕ zm_Out) :=
  some (.inl (2, [(0, .ref r0), (1, .ref r1), (2, .int i2), (3, .int 0)], [], lay, σ, 0, 0))
set_option maxRecDepth 100000 in
theorem zr_43_0 (lay : zm_Lay) (σ : zm_Sig) (r0 : Nat) (r1 : Nat) (i2 : Int32) : zm_blk zM zp_43 (some .boolean) 0 0 zc_43 46 (zp_43.drop 0) (0, [(0, .ref r0), (1, .ref r1), (2, .int i2)], [], lay, σ, 0, 0) = zb_43_0 lay σ r0 r1 i2 := rfl
theorem ze_43 {lay : zm_Lay} {σ : zm_Sig} {r0 : Nat} {r1 : Nat} {i2 : Int32} {out : zm_Out} {r : zm_St ⊕ zm_Out} (h : zb_43_0 lay σ r0 r1 i2 = some r) (hg : zm_end zp_P 43 out r) : zM 43 [.ref r0, .ref r1, .int i2] lay σ = some out :=
  zm_mean_go (M := zd_43) rfl (Nat.le_of_ble_eq_true rfl) (zm_blk_go (M := zd_43) rfl zs_43 46 (zp_43.drop 0) _ r (fun _ h => List.mem_of_mem_drop h) ((zr_43_0 lay σ r0 r1 i2).trans h) hg)
noncomputable def zb_43_2 (lay : zm_Lay) (σ : zm_Sig) (r0 : Nat) (r1 : Nat) (i2 : Int32) (i3 : Int32) : Option (zm_St ⊕ zm_Out) :=
  if ((nI 8) : Int32) < i3 then ((zm_is lay r1 1).bind fun _ =>
   zm_opt (σ.2.2 r1 5) (fun q1 =>
   (zm_sI lay σ q1 i2 i3).bind fun s2 =>
   if i3 ≤ 0 then (some (.inr (some (.int 0), lay, s2)))
   else (some (.inr (some (.int 1), lay, s2)))) (none))
  else ((zm_is lay r0 3).bind fun _ => (zm_ai (zM 44 [.ref r0] lay σ)).bind fun q3 =>
   if q3.1 = 0 then ((zm_is q3.2.1 r1 1).bind fun _ =>
    zm_opt (q3.2.2.2.2 r1 5) (fun q4 =>
    (zm_sI q3.2.1 q3.2.2 q4 i2 i3).bind fun s5 =>
    if i3 ≤ 0 then (some (.inr (some (.int 0), q3.2.1, s5)))
    else (some (.inr (some (.int 1), q3.2.1, s5)))) (none))
   else (if i3 = (nI 8) then (some (.inr (some (.int 0), q3.2.1, q3.2.2)))
    else ((zm_is q3.2.1 r0 3).bind fun _ => (zm_ai (zM 44 [.ref r0] q3.2.1 q3.2.2)).bind fun q6 =>
     (zm_is q6.2.1 r1 1).bind fun _ => (zm_ai (zM 45 [.ref r1, .int q6.1] q6.2.1 q6.2.2)).bind fun q7 =>
     if ¬ q7.1 = 0 then ((zm_is q7.2.1 r1 1).bind fun _ =>
      zm_opt (q7.2.2.2.2 r1 4) (fun q8 =>
      (zm_gR q7.2.1 q7.2.2 q8 i2).bind fun o9 => zm_opt o9 (fun q10 =>
      (zm_is q7.2.1 r0 3).bind fun _ => (zm_ai (zM 44 [.ref r0] q7.2.1 q7.2.2)).bind fun q11 =>
      (zm_sI q11.2.1 q11.2.2 q10 i3 q11.1).bind fun s12 =>
      (zm_is q11.2.1 r0 3).bind fun _ =>
      (zm_is q11.2.1 r0 3).bind fun _ => (zm_fw s12 r0 2 0 (.int ((s12.1 r0 2) + 1))).bind fun s13 =>
      some (.inl (2, [(0, .ref r0), (1, .ref r1), (2, .int i2), (3, .int (i3 + 1))], [], q11.2.1, s13, 0, 0))) none) (none))
     else (some (.inr (some (.int 0), q7.2.1, q7.2.2))))))
set_option maxRecDepth 100000 in
theorem zr_43_2 (lay : zm_Lay) (σ : zm_Sig) (r0 : Nat) (r1 : Nat) (i2 : Int32) (i3 : Int32) : zm_blk zM zp_43 (some .boolean) 0 0 zc_43 46 (zp_43.drop 2) (2, [(0, .ref r0), (1, .ref r1), (2, .int i2), (3, .int i3)], [], lay, σ, 0, 0) = zb_43_2 lay σ r0 r1 i2 i3 := rfl
theorem zg_43_2 {lay : zm_Lay} {σ : zm_Sig} {r0 : Nat} {r1 : Nat} {i2 : Int32} {i3 : Int32} {out : zm_Out} {r : zm_St ⊕ zm_Out} (h : zb_43_2 lay σ r0 r1 i2 i3 = some r) (hg : zm_end zp_P 43 out r) : zm_go zp_P 43 (2, [(0, .ref r0), (1, .ref r1), (2, .int i2), (3, .int i3)], [], lay, σ, 0, 0) out :=
  zm_blk_go (M := zd_43) rfl zs_43 46 (zp_43.drop 2) _ r (fun _ h => List.mem_of_mem_drop h) ((zr_43_2 lay σ r0 r1 i2 i3).trans h) hg
/-! SubgroupWriter$Reader.letterHere()I -/
theorem zs_44 : zm_srt zp_44 = true := by decide +kernel
noncomputable def zb_44_0 (lay : zm_Lay) (σ : zm_Sig) (r0 : Nat) : Option (zm_St ⊕ zm_Out) :=
  (zm_is lay r0 3).bind fun _ => (zm_ai (zM 38 [.ref r0] lay σ)).bind fun q1 =>
  if q1.1 < (nI 97) then (if q1.1 < (nI 65) then (some (.inr (some (.int 0), q1.2.1, q1.2.2)))
   else (if ((nI 68) : Int32) ≤ q1.1 then (some (.inr (some (.int 0), q1.2.1, q1.2.2)))
    else (some (.inr (some (.int ((((nI 65) : Int32) - q1.1) - 1)), q1.2.1, q1.2.2)))))
  else (if ((nI 100) : Int32) ≤ q1.1 then (if q1.1 < (nI 65) then (some (.inr (some (.int 0), q1.2.1, q1.2.2)))
    else (if ((nI 68) : Int32) ≤ q1.1 then (some (.inr (some (.int 0), q1.2.1, q1.2.2)))
     else (some (.inr (some (.int ((((nI 65) : Int32) - q1.1) - 1)), q1.2.1, q1.2.2)))))
   else (some (.inr (some (.int ((q1.1 - (nI 97)) + 1)), q1.2.1, q1.2.2))))
set_option maxRecDepth 100000 in
theorem zr_44_0 (lay : zm_Lay) (σ : zm_Sig) (r0 : Nat) : zm_blk zM zp_44 (some .int) 0 0 zc_44 30 (zp_44.drop 0) (0, [(0, .ref r0)], [], lay, σ, 0, 0) = zb_44_0 lay σ r0 := rfl
theorem ze_44 {lay : zm_Lay} {σ : zm_Sig} {r0 : Nat} {out : zm_Out} {r : zm_St ⊕ zm_Out} (h : zb_44_0 lay σ r0 = some r) (hg : zm_end zp_P 44 out r) : zM 44 [.ref r0] lay σ = some out :=
  zm_mean_go (M := zd_44) rfl (Nat.le_of_ble_eq_true rfl) (zm_blk_go (M := zd_44) rfl zs_44 30 (zp_44.drop 0) _ r (fun _ h => List.mem_of_mem_drop h) ((zr_44_0 lay σ r0).trans h) hg)
/-! SubgroupWriter$Group.isLetter(I)Z -/
theorem zs_45 : zm_srt zp_45 = true := by decide +kernel
noncomputable def zb_45_0 (lay : zm_Lay) (σ : zm_Sig) (r0 : Nat) (i1 : Int32) : Option (zm_St ⊕ zm_Out) :=
  if i1 = 0 then (some (.inr (some (.int 0), lay, σ)))
  else ((zm_is lay r0 1).bind fun _ =>
   if i1 < (-(σ.1 r0 1)) then (some (.inr (some (.int 0), lay, σ)))
   else ((zm_is lay r0 1).bind fun _ =>
    if (σ.1 r0 1) < i1 then (some (.inr (some (.int 0), lay, σ)))
    else (some (.inr (some (.int 1), lay, σ)))))
set_option maxRecDepth 100000 in
theorem zr_45_0 (lay : zm_Lay) (σ : zm_Sig) (r0 : Nat) (i1 : Int32) : zm_blk zM zp_45 (some .boolean) 0 0 zc_45 16 (zp_45.drop 0) (0, [(0, .ref r0), (1, .int i1)], [], lay, σ, 0, 0) = zb_45_0 lay σ r0 i1 := rfl
theorem ze_45 {lay : zm_Lay} {σ : zm_Sig} {r0 : Nat} {i1 : Int32} {out : zm_Out} {r : zm_St ⊕ zm_Out} (h : zb_45_0 lay σ r0 i1 = some r) (hg : zm_end zp_P 45 out r) : zM 45 [.ref r0, .int i1] lay σ = some out :=
  zm_mean_go (M := zd_45) rfl (Nat.le_of_ble_eq_true rfl) (zm_blk_go (M := zd_45) rfl zs_45 16 (zp_45.drop 0) _ r (fun _ h => List.mem_of_mem_drop h) ((zr_45_0 lay σ r0 i1).trans h) hg)
/-! SubgroupWriter$Group.leavesAll(I)Z -/
theorem zs_46 : zm_srt zp_46 = true := by decide +kernel
noncomputable def zb_46_0 (lay : zm_Lay) (σ : zm_Sig) (r0 : Nat) (i1 : Int32) : Option (zm_St ⊕ zm_Out) :=
  some (.inl (2, [(0, .ref r0), (1, .int i1), (2, .int 0)], [], lay, σ, 0, 0))
set_option maxRecDepth 100000 in
theorem zr_46_0 (lay : zm_Lay) (σ : zm_Sig) (r0 : Nat) (i1 : Int32) : zm_blk zM zp_46 (some .boolean) 0 0 zc_46 38 (zp_46.drop 0) (0, [(0, .ref r0), (1, .int i1)], [], lay, σ, 0, 0) = zb_46_0 lay σ r0 i1 := rfl
theorem ze_46 {lay : zm_Lay} {σ : zm_Sig} {r0 : Nat} {i1 : Int32} {out : zm_Out} {r : zm_St ⊕ zm_Out} (h : zb_46_0 lay σ r0 i1 = some r) (hg : zm_end zp_P 46 out r) : zM 46 [.ref r0, .int i1] lay σ = some out :=
  zm_mean_go (M := zd_46) rfl (Nat.le_of_ble_eq_true rfl) (zm_blk_go (M := zd_46) rfl zs_46 38 (zp_46.drop 0) _ r (fun _ h => List.mem_of_mem_drop h) ((zr_46_0 lay σ r0 i1).trans h) hg)
noncomputable def zb_46_2 (lay : zm_Lay) (σ : zm_Sig) (r0 : Nat) (i1 : Int32) (i2 : Int32) : Option (zm_St ⊕ zm_Out) :=
  (zm_is lay r0 1).bind fun _ =>
  if (σ.1 r0 0) ≤ i2 then (some (.inr (some (.int 1), lay, σ)))
  else (some (.inl (15, [(0, .ref r0), (1, .int i1), (2, .int i2), (3, .int i2), (4, .int 0)], [], lay, σ, 0, 0)))
set_option maxRecDepth 100000 in
theorem zr_46_2 (lay : zm_Lay) (σ : zm_Sig) (r0 : Nat) (i1 : Int32) (i2 : Int32) : zm_blk zM zp_46 (some .boolean) 0 0 zc_46 38 (zp_46.drop 2) (2, [(0, .ref r0), (1, .int i1), (2, .int i2)], [], lay, σ, 0, 0) = zb_46_2 lay σ r0 i1 i2 := rfl
theorem zg_46_2 {lay : zm_Lay} {σ : zm_Sig} {r0 : Nat} {i1 : Int32} {i2 : Int32} {out : zm_Out} {r : zm_St ⊕ zm_Out} (h : zb_46_2 lay σ r0 i1 i2 = some r) (hg : zm_end zp_P 46 out r) : zm_go zp_P 46 (2, [(0, .ref r0), (1, .int i1), (2, .int i2)], [], lay, σ, 0, 0) out :=
  zm_blk_go (M := zd_46) rfl zs_46 38 (zp_46.drop 2) _ r (fun _ h => List.mem_of_mem_drop h) ((zr_46_2 lay σ r0 i1 i2).trans h) hg
noncomputable def zb_46_15 (lay : zm_Lay) (σ : zm_Sig) (r0 : Nat) (i1 : Int32) (i2 : Int32) (i3 : Int32) (i4 : Int32) : Option (zm_St ⊕ zm_Out) :=
  (zm_is lay r0 1).bind fun _ =>
  zm_opt (σ.2.2 r0 5) (fun q1 =>
  (zm_gI lay σ q1 i1).bind fun v2 =>
  if v2 ≤ i4 then (if i3 = i2 then (some (.inl (2, [(0, .ref r0), (1, .int i1), (2, .int (i2 + 1))], [], lay, σ, 0, 0)))
   else (some (.inr (some (.int 0), lay, σ))))
  else ((zm_is lay r0 1).bind fun _ =>
   zm_opt (σ.2.2 r0 4) (fun q3 =>
   (zm_gR lay σ q3 i1).bind fun o4 => zm_opt o4 (fun q5 =>
   (zm_gI lay σ q5 i4).bind fun v6 =>
   (zm_is lay r0 1).bind fun _ => (zm_ai (zM 47 [.ref r0, .int i3, .int v6] lay σ)).bind fun q7 =>
   some (.inl (15, [(0, .ref r0), (1, .int i1), (2, .int i2), (3, .int q7.1), (4, .int (i4 + 1))], [], q7.2.1, q7.2.2, 0, 0))) none) (none))) (none)
set_option maxRecDepth 100000 in
theorem zr_46_15 (lay : zm_Lay) (σ : zm_Sig) (r0 : Nat) (i1 : Int32) (i2 : Int32) (i3 : Int32) (i4 : Int32) : zm_blk zM zp_46 (some .boolean) 0 0 zc_46 38 (zp_46.drop 10) (15, [(0, .ref r0), (1, .int i1), (2, .int i2), (3, .int i3), (4, .int i4)], [], lay, σ, 0, 0) = zb_46_15 lay σ r0 i1 i2 i3 i4 := rfl
theorem zg_46_15 {lay : zm_Lay} {σ : zm_Sig} {r0 : Nat} {i1 : Int32} {i2 : Int32} {i3 : Int32} {i4 : Int32} {out : zm_Out} {r : zm_St ⊕ zm_Out} (h : zb_46_15 lay σ r0 i1 i2 i3 i4 = some r) (hg : zm_end zp_P 46 out r) : zm_go zp_P 46 (15, [(0, .ref r0), (1, .int i1), (2, .int i2), (3, .int i3), (4, .int i4)], [], lay, σ, 0, 0) out :=
  zm_blk_go (M := zd_46) rfl zs_46 38 (zp_46.drop 10) _ r (fun _ h => List.mem_of_mem_drop h) ((zr_46_15 lay σ r0 i1 i2 i3 i4).trans h) hg
/-! SubgroupWriter$Group.moved(II)I -/
theorem zs_47 : zm_srt zp_47 = true := by decide +kernel
noncomputable def zb_47_0 (lay : zm_Lay) (σ : zm_Sig) (r0 : Nat) (i1 : Int32) (i2 : Int32) : Option (zm_St ⊕ zm_Out) :=
  if i1 < 0 then (some (.inr (some (.int 0), lay, σ)))
  else ((zm_is lay r0 1).bind fun _ =>
   if i1 < (σ.1 r0 0) then (if i2 = 0 then (some (.inr (some (.int 0), lay, σ)))
    else ((zm_is lay r0 1).bind fun _ =>
     if i2 < (-(σ.1 r0 1)) then (some (.inr (some (.int 0), lay, σ)))
     else ((zm_is lay r0 1).bind fun _ =>
      if i2 ≤ (σ.1 r0 1) then ((zm_is lay r0 1).bind fun _ =>
       zm_opt (σ.2.2 r0 3) (fun q1 =>
       if i2 ≤ 0 then ((zm_gR lay σ q1 ((((nI 2) : Int32) * ((-i2) - 1)) + 1)).bind fun o2 => zm_opt o2 (fun q3 =>
        (zm_gI lay σ q3 i1).bind fun v4 =>
        some (.inr (some (.int v4), lay, σ))) none)
       else ((zm_gR lay σ q1 (((nI 2) : Int32) * (i2 - 1))).bind fun o5 => zm_opt o5 (fun q6 =>
        (zm_gI lay σ q6 i1).bind fun v7 =>
        some (.inr (some (.int v7), lay, σ))) none)) (none))
      else (some (.inr (some (.int 0), lay, σ))))))
   else (some (.inr (some (.int 0), lay, σ))))
set_option maxRecDepth 100000 in
theorem zr_47_0 (lay : zm_Lay) (σ : zm_Sig) (r0 : Nat) (i1 : Int32) (i2 : Int32) : zm_blk zM zp_47 (some .int) 0 0 zc_47 44 (zp_47.drop 0) (0, [(0, .ref r0), (1, .int i1), (2, .int i2)], [], lay, σ, 0, 0) = zb_47_0 lay σ r0 i1 i2 := rfl
theorem ze_47 {lay : zm_Lay} {σ : zm_Sig} {r0 : Nat} {i1 : Int32} {i2 : Int32} {out : zm_Out} {r : zm_St ⊕ zm_Out} (h : zb_47_0 lay σ r0 i1 i2 = some r) (hg : zm_end zp_P 47 out r) : zM 47 [.ref r0, .int i1, .int i2] lay σ = some out :=
  zm_mean_go (M := zd_47) rfl (Nat.le_of_ble_eq_true rfl) (zm_blk_go (M := zd_47) rfl zs_47 44 (zp_47.drop 0) _ r (fun _ h => List.mem_of_mem_drop h) ((zr_47_0 lay σ r0 i1 i2).trans h) hg)
/-! SubgroupWriter$Group.comesToAll()Z -/
theorem zs_48 : zm_srt zp_48 = true := by decide +kernel
noncomputable def zb_48_0 (lay : zm_Lay) (σ : zm_Sig) (r0 : Nat) : Option (zm_St ⊕ zm_Out) :=
  some (.inl (4, [(0, .ref r0), (1, .int 1), (2, .int 0)], [], lay, σ, 0, 0))
set_option maxRecDepth 100000 in
theorem zr_48_0 (lay : zm_Lay) (σ : zm_Sig) (r0 : Nat) : zm_blk zM zp_48 (some .boolean) 0 0 zc_48 55 (zp_48.drop 0) (0, [(0, .ref r0)], [], lay, σ, 0, 0) = zb_48_0 lay σ r0 := rfl
theorem ze_48 {lay : zm_Lay} {σ : zm_Sig} {r0 : Nat} {out : zm_Out} {r : zm_St ⊕ zm_Out} (h : zb_48_0 lay σ r0 = some r) (hg : zm_end zp_P 48 out r) : zM 48 [.ref r0] lay σ = some out :=
  zm_mean_go (M := zd_48) rfl (Nat.le_of_ble_eq_true rfl) (zm_blk_go (M := zd_48) rfl zs_48 55 (zp_48.drop 0) _ r (fun _ h => List.mem_of_mem_drop h) ((zr_48_0 lay σ r0).trans h) hg)
noncomputable def zb_48_4 (lay : zm_Lay) (σ : zm_Sig) (r0 : Nat) (i1 : Int32) (i2 : Int32) : Option (zm_St ⊕ zm_Out) :=
  (zm_is lay r0 1).bind fun _ =>
  if (σ.1 r0 0) ≤ i2 then ((zm_is lay r0 1).bind fun _ =>
   if ¬ i1 = (((1 : Int32) <<< ((σ.1 r0 0) &&& 31)) - 1) then (some (.inr (some (.int 0), lay, σ)))
   else (some (.inr (some (.int 1), lay, σ))))
  else (some (.inl (14, [(0, .ref r0), (1, .int i1), (2, .int i2), (3, .int 0)], [], lay, σ, 0, 0)))
set_option maxRecDepth 100000 in
theorem zr_48_4 (lay : zm_Lay) (σ : zm_Sig) (r0 : Nat) (i1 : Int32) (i2 : Int32) : zm_blk zM zp_48 (some .boolean) 0 0 zc_48 55 (zp_48.drop 4) (4, [(0, .ref r0), (1, .int i1), (2, .int i2)], [], lay, σ, 0, 0) = zb_48_4 lay σ r0 i1 i2 := rfl
theorem zg_48_4 {lay : zm_Lay} {σ : zm_Sig} {r0 : Nat} {i1 : Int32} {i2 : Int32} {out : zm_Out} {r : zm_St ⊕ zm_Out} (h : zb_48_4 lay σ r0 i1 i2 = some r) (hg : zm_end zp_P 48 out r) : zm_go zp_P 48 (4, [(0, .ref r0), (1, .int i1), (2, .int i2)], [], lay, σ, 0, 0) out :=
  zm_blk_go (M := zd_48) rfl zs_48 55 (zp_48.drop 4) _ r (fun _ h => List.mem_of_mem_drop h) ((zr_48_4 lay σ r0 i1 i2).trans h) hg
noncomputable def zb_48_14 (lay : zm_Lay) (σ : zm_Sig) (r0 : Nat) (i1 : Int32) (i2 : Int32) (i3 : Int32) : Option (zm_St ⊕ zm_Out) :=
  (zm_is lay r0 1).bind fun _ =>
  if (σ.1 r0 0) ≤ i3 then (some (.inl (4, [(0, .ref r0), (1, .int i1), (2, .int (i2 + 1))], [], lay, σ, 0, 0)))
  else (if ¬ ((i1 >>> (i3 &&& 31)) &&& 1) = 0 then (some (.inl (36, [(0, .ref r0), (1, .int i1), (2, .int i2), (3, .int i3), (4, .int 1)], [], lay, σ, 0, 0)))
   else (some (.inl (14, [(0, .ref r0), (1, .int i1), (2, .int i2), (3, .int (i3 + 1))], [], lay, σ, 0, 0))))
set_option maxRecDepth 100000 in
theorem zr_48_14 (lay : zm_Lay) (σ : zm_Sig) (r0 : Nat) (i1 : Int32) (i2 : Int32) (i3 : Int32) : zm_blk zM zp_48 (some .boolean) 0 0 zc_48 55 (zp_48.drop 10) (14, [(0, .ref r0), (1, .int i1), (2, .int i2), (3, .int i3)], [], lay, σ, 0, 0) = zb_48_14 lay σ r0 i1 i2 i3 := rfl
theorem zg_48_14 {lay : zm_Lay} {σ : zm_Sig} {r0 : Nat} {i1 : Int32} {i2 : Int32} {i3 : Int32} {out : zm_Out} {r : zm_St ⊕ zm_Out} (h : zb_48_14 lay σ r0 i1 i2 i3 = some r) (hg : zm_end zp_P 48 out r) : zm_go zp_P 48 (14, [(0, .ref r0), (1, .int i1), (2, .int i2), (3, .int i3)], [], lay, σ, 0, 0) out :=
  zm_blk_go (M := zd_48) rfl zs_48 55 (zp_48.drop 10) _ r (fun _ h => List.mem_of_mem_drop h) ((zr_48_14 lay σ r0 i1 i2 i3).trans h) hg
noncomputable def zb_48_36 (lay : zm_Lay) (σ : zm_Sig) (r0 : Nat) (i1 : Int32) (i2 : Int32) (i3 : Int32) (i4 : Int32) : Option (zm_St ⊕ zm_Out) :=
  (zm_is lay r0 1).bind fun _ =>
  if (σ.1 r0 1) < i4 then (some (.inl (14, [(0, .ref r0), (1, .int i1), (2, .int i2), (3, .int (i3 + 1))], [], lay, σ, 0, 0)))
  else ((zm_is lay r0 1).bind fun _ => (zm_ai (zM 47 [.ref r0, .int i3, .int i4] lay σ)).bind fun q1 =>
   some (.inl (36, [(0, .ref r0), (1, .int (i1 ||| ((1 : Int32) <<< (q1.1 &&& 31)))), (2, .int i2), (3, .int i3), (4, .int (i4 + 1))], [], q1.2.1, q1.2.2, 0, 0)))
set_option maxRecDepth 100000 in
theorem zr_48_36 (lay : zm_Lay) (σ : zm_Sig) (r0 : Nat) (i1 : Int32) (i2 : Int32) (i3 : Int32) (i4 : Int32) : zm_blk zM zp_48 (some .boolean) 0 0 zc_48 55 (zp_48.drop 23) (36, [(0, .ref r0), (1, .int i1), (2, .int i2), (3, .int i3), (4, .int i4)], [], lay, σ, 0, 0) = zb_48_36 lay σ r0 i1 i2 i3 i4 := rfl
theorem zg_48_36 {lay : zm_Lay} {σ : zm_Sig} {r0 : Nat} {i1 : Int32} {i2 : Int32} {i3 : Int32} {i4 : Int32} {out : zm_Out} {r : zm_St ⊕ zm_Out} (h : zb_48_36 lay σ r0 i1 i2 i3 i4 = some r) (hg : zm_end zp_P 48 out r) : zm_go zp_P 48 (36, [(0, .ref r0), (1, .int i1), (2, .int i2), (3, .int i3), (4, .int i4)], [], lay, σ, 0, 0) out :=
  zm_blk_go (M := zd_48) rfl zs_48 55 (zp_48.drop 23) _ r (fun _ h => List.mem_of_mem_drop h) ((zr_48_36 lay σ r0 i1 i2 i3 i4).trans h) hg
/-! SubgroupWriter.group(I)I -/
theorem zs_49 : zm_srt zp_49 = true := by decide +kernel
noncomputable def zb_49_0 (lay : zm_Lay) (σ : zm_Sig) (r0 : Nat) (i1 : Int32) : Option (zm_St ⊕ zm_Out) :=
  (zm_is lay r0 9).bind fun _ =>
  zm_opt (σ.2.2 r0 1) (fun q1 =>
  (zm_is lay q1 5).bind fun _ => (zm_ai (zM 12 [.ref q1, .int i1] lay σ)).bind fun q2 =>
  if ¬ q2.1 = 0 then ((zm_is q2.2.1 r0 9).bind fun _ =>
   zm_opt (q2.2.2.2.2 r0 1) (fun q3 =>
   (zm_is q2.2.1 q3 5).bind fun _ => (zm_ai (zM 16 [.ref q3, .int i1] q2.2.1 q2.2.2)).bind fun q4 =>
   if q4.1 = 0 then ((zm_is q4.2.1 r0 9).bind fun _ =>
    zm_opt (q4.2.2.2.2 r0 2) (fun q5 =>
    (zm_is q4.2.1 r0 9).bind fun _ =>
    zm_opt (q4.2.2.2.2 r0 1) (fun q6 =>
    (zm_is q4.2.1 r0 9).bind fun _ =>
    zm_opt (q4.2.2.2.2 r0 12) (fun q7 =>
    (zm_is q4.2.1 q5 3).bind fun _ => (zm_ai (zM 33 [.ref q5, .ref q6, .int i1, .ref q7] q4.2.1 q4.2.2)).bind fun q8 =>
    if q8.1 = (-9) then ((zm_is q8.2.1 r0 9).bind fun _ =>
     zm_opt (q8.2.2.2.2 r0 11) (fun q9 =>
     (zm_is q8.2.1 r0 9).bind fun _ =>
     zm_opt (q8.2.2.2.2 r0 12) (fun q10 =>
     (zm_is q8.2.1 r0 9).bind fun _ => (zm_fw q8.2.2 r0 11 2 (.ref q10)).bind fun s11 =>
     (zm_is q8.2.1 r0 9).bind fun _ => (zm_fw s11 r0 12 2 (.ref q9)).bind fun s12 =>
     (zm_is q8.2.1 r0 9).bind fun _ =>
     zm_opt (s12.2.2 r0 3) (fun q13 =>
     (zm_is q8.2.1 r0 9).bind fun _ =>
     zm_opt (s12.2.2 r0 11) (fun q14 =>
     (zm_is q8.2.1 q13 0).bind fun _ => (zm_av (zM 50 [.ref q13, .ref q14] q8.2.1 s12)).bind fun q15 =>
     some (.inl (85, [(0, .ref r0), (3, .int 0)], [], q15.1, q15.2, 0, 0))) (none)) (none)) (none)) (none))
    else (some (.inr (some (.int (-4)), q8.2.1, q8.2.2)))) (none)) (none)) (none))
   else ((zm_is q4.2.1 r0 9).bind fun _ => (zm_ai (zM 13 [.ref r0, .int 1] q4.2.1 q4.2.2)).bind fun q16 =>
    some (.inr (some (.int q16.1), q16.2.1, q16.2.2)))) (none))
  else (some (.inr (some (.int (-1)), q2.2.1, q2.2.2)))) (none)
set_option maxRecDepth 100000 in
theorem zr_49_0 (lay : zm_Lay) (σ : zm_Sig) (r0 : Nat) (i1 : Int32) : zm_blk zM zp_49 (some .int) 0 0 zc_49 61 (zp_49.drop 0) (0, [(0, .ref r0), (1, .int i1)], [], lay, σ, 0, 0) = zb_49_0 lay σ r0 i1 := rfl
theorem ze_49 {lay : zm_Lay} {σ : zm_Sig} {r0 : Nat} {i1 : Int32} {out : zm_Out} {r : zm_St ⊕ zm_Out} (h : zb_49_0 lay σ r0 i1 = some r) (hg : zm_end zp_P 49 out r) : zM 49 [.ref r0, .int i1] lay σ = some out :=
  zm_mean_go (M := zd_49) rfl (Nat.le_of_ble_eq_true rfl) (zm_blk_go (M := zd_49) rfl zs_49 61 (zp_49.drop 0) _ r (fun _ h => List.mem_of_mem_drop h) ((zr_49_0 lay σ r0 i1).trans h) hg)
noncomputable def zb_49_85 (lay : zm_Lay) (σ : zm_Sig) (r0 : Nat) (i3 : Int32) : Option (zm_St ⊕ zm_Out) :=
  if ((nI 3) : Int32) ≤ i3 then ((zm_is lay r0 9).bind fun _ =>
   zm_opt (σ.2.2 r0 11) (fun q1 =>
   (zm_is lay q1 1).bind fun _ =>
   some (.inr (some (.int (σ.1 q1 0)), lay, σ))) (none))
  else ((zm_is lay r0 9).bind fun _ =>
   zm_opt (σ.2.2 r0 4) (fun q2 =>
   (zm_gR lay σ q2 i3).bind fun o3 => zm_opt o3 (fun q4 =>
   (zm_is lay q4 6).bind fun _ => (zm_fw σ q4 3 0 (.int (-1))).bind fun s5 =>
   some (.inl (85, [(0, .ref r0), (3, .int (i3 + 1))], [], lay, s5, 0, 0))) none) (none))
set_option maxRecDepth 100000 in
theorem zr_49_85 (lay : zm_Lay) (σ : zm_Sig) (r0 : Nat) (i3 : Int32) : zm_blk zM zp_49 (some .int) 0 0 zc_49 61 (zp_49.drop 45) (85, [(0, .ref r0), (3, .int i3)], [], lay, σ, 0, 0) = zb_49_85 lay σ r0 i3 := rfl
theorem zg_49_85 {lay : zm_Lay} {σ : zm_Sig} {r0 : Nat} {i3 : Int32} {out : zm_Out} {r : zm_St ⊕ zm_Out} (h : zb_49_85 lay σ r0 i3 = some r) (hg : zm_end zp_P 49 out r) : zm_go zp_P 49 (85, [(0, .ref r0), (3, .int i3)], [], lay, σ, 0, 0) out :=
  zm_blk_go (M := zd_49) rfl zs_49 61 (zp_49.drop 45) _ r (fun _ h => List.mem_of_mem_drop h) ((zr_49_85 lay σ r0 i3).trans h) hg
/-! SubgroupWriter$Book.open(LSubgroupWriter$Group;)V -/
theorem zs_50 : zm_srt zp_50 = true := by decide +kernel
noncomputable def zb_50_0 (lay : zm_Lay) (σ : zm_Sig) (r0 : Nat) (r1 : Nat) : Option (zm_St ⊕ zm_Out) :=
  (zm_is lay r0 0).bind fun _ => (zm_fw σ r0 4 2 (.ref r1)).bind fun s1 =>
  (zm_is lay r0 0).bind fun _ =>
  zm_opt (s1.2.2 r0 2) (fun q2 =>
  (zm_is lay q2 6).bind fun _ => (zm_fw s1 q2 3 0 (.int 0)).bind fun s3 =>
  (zm_is lay r0 0).bind fun _ => (zm_av (zM 51 [.ref r0, .int 0] lay s3)).bind fun q4 =>
  some (.inr (none, q4.1, q4.2))) (none)
set_option maxRecDepth 100000 in
theorem zr_50_0 (lay : zm_Lay) (σ : zm_Sig) (r0 : Nat) (r1 : Nat) : zm_blk zM zp_50 none 0 0 zc_50 12 (zp_50.drop 0) (0, [(0, .ref r0), (1, .ref r1)], [], lay, σ, 0, 0) = zb_50_0 lay σ r0 r1 := rfl
theorem ze_50 {lay : zm_Lay} {σ : zm_Sig} {r0 : Nat} {r1 : Nat} {out : zm_Out} {r : zm_St ⊕ zm_Out} (h : zb_50_0 lay σ r0 r1 = some r) (hg : zm_end zp_P 50 out r) : zM 50 [.ref r0, .ref r1] lay σ = some out :=
  zm_mean_go (M := zd_50) rfl (Nat.le_of_ble_eq_true rfl) (zm_blk_go (M := zd_50) rfl zs_50 12 (zp_50.drop 0) _ r (fun _ h => List.mem_of_mem_drop h) ((zr_50_0 lay σ r0 r1).trans h) hg)
/-! SubgroupWriter$Book.arrange(I)V -/
theorem zs_51 : zm_srt zp_51 = true := by decide +kernel
noncomputable def zb_51_0 (lay : zm_Lay) (σ : zm_Sig) (r0 : Nat) (i1 : Int32) : Option (zm_St ⊕ zm_Out) :=
  (zm_is lay r0 0).bind fun _ =>
  zm_opt (σ.2.2 r0 4) (fun q1 =>
  (zm_is lay r0 0).bind fun _ => (zm_fw σ r0 3 0 (.int i1)).bind fun s2 =>
  (zm_is lay r0 0).bind fun _ =>
  zm_opt (s2.2.2 r0 0) (fun q3 =>
  (zm_is lay q3 7).bind fun _ => (zm_av (zM 52 [.ref q3] lay s2)).bind fun q4 =>
  if ¬ i1 = (nI 2) then ((zm_is q4.1 r0 0).bind fun _ =>
   zm_opt (q4.2.2.2 r0 0) (fun q5 =>
   (zm_is q4.1 r0 0).bind fun _ =>
   zm_opt (q4.2.2.2 r0 4) (fun q6 =>
   if ¬ i1 = 1 then ((zm_is q4.1 q5 7).bind fun _ => (zm_av (zM 57 [.ref q5, .ref q6, .int 0] q4.1 q4.2)).bind fun q7 =>
    (zm_is q7.1 r0 0).bind fun _ =>
    zm_opt (q7.2.2.2 r0 0) (fun q8 =>
    (zm_is q7.1 r0 0).bind fun _ =>
    zm_opt (q7.2.2.2 r0 4) (fun q9 =>
    (zm_is q7.1 q8 7).bind fun _ => (zm_av (zM 58 [.ref q8, .ref q9] q7.1 q7.2)).bind fun q10 =>
    (zm_is q10.1 r0 0).bind fun _ =>
    zm_opt (q10.2.2.2 r0 1) (fun q11 =>
    (zm_is q10.1 r0 0).bind fun _ =>
    zm_opt (q10.2.2.2 r0 4) (fun q12 =>
    (zm_is q10.1 r0 0).bind fun _ =>
    zm_opt (q10.2.2.2 r0 0) (fun q13 =>
    (zm_is q10.1 q11 4).bind fun _ => (zm_av (zM 63 [.ref q11, .ref q12, .ref q13] q10.1 q10.2)).bind fun q14 =>
    some (.inr (none, q14.1, q14.2))) (none)) (none)) (none)) (none)) (none))
   else ((zm_is q4.1 q5 7).bind fun _ => (zm_av (zM 57 [.ref q5, .ref q6, .int 1] q4.1 q4.2)).bind fun q15 =>
    (zm_is q15.1 r0 0).bind fun _ =>
    zm_opt (q15.2.2.2 r0 0) (fun q16 =>
    (zm_is q15.1 r0 0).bind fun _ =>
    zm_opt (q15.2.2.2 r0 4) (fun q17 =>
    (zm_is q15.1 q16 7).bind fun _ => (zm_av (zM 58 [.ref q16, .ref q17] q15.1 q15.2)).bind fun q18 =>
    (zm_is q18.1 r0 0).bind fun _ =>
    zm_opt (q18.2.2.2 r0 1) (fun q19 =>
    (zm_is q18.1 r0 0).bind fun _ =>
    zm_opt (q18.2.2.2 r0 4) (fun q20 =>
    (zm_is q18.1 r0 0).bind fun _ =>
    zm_opt (q18.2.2.2 r0 0) (fun q21 =>
    (zm_is q18.1 q19 4).bind fun _ => (zm_av (zM 63 [.ref q19, .ref q20, .ref q21] q18.1 q18.2)).bind fun q22 =>
    some (.inr (none, q22.1, q22.2))) (none)) (none)) (none)) (none)) (none))) (none)) (none))
  else ((zm_is q4.1 r0 0).bind fun _ =>
   zm_opt (q4.2.2.2 r0 0) (fun q23 =>
   (zm_is q4.1 r0 0).bind fun _ =>
   zm_opt (q4.2.2.2 r0 4) (fun q24 =>
   (zm_is q4.1 q23 7).bind fun _ => (zm_av (zM 54 [.ref q23, .ref q24] q4.1 q4.2)).bind fun q25 =>
   (zm_is q25.1 r0 0).bind fun _ =>
   zm_opt (q25.2.2.2 r0 0) (fun q26 =>
   (zm_is q25.1 r0 0).bind fun _ =>
   zm_opt (q25.2.2.2 r0 4) (fun q27 =>
   (zm_is q25.1 q26 7).bind fun _ => (zm_av (zM 58 [.ref q26, .ref q27] q25.1 q25.2)).bind fun q28 =>
   (zm_is q28.1 r0 0).bind fun _ =>
   zm_opt (q28.2.2.2 r0 1) (fun q29 =>
   (zm_is q28.1 r0 0).bind fun _ =>
   zm_opt (q28.2.2.2 r0 4) (fun q30 =>
   (zm_is q28.1 r0 0).bind fun _ =>
   zm_opt (q28.2.2.2 r0 0) (fun q31 =>
   (zm_is q28.1 q29 4).bind fun _ => (zm_av (zM 63 [.ref q29, .ref q30, .ref q31] q28.1 q28.2)).bind fun q32 =>
   some (.inr (none, q32.1, q32.2))) (none)) (none)) (none)) (none)) (none)) (none)) (none))) (none)) (some (.inr (none, lay, σ)))
set_option maxRecDepth 100000 in
theorem zr_51_0 (lay : zm_Lay) (σ : zm_Sig) (r0 : Nat) (i1 : Int32) : zm_blk zM zp_51 none 0 0 zc_51 44 (zp_51.drop 0) (0, [(0, .ref r0), (1, .int i1)], [], lay, σ, 0, 0) = zb_51_0 lay σ r0 i1 := rfl
theorem ze_51 {lay : zm_Lay} {σ : zm_Sig} {r0 : Nat} {i1 : Int32} {out : zm_Out} {r : zm_St ⊕ zm_Out} (h : zb_51_0 lay σ r0 i1 = some r) (hg : zm_end zp_P 51 out r) : zM 51 [.ref r0, .int i1] lay σ = some out :=
  zm_mean_go (M := zd_51) rfl (Nat.le_of_ble_eq_true rfl) (zm_blk_go (M := zd_51) rfl zs_51 44 (zp_51.drop 0) _ r (fun _ h => List.mem_of_mem_drop h) ((zr_51_0 lay σ r0 i1).trans h) hg)
/-! SubgroupWriter$Tree.plant()V -/
theorem zs_52 : zm_srt zp_52 = true := by decide +kernel
noncomputable def zb_52_0 (lay : zm_Lay) (σ : zm_Sig) (r0 : Nat) : Option (zm_St ⊕ zm_Out) :=
  (zm_is lay r0 7).bind fun _ =>
  zm_opt (σ.2.2 r0 6) (fun q1 =>
  (zm_av (zM 2 [.ref q1, .int (-1)] lay σ)).bind fun q2 =>
  (zm_is q2.1 r0 7).bind fun _ => (zm_fw q2.2 r0 10 0 (.int 0)).bind fun s3 =>
  (zm_is q2.1 r0 7).bind fun _ => (zm_av (zM 53 [.ref r0, .int 0, .int (-9), .int (-9), .int 0] q2.1 s3)).bind fun q4 =>
  some (.inr (none, q4.1, q4.2))) (none)
set_option maxRecDepth 100000 in
theorem zr_52_0 (lay : zm_Lay) (σ : zm_Sig) (r0 : Nat) : zm_blk zM zp_52 none 0 0 zc_52 15 (zp_52.drop 0) (0, [(0, .ref r0)], [], lay, σ, 0, 0) = zb_52_0 lay σ r0 := rfl
theorem ze_52 {lay : zm_Lay} {σ : zm_Sig} {r0 : Nat} {out : zm_Out} {r : zm_St ⊕ zm_Out} (h : zb_52_0 lay σ r0 = some r) (hg : zm_end zp_P 52 out r) : zM 52 [.ref r0] lay σ = some out :=
  zm_mean_go (M := zd_52) rfl (Nat.le_of_ble_eq_true rfl) (zm_blk_go (M := zd_52) rfl zs_52 15 (zp_52.drop 0) _ r (fun _ h => List.mem_of_mem_drop h) ((zr_52_0 lay σ r0).trans h) hg)
/-! SubgroupWriter$Tree.reach(IIII)V -/
theorem zs_53 : zm_srt zp_53 = true := by decide +kernel
noncomputable def zb_53_0 (lay : zm_Lay) (σ : zm_Sig) (r0 : Nat) (i1 : Int32) (i2 : Int32) (i3 : Int32) (i4 : Int32) : Option (zm_St ⊕ zm_Out) :=
  (zm_is lay r0 7).bind fun _ =>
  if (σ.1 r0 10) < (nI 5) then ((zm_is lay r0 7).bind fun _ =>
   zm_opt (σ.2.2 r0 3) (fun q1 =>
   (zm_sI lay σ q1 i1 i2).bind fun s2 =>
   (zm_is lay r0 7).bind fun _ =>
   zm_opt (s2.2.2 r0 4) (fun q3 =>
   (zm_sI lay s2 q3 i1 i3).bind fun s4 =>
   (zm_is lay r0 7).bind fun _ =>
   zm_opt (s4.2.2 r0 5) (fun q5 =>
   (zm_sI lay s4 q5 i1 i4).bind fun s6 =>
   (zm_is lay r0 7).bind fun _ =>
   zm_opt (s6.2.2 r0 6) (fun q7 =>
   (zm_is lay r0 7).bind fun _ =>
   (zm_sI lay s6 q7 i1 (s6.1 r0 10)).bind fun s8 =>
   (zm_is lay r0 7).bind fun _ =>
   zm_opt (s8.2.2 r0 7) (fun q9 =>
   (zm_is lay r0 7).bind fun _ =>
   (zm_sI lay s8 q9 (s8.1 r0 10) i1).bind fun s10 =>
   (zm_is lay r0 7).bind fun _ =>
   (zm_is lay r0 7).bind fun _ => (zm_fw s10 r0 10 0 (.int ((s10.1 r0 10) + 1))).bind fun s11 =>
   some (.inr (none, lay, s11))) (none)) (none)) (none)) (none)) (none))
  else (some (.inr (none, lay, σ)))
set_option maxRecDepth 100000 in
theorem zr_53_0 (lay : zm_Lay) (σ : zm_Sig) (r0 : Nat) (i1 : Int32) (i2 : Int32) (i3 : Int32) (i4 : Int32) : zm_blk zM zp_53 none 0 0 zc_53 40 (zp_53.drop 0) (0, [(0, .ref r0), (1, .int i1), (2, .int i2), (3, .int i3), (4, .int i4)], [], lay, σ, 0, 0) = zb_53_0 lay σ r0 i1 i2 i3 i4 := rfl
theorem ze_53 {lay : zm_Lay} {σ : zm_Sig} {r0 : Nat} {i1 : Int32} {i2 : Int32} {i3 : Int32} {i4 : Int32} {out : zm_Out} {r : zm_St ⊕ zm_Out} (h : zb_53_0 lay σ r0 i1 i2 i3 i4 = some r) (hg : zm_end zp_P 53 out r) : zM 53 [.ref r0, .int i1, .int i2, .int i3, .int i4] lay σ = some out :=
  zm_mean_go (M := zd_53) rfl (Nat.le_of_ble_eq_true rfl) (zm_blk_go (M := zd_53) rfl zs_53 40 (zp_53.drop 0) _ r (fun _ h => List.mem_of_mem_drop h) ((zr_53_0 lay σ r0 i1 i2 i3 i4).trans h) hg)
/-! SubgroupWriter$Tree.growDeep(LSubgroupWriter$Group;)V -/
theorem zs_54 : zm_srt zp_54 = true := by decide +kernel
noncomputable def zb_54_0 (lay : zm_Lay) (σ : zm_Sig) (r0 : Nat) (r1 : Nat) : Option (zm_St ⊕ zm_Out) :=
  some (.inl (4, [(0, .ref r0), (1, .ref r1), (2, .int 0), (3, .int 0)], [], lay, σ, 0, 0))
set_option maxRecDepth 100000 in
theorem zr_54_0 (lay : zm_Lay) (σ : zm_Sig) (r0 : Nat) (r1 : Nat) : zm_blk zM zp_54 none 0 0 zc_54 47 (zp_54.drop 0) (0, [(0, .ref r0), (1, .ref r1)], [], lay, σ, 0, 0) = zb_54_0 lay σ r0 r1 := rfl
theorem ze_54 {lay : zm_Lay} {σ : zm_Sig} {r0 : Nat} {r1 : Nat} {out : zm_Out} {r : zm_St ⊕ zm_Out} (h : zb_54_0 lay σ r0 r1 = some r) (hg : zm_end zp_P 54 out r) : zM 54 [.ref r0, .ref r1] lay σ = some out :=
  zm_mean_go (M := zd_54) rfl (Nat.le_of_ble_eq_true rfl) (zm_blk_go (M := zd_54) rfl zs_54 47 (zp_54.drop 0) _ r (fun _ h => List.mem_of_mem_drop h) ((zr_54_0 lay σ r0 r1).trans h) hg)
noncomputable def zb_54_4 (lay : zm_Lay) (σ : zm_Sig) (r0 : Nat) (r1 : Nat) (i2 : Int32) (i3 : Int32) : Option (zm_St ⊕ zm_Out) :=
  if ((nI 10) : Int32) ≤ i3 then (some (.inr (none, lay, σ)))
  else ((zm_is lay r0 7).bind fun _ => (zm_ai (zM 55 [.ref r0, .ref r1, .int i2] lay σ)).bind fun q1 =>
   if q1.1 = 0 then ((zm_is q1.2.1 r0 7).bind fun _ =>
    zm_opt (q1.2.2.2.2 r0 3) (fun q2 =>
    (zm_gI q1.2.1 q1.2.2 q2 i2).bind fun v3 =>
    if v3 < 0 then (some (.inl (4, [(0, .ref r0), (1, .ref r1), (2, .int i2), (3, .int (i3 + 1))], [], q1.2.1, q1.2.2, 0, 0)))
    else ((zm_is q1.2.1 r0 7).bind fun _ =>
     zm_opt (q1.2.2.2.2 r0 3) (fun q4 =>
     (zm_gI q1.2.1 q1.2.2 q4 i2).bind fun v5 =>
     some (.inl (4, [(0, .ref r0), (1, .ref r1), (2, .int v5), (3, .int (i3 + 1))], [], q1.2.1, q1.2.2, 0, 0))) (none))) (none))
   else ((zm_is q1.2.1 r1 1).bind fun _ => (zm_ai (zM 47 [.ref r1, .int i2, .int q1.1] q1.2.1 q1.2.2)).bind fun q6 =>
    (zm_is q6.2.1 r0 7).bind fun _ =>
    zm_opt (q6.2.2.2.2 r0 5) (fun q7 =>
    (zm_gI q6.2.1 q6.2.2 q7 i2).bind fun v8 =>
    (zm_is q6.2.1 r0 7).bind fun _ => (zm_av (zM 53 [.ref r0, .int q6.1, .int i2, .int q1.1, .int (v8 + 1)] q6.2.1 q6.2.2)).bind fun q9 =>
    some (.inl (4, [(0, .ref r0), (1, .ref r1), (2, .int q6.1), (3, .int (i3 + 1))], [], q9.1, q9.2, 0, 0))) (none)))
set_option maxRecDepth 100000 in
theorem zr_54_4 (lay : zm_Lay) (σ : zm_Sig) (r0 : Nat) (r1 : Nat) (i2 : Int32) (i3 : Int32) : zm_blk zM zp_54 none 0 0 zc_54 47 (zp_54.drop 4) (4, [(0, .ref r0), (1, .ref r1), (2, .int i2), (3, .int i3)], [], lay, σ, 0, 0) = zb_54_4 lay σ r0 r1 i2 i3 := rfl
theorem zg_54_4 {lay : zm_Lay} {σ : zm_Sig} {r0 : Nat} {r1 : Nat} {i2 : Int32} {i3 : Int32} {out : zm_Out} {r : zm_St ⊕ zm_Out} (h : zb_54_4 lay σ r0 r1 i2 i3 = some r) (hg : zm_end zp_P 54 out r) : zm_go zp_P 54 (4, [(0, .ref r0), (1, .ref r1), (2, .int i2), (3, .int i3)], [], lay, σ, 0, 0) out :=
  zm_blk_go (M := zd_54) rfl zs_54 47 (zp_54.drop 4) _ r (fun _ h => List.mem_of_mem_drop h) ((zr_54_4 lay σ r0 r1 i2 i3).trans h) hg
/-! SubgroupWriter$Tree.letterToNew(LSubgroupWriter$Group;I)I -/
theorem zs_55 : zm_srt zp_55 = true := by decide +kernel
noncomputable def zb_55_0 (lay : zm_Lay) (σ : zm_Sig) (r0 : Nat) (r1 : Nat) (i2 : Int32) : Option (zm_St ⊕ zm_Out) :=
  some (.inl (2, [(0, .ref r0), (1, .ref r1), (2, .int i2), (3, .int 0)], [], lay, σ, 0, 0))
set_option maxRecDepth 100000 in
theorem zr_55_0 (lay : zm_Lay) (σ : zm_Sig) (r0 : Nat) (r1 : Nat) (i2 : Int32) : zm_blk zM zp_55 (some .int) 0 0 zc_55 26 (zp_55.drop 0) (0, [(0, .ref r0), (1, .ref r1), (2, .int i2)], [], lay, σ, 0, 0) = zb_55_0 lay σ r0 r1 i2 := rfl
theorem ze_55 {lay : zm_Lay} {σ : zm_Sig} {r0 : Nat} {r1 : Nat} {i2 : Int32} {out : zm_Out} {r : zm_St ⊕ zm_Out} (h : zb_55_0 lay σ r0 r1 i2 = some r) (hg : zm_end zp_P 55 out r) : zM 55 [.ref r0, .ref r1, .int i2] lay σ = some out :=
  zm_mean_go (M := zd_55) rfl (Nat.le_of_ble_eq_true rfl) (zm_blk_go (M := zd_55) rfl zs_55 26 (zp_55.drop 0) _ r (fun _ h => List.mem_of_mem_drop h) ((zr_55_0 lay σ r0 r1 i2).trans h) hg)
noncomputable def zb_55_2 (lay : zm_Lay) (σ : zm_Sig) (r0 : Nat) (r1 : Nat) (i2 : Int32) (i3 : Int32) : Option (zm_St ⊕ zm_Out) :=
  (zm_is lay r1 1).bind fun _ =>
  if (((nI 2) : Int32) * (σ.1 r1 1)) ≤ i3 then (some (.inr (some (.int 0), lay, σ)))
  else ((zm_is lay r0 7).bind fun _ =>
   zm_opt (σ.2.2 r0 6) (fun q1 =>
   (zm_ai (zM 56 [.int i3] lay σ)).bind fun q2 =>
   (zm_is q2.2.1 r1 1).bind fun _ => (zm_ai (zM 47 [.ref r1, .int i2, .int q2.1] q2.2.1 q2.2.2)).bind fun q3 =>
   (zm_gI q3.2.1 q3.2.2 q1 q3.1).bind fun v4 =>
   if ¬ v4 = (-1) then (some (.inl (2, [(0, .ref r0), (1, .ref r1), (2, .int i2), (3, .int (i3 + 1))], [], q3.2.1, q3.2.2, 0, 0)))
   else ((zm_ai (zM 56 [.int i3] q3.2.1 q3.2.2)).bind fun q5 =>
    some (.inr (some (.int q5.1), q5.2.1, q5.2.2)))) (none))
set_option maxRecDepth 100000 in
theorem zr_55_2 (lay : zm_Lay) (σ : zm_Sig) (r0 : Nat) (r1 : Nat) (i2 : Int32) (i3 : Int32) : zm_blk zM zp_55 (some .int) 0 0 zc_55 26 (zp_55.drop 2) (2, [(0, .ref r0), (1, .ref r1), (2, .int i2), (3, .int i3)], [], lay, σ, 0, 0) = zb_55_2 lay σ r0 r1 i2 i3 := rfl
theorem zg_55_2 {lay : zm_Lay} {σ : zm_Sig} {r0 : Nat} {r1 : Nat} {i2 : Int32} {i3 : Int32} {out : zm_Out} {r : zm_St ⊕ zm_Out} (h : zb_55_2 lay σ r0 r1 i2 i3 = some r) (hg : zm_end zp_P 55 out r) : zm_go zp_P 55 (2, [(0, .ref r0), (1, .ref r1), (2, .int i2), (3, .int i3)], [], lay, σ, 0, 0) out :=
  zm_blk_go (M := zd_55) rfl zs_55 26 (zp_55.drop 2) _ r (fun _ h => List.mem_of_mem_drop h) ((zr_55_2 lay σ r0 r1 i2 i3).trans h) hg
/-! SubgroupWriter.letterOf(I)I -/
theorem zs_56 : zm_srt zp_56 = true := by decide +kernel
noncomputable def zb_56_0 (lay : zm_Lay) (σ : zm_Sig) (i0 : Int32) : Option (zm_St ⊕ zm_Out) :=
  if ¬ (i0 - i0 / (nI 2) * (nI 2)) = 0 then (some (.inr (some (.int (-((i0 / (nI 2)) + 1))), lay, σ)))
  else (some (.inr (some (.int ((i0 / (nI 2)) + 1)), lay, σ)))
set_option maxRecDepth 100000 in
theorem zr_56_0 (lay : zm_Lay) (σ : zm_Sig) (i0 : Int32) : zm_blk zM zp_56 (some .int) 0 0 zc_56 16 (zp_56.drop 0) (0, [(0, .int i0)], [], lay, σ, 0, 0) = zb_56_0 lay σ i0 := rfl
theorem ze_56 {lay : zm_Lay} {σ : zm_Sig} {i0 : Int32} {out : zm_Out} {r : zm_St ⊕ zm_Out} (h : zb_56_0 lay σ i0 = some r) (hg : zm_end zp_P 56 out r) : zM 56 [.int i0] lay σ = some out :=
  zm_mean_go (M := zd_56) rfl (Nat.le_of_ble_eq_true rfl) (zm_blk_go (M := zd_56) rfl zs_56 16 (zp_56.drop 0) _ r (fun _ h => List.mem_of_mem_drop h) ((zr_56_0 lay σ i0).trans h) hg)
/-! SubgroupWriter$Tree.growBroad(LSubgroupWriter$Group;Z)V -/
theorem zs_57 : zm_srt zp_57 = true := by decide +kernel
noncomputable def zb_57_0 (lay : zm_Lay) (σ : zm_Sig) (r0 : Nat) (r1 : Nat) (i2 : Int32) : Option (zm_St ⊕ zm_Out) :=
  (zm_is lay r1 1).bind fun _ =>
  some (.inl (10, [(0, .ref r0), (1, .ref r1), (2, .int i2), (3, .int (((nI 2) : Int32) * (σ.1 r1 1))), (4, .int 0)], [], lay, σ, 0, 0))
set_option maxRecDepth 100000 in
theorem zr_57_0 (lay : zm_Lay) (σ : zm_Sig) (r0 : Nat) (r1 : Nat) (i2 : Int32) : zm_blk zM zp_57 none 0 0 zc_57 63 (zp_57.drop 0) (0, [(0, .ref r0), (1, .ref r1), (2, .int i2)], [], lay, σ, 0, 0) = zb_57_0 lay σ r0 r1 i2 := rfl
theorem ze_57 {lay : zm_Lay} {σ : zm_Sig} {r0 : Nat} {r1 : Nat} {i2 : Int32} {out : zm_Out} {r : zm_St ⊕ zm_Out} (h : zb_57_0 lay σ r0 r1 i2 = some r) (hg : zm_end zp_P 57 out r) : zM 57 [.ref r0, .ref r1, .int i2] lay σ = some out :=
  zm_mean_go (M := zd_57) rfl (Nat.le_of_ble_eq_true rfl) (zm_blk_go (M := zd_57) rfl zs_57 63 (zp_57.drop 0) _ r (fun _ h => List.mem_of_mem_drop h) ((zr_57_0 lay σ r0 r1 i2).trans h) hg)
noncomputable def zb_57_10 (lay : zm_Lay) (σ : zm_Sig) (r0 : Nat) (r1 : Nat) (i2 : Int32) (i3 : Int32) (i4 : Int32) : Option (zm_St ⊕ zm_Out) :=
  (zm_is lay r0 7).bind fun _ =>
  if (σ.1 r0 10) ≤ i4 then (some (.inr (none, lay, σ)))
  else (if ((nI 5) : Int32) ≤ i4 then (some (.inr (none, lay, σ)))
   else ((zm_is lay r0 7).bind fun _ =>
    zm_opt (σ.2.2 r0 7) (fun q1 =>
    (zm_gI lay σ q1 i4).bind fun v2 =>
    some (.inl (37, [(0, .ref r0), (1, .ref r1), (2, .int i2), (3, .int i3), (4, .int i4), (5, .int v2), (6, .int 0)], [], lay, σ, 0, 0))) (none)))
set_option maxRecDepth 100000 in
theorem zr_57_10 (lay : zm_Lay) (σ : zm_Sig) (r0 : Nat) (r1 : Nat) (i2 : Int32) (i3 : Int32) (i4 : Int32) : zm_blk zM zp_57 none 0 0 zc_57 63 (zp_57.drop 7) (10, [(0, .ref r0), (1, .ref r1), (2, .int i2), (3, .int i3), (4, .int i4)], [], lay, σ, 0, 0) = zb_57_10 lay σ r0 r1 i2 i3 i4 := rfl
theorem zg_57_10 {lay : zm_Lay} {σ : zm_Sig} {r0 : Nat} {r1 : Nat} {i2 : Int32} {i3 : Int32} {i4 : Int32} {out : zm_Out} {r : zm_St ⊕ zm_Out} (h : zb_57_10 lay σ r0 r1 i2 i3 i4 = some r) (hg : zm_end zp_P 57 out r) : zm_go zp_P 57 (10, [(0, .ref r0), (1, .ref r1), (2, .int i2), (3, .int i3), (4, .int i4)], [], lay, σ, 0, 0) out :=
  zm_blk_go (M := zd_57) rfl zs_57 63 (zp_57.drop 7) _ r (fun _ h => List.mem_of_mem_drop h) ((zr_57_10 lay σ r0 r1 i2 i3 i4).trans h) hg
noncomputable def zb_57_37 (lay : zm_Lay) (σ : zm_Sig) (r0 : Nat) (r1 : Nat) (i2 : Int32) (i3 : Int32) (i4 : Int32) (i5 : Int32) (i6 : Int32) : Option (zm_St ⊕ zm_Out) :=
  if i3 ≤ i6 then (some (.inl (10, [(0, .ref r0), (1, .ref r1), (2, .int i2), (3, .int i3), (4, .int (i4 + 1))], [], lay, σ, 0, 0)))
  else (if i2 = 0 then ((zm_ai (zM 56 [.int i6] lay σ)).bind fun q1 =>
    (zm_is q1.2.1 r1 1).bind fun _ => (zm_ai (zM 47 [.ref r1, .int i5, .int q1.1] q1.2.1 q1.2.2)).bind fun q2 =>
    (zm_is q2.2.1 r0 7).bind fun _ =>
    zm_opt (q2.2.2.2.2 r0 6) (fun q3 =>
    (zm_gI q2.2.1 q2.2.2 q3 q2.1).bind fun v4 =>
    if ¬ v4 = (-1) then (some (.inl (37, [(0, .ref r0), (1, .ref r1), (2, .int i2), (3, .int i3), (4, .int i4), (5, .int i5), (6, .int (i6 + 1))], [], q2.2.1, q2.2.2, 0, 0)))
    else ((zm_is q2.2.1 r0 7).bind fun _ =>
     zm_opt (q2.2.2.2.2 r0 5) (fun q5 =>
     (zm_gI q2.2.1 q2.2.2 q5 i5).bind fun v6 =>
     (zm_is q2.2.1 r0 7).bind fun _ => (zm_av (zM 53 [.ref r0, .int q2.1, .int i5, .int q1.1, .int (v6 + 1)] q2.2.1 q2.2.2)).bind fun q7 =>
     some (.inl (37, [(0, .ref r0), (1, .ref r1), (2, .int i2), (3, .int i3), (4, .int i4), (5, .int i5), (6, .int (i6 + 1))], [], q7.1, q7.2, 0, 0))) (none))) (none))
   else ((zm_ai (zM 56 [.int ((i3 - 1) - i6)] lay σ)).bind fun q8 =>
    (zm_is q8.2.1 r1 1).bind fun _ => (zm_ai (zM 47 [.ref r1, .int i5, .int q8.1] q8.2.1 q8.2.2)).bind fun q9 =>
    (zm_is q9.2.1 r0 7).bind fun _ =>
    zm_opt (q9.2.2.2.2 r0 6) (fun q10 =>
    (zm_gI q9.2.1 q9.2.2 q10 q9.1).bind fun v11 =>
    if ¬ v11 = (-1) then (some (.inl (37, [(0, .ref r0), (1, .ref r1), (2, .int i2), (3, .int i3), (4, .int i4), (5, .int i5), (6, .int (i6 + 1))], [], q9.2.1, q9.2.2, 0, 0)))
    else ((zm_is q9.2.1 r0 7).bind fun _ =>
     zm_opt (q9.2.2.2.2 r0 5) (fun q12 =>
     (zm_gI q9.2.1 q9.2.2 q12 i5).bind fun v13 =>
     (zm_is q9.2.1 r0 7).bind fun _ => (zm_av (zM 53 [.ref r0, .int q9.1, .int i5, .int q8.1, .int (v13 + 1)] q9.2.1 q9.2.2)).bind fun q14 =>
     some (.inl (37, [(0, .ref r0), (1, .ref r1), (2, .int i2), (3, .int i3), (4, .int i4), (5, .int i5), (6, .int (i6 + 1))], [], q14.1, q14.2, 0, 0))) (none))) (none)))
set_option maxRecDepth 100000 in
theorem zr_57_37 (lay : zm_Lay) (σ : zm_Sig) (r0 : Nat) (r1 : Nat) (i2 : Int32) (i3 : Int32) (i4 : Int32) (i5 : Int32) (i6 : Int32) : zm_blk zM zp_57 none 0 0 zc_57 63 (zp_57.drop 21) (37, [(0, .ref r0), (1, .ref r1), (2, .int i2), (3, .int i3), (4, .int i4), (5, .int i5), (6, .int i6)], [], lay, σ, 0, 0) = zb_57_37 lay σ r0 r1 i2 i3 i4 i5 i6 := rfl
theorem zg_57_37 {lay : zm_Lay} {σ : zm_Sig} {r0 : Nat} {r1 : Nat} {i2 : Int32} {i3 : Int32} {i4 : Int32} {i5 : Int32} {i6 : Int32} {out : zm_Out} {r : zm_St ⊕ zm_Out} (h : zb_57_37 lay σ r0 r1 i2 i3 i4 i5 i6 = some r) (hg : zm_end zp_P 57 out r) : zm_go zp_P 57 (37, [(0, .ref r0), (1, .ref r1), (2, .int i2), (3, .int i3), (4, .int i4), (5, .int i5), (6, .int i6)], [], lay, σ, 0, 0) out :=
  zm_blk_go (M := zd_57) rfl zs_57 63 (zp_57.drop 21) _ r (fun _ h => List.mem_of_mem_drop h) ((zr_57_37 lay σ r0 r1 i2 i3 i4 i5 i6).trans h) hg
/-! SubgroupWriter$Tree.nameEdges(LSubgroupWriter$Group;)V -/
theorem zs_58 : zm_srt zp_58 = true := by decide +kernel
noncomputable def zb_58_0 (lay : zm_Lay) (σ : zm_Sig) (r0 : Nat) (r1 : Nat) : Option (zm_St ⊕ zm_Out) :=
  (zm_is lay r0 7).bind fun _ => (zm_fw σ r0 2 0 (.int 0)).bind fun s1 =>
  (zm_is lay r0 7).bind fun _ =>
  zm_opt (s1.2.2 r0 0) (fun q2 =>
  (zm_av (zM 2 [.ref q2, .int (nI 2)] lay s1)).bind fun q3 =>
  (zm_is q3.1 r0 7).bind fun _ =>
  zm_opt (q3.2.2.2 r0 1) (fun q4 =>
  (zm_av (zM 2 [.ref q4, .int 0] q3.1 q3.2)).bind fun q5 =>
  some (.inl (23, [(0, .ref r0), (1, .ref r1), (2, .int 0)], [], q5.1, q5.2, 0, 0))) (none)) (none)
set_option maxRecDepth 100000 in
theorem zr_58_0 (lay : zm_Lay) (σ : zm_Sig) (r0 : Nat) (r1 : Nat) : zm_blk zM zp_58 none 0 0 zc_58 74 (zp_58.drop 0) (0, [(0, .ref r0), (1, .ref r1)], [], lay, σ, 0, 0) = zb_58_0 lay σ r0 r1 := rfl
theorem ze_58 {lay : zm_Lay} {σ : zm_Sig} {r0 : Nat} {r1 : Nat} {out : zm_Out} {r : zm_St ⊕ zm_Out} (h : zb_58_0 lay σ r0 r1 = some r) (hg : zm_end zp_P 58 out r) : zM 58 [.ref r0, .ref r1] lay σ = some out :=
  zm_mean_go (M := zd_58) rfl (Nat.le_of_ble_eq_true rfl) (zm_blk_go (M := zd_58) rfl zs_58 74 (zp_58.drop 0) _ r (fun _ h => List.mem_of_mem_drop h) ((zr_58_0 lay σ r0 r1).trans h) hg)
noncomputable def zb_58_23 (lay : zm_Lay) (σ : zm_Sig) (r0 : Nat) (r1 : Nat) (i2 : Int32) : Option (zm_St ⊕ zm_Out) :=
  (zm_is lay r1 1).bind fun _ =>
  if (σ.1 r1 0) ≤ i2 then (some (.inl (62, [(0, .ref r0), (1, .ref r1), (2, .int 0)], [], lay, σ, 0, 0)))
  else ((zm_is lay r0 7).bind fun _ =>
   zm_opt (σ.2.2 r0 4) (fun q1 =>
   (zm_gI lay σ q1 i2).bind fun v2 =>
   if v2 = (-9) then (some (.inl (23, [(0, .ref r0), (1, .ref r1), (2, .int (i2 + 1))], [], lay, σ, 0, 0)))
   else ((zm_is lay r0 7).bind fun _ =>
    zm_opt (σ.2.2 r0 0) (fun q3 =>
    (zm_is lay r0 7).bind fun _ => (zm_ai (zM 59 [.ref r0, .ref r1, .int i2] lay σ)).bind fun q4 =>
    (zm_sI q4.2.1 q4.2.2 q3 q4.1 1).bind fun s5 =>
    some (.inl (23, [(0, .ref r0), (1, .ref r1), (2, .int (i2 + 1))], [], q4.2.1, s5, 0, 0))) (none))) (none))
set_option maxRecDepth 100000 in
theorem zr_58_23 (lay : zm_Lay) (σ : zm_Sig) (r0 : Nat) (r1 : Nat) (i2 : Int32) : zm_blk zM zp_58 none 0 0 zc_58 74 (zp_58.drop 13) (23, [(0, .ref r0), (1, .ref r1), (2, .int i2)], [], lay, σ, 0, 0) = zb_58_23 lay σ r0 r1 i2 := rfl
theorem zg_58_23 {lay : zm_Lay} {σ : zm_Sig} {r0 : Nat} {r1 : Nat} {i2 : Int32} {out : zm_Out} {r : zm_St ⊕ zm_Out} (h : zb_58_23 lay σ r0 r1 i2 = some r) (hg : zm_end zp_P 58 out r) : zm_go zp_P 58 (23, [(0, .ref r0), (1, .ref r1), (2, .int i2)], [], lay, σ, 0, 0) out :=
  zm_blk_go (M := zd_58) rfl zs_58 74 (zp_58.drop 13) _ r (fun _ h => List.mem_of_mem_drop h) ((zr_58_23 lay σ r0 r1 i2).trans h) hg
noncomputable def zb_58_62 (lay : zm_Lay) (σ : zm_Sig) (r0 : Nat) (r1 : Nat) (i2 : Int32) : Option (zm_St ⊕ zm_Out) :=
  (zm_is lay r1 1).bind fun _ =>
  if (σ.1 r1 0) ≤ i2 then (some (.inr (none, lay, σ)))
  else (some (.inl (72, [(0, .ref r0), (1, .ref r1), (2, .int i2), (3, .int 0)], [], lay, σ, 0, 0)))
set_option maxRecDepth 100000 in
theorem zr_58_62 (lay : zm_Lay) (σ : zm_Sig) (r0 : Nat) (r1 : Nat) (i2 : Int32) : zm_blk zM zp_58 none 0 0 zc_58 74 (zp_58.drop 35) (62, [(0, .ref r0), (1, .ref r1), (2, .int i2)], [], lay, σ, 0, 0) = zb_58_62 lay σ r0 r1 i2 := rfl
theorem zg_58_62 {lay : zm_Lay} {σ : zm_Sig} {r0 : Nat} {r1 : Nat} {i2 : Int32} {out : zm_Out} {r : zm_St ⊕ zm_Out} (h : zb_58_62 lay σ r0 r1 i2 = some r) (hg : zm_end zp_P 58 out r) : zm_go zp_P 58 (62, [(0, .ref r0), (1, .ref r1), (2, .int i2)], [], lay, σ, 0, 0) out :=
  zm_blk_go (M := zd_58) rfl zs_58 74 (zp_58.drop 35) _ r (fun _ h => List.mem_of_mem_drop h) ((zr_58_62 lay σ r0 r1 i2).trans h) hg
noncomputable def zb_58_72 (lay : zm_Lay) (σ : zm_Sig) (r0 : Nat) (r1 : Nat) (i2 : Int32) (i3 : Int32) : Option (zm_St ⊕ zm_Out) :=
  (zm_is lay r1 1).bind fun _ =>
  if (σ.1 r1 1) ≤ i3 then (some (.inl (62, [(0, .ref r0), (1, .ref r1), (2, .int (i2 + 1))], [], lay, σ, 0, 0)))
  else ((zm_is lay r1 1).bind fun _ => (zm_ai (zM 60 [.ref r1, .int i2, .int i3] lay σ)).bind fun q1 =>
   (zm_is q1.2.1 r0 7).bind fun _ =>
   zm_opt (q1.2.2.2.2 r0 0) (fun q2 =>
   (zm_gI q1.2.1 q1.2.2 q2 q1.1).bind fun v3 =>
   if v3 = 1 then (some (.inl (72, [(0, .ref r0), (1, .ref r1), (2, .int i2), (3, .int (i3 + 1))], [], q1.2.1, q1.2.2, 0, 0)))
   else ((zm_is q1.2.1 r1 1).bind fun _ => (zm_ai (zM 47 [.ref r1, .int i2, .int (i3 + 1)] q1.2.1 q1.2.2)).bind fun q4 =>
    (zm_is q4.2.1 r0 7).bind fun _ => (zm_ai (zM 61 [.ref r0, .int i2, .int q4.1] q4.2.1 q4.2.2)).bind fun q5 =>
    (zm_is q5.2.1 r0 7).bind fun _ => (zm_av (zM 62 [.ref r0, .int q1.1, .int q5.1] q5.2.1 q5.2.2)).bind fun q6 =>
    some (.inl (72, [(0, .ref r0), (1, .ref r1), (2, .int i2), (3, .int (i3 + 1))], [], q6.1, q6.2, 0, 0)))) (none))
set_option maxRecDepth 100000 in
theorem zr_58_72 (lay : zm_Lay) (σ : zm_Sig) (r0 : Nat) (r1 : Nat) (i2 : Int32) (i3 : Int32) : zm_blk zM zp_58 none 0 0 zc_58 74 (zp_58.drop 41) (72, [(0, .ref r0), (1, .ref r1), (2, .int i2), (3, .int i3)], [], lay, σ, 0, 0) = zb_58_72 lay σ r0 r1 i2 i3 := rfl
theorem zg_58_72 {lay : zm_Lay} {σ : zm_Sig} {r0 : Nat} {r1 : Nat} {i2 : Int32} {i3 : Int32} {out : zm_Out} {r : zm_St ⊕ zm_Out} (h : zb_58_72 lay σ r0 r1 i2 i3 = some r) (hg : zm_end zp_P 58 out r) : zm_go zp_P 58 (72, [(0, .ref r0), (1, .ref r1), (2, .int i2), (3, .int i3)], [], lay, σ, 0, 0) out :=
  zm_blk_go (M := zd_58) rfl zs_58 74 (zp_58.drop 41) _ r (fun _ h => List.mem_of_mem_drop h) ((zr_58_72 lay σ r0 r1 i2 i3).trans h) hg
/-! SubgroupWriter$Tree.branchOf(LSubgroupWriter$Group;I)I -/
theorem zs_59 : zm_srt zp_59 = true := by decide +kernel
noncomputable def zb_59_0 (lay : zm_Lay) (σ : zm_Sig) (r0 : Nat) (r1 : Nat) (i2 : Int32) : Option (zm_St ⊕ zm_Out) :=
  (zm_is lay r0 7).bind fun _ =>
  zm_opt (σ.2.2 r0 4) (fun q1 =>
  (zm_gI lay σ q1 i2).bind fun v2 =>
  if v2 ≤ 0 then ((zm_is lay r1 1).bind fun _ => (zm_ai (zM 60 [.ref r1, .int i2, .int ((-v2) - 1)] lay σ)).bind fun q3 =>
   some (.inr (some (.int q3.1), q3.2.1, q3.2.2)))
  else ((zm_is lay r0 7).bind fun _ =>
   zm_opt (σ.2.2 r0 3) (fun q4 =>
   (zm_gI lay σ q4 i2).bind fun v5 =>
   (zm_is lay r1 1).bind fun _ => (zm_ai (zM 60 [.ref r1, .int v5, .int (v2 - 1)] lay σ)).bind fun q6 =>
   some (.inr (some (.int q6.1), q6.2.1, q6.2.2))) (none))) (none)
set_option maxRecDepth 100000 in
theorem zr_59_0 (lay : zm_Lay) (σ : zm_Sig) (r0 : Nat) (r1 : Nat) (i2 : Int32) : zm_blk zM zp_59 (some .int) 0 0 zc_59 26 (zp_59.drop 0) (0, [(0, .ref r0), (1, .ref r1), (2, .int i2)], [], lay, σ, 0, 0) = zb_59_0 lay σ r0 r1 i2 := rfl
theorem ze_59 {lay : zm_Lay} {σ : zm_Sig} {r0 : Nat} {r1 : Nat} {i2 : Int32} {out : zm_Out} {r : zm_St ⊕ zm_Out} (h : zb_59_0 lay σ r0 r1 i2 = some r) (hg : zm_end zp_P 59 out r) : zM 59 [.ref r0, .ref r1, .int i2] lay σ = some out :=
  zm_mean_go (M := zd_59) rfl (Nat.le_of_ble_eq_true rfl) (zm_blk_go (M := zd_59) rfl zs_59 26 (zp_59.drop 0) _ r (fun _ h => List.mem_of_mem_drop h) ((zr_59_0 lay σ r0 r1 i2).trans h) hg)
/-! SubgroupWriter$Group.edgeOf(II)I -/
theorem zs_60 : zm_srt zp_60 = true := by decide +kernel
noncomputable def zb_60_0 (lay : zm_Lay) (σ : zm_Sig) (r0 : Nat) (i1 : Int32) (i2 : Int32) : Option (zm_St ⊕ zm_Out) :=
  (zm_is lay r0 1).bind fun _ =>
  some (.inr (some (.int (((σ.1 r0 1) * i1) + i2)), lay, σ))
set_option maxRecDepth 100000 in
theorem zr_60_0 (lay : zm_Lay) (σ : zm_Sig) (r0 : Nat) (i1 : Int32) (i2 : Int32) : zm_blk zM zp_60 (some .int) 0 0 zc_60 8 (zp_60.drop 0) (0, [(0, .ref r0), (1, .int i1), (2, .int i2)], [], lay, σ, 0, 0) = zb_60_0 lay σ r0 i1 i2 := rfl
theorem ze_60 {lay : zm_Lay} {σ : zm_Sig} {r0 : Nat} {i1 : Int32} {i2 : Int32} {out : zm_Out} {r : zm_St ⊕ zm_Out} (h : zb_60_0 lay σ r0 i1 i2 = some r) (hg : zm_end zp_P 60 out r) : zM 60 [.ref r0, .int i1, .int i2] lay σ = some out :=
  zm_mean_go (M := zd_60) rfl (Nat.le_of_ble_eq_true rfl) (zm_blk_go (M := zd_60) rfl zs_60 8 (zp_60.drop 0) _ r (fun _ h => List.mem_of_mem_drop h) ((zr_60_0 lay σ r0 i1 i2).trans h) hg)
/-! SubgroupWriter$Tree.kindOfSign(II)I -/
theorem zs_61 : zm_srt zp_61 = true := by decide +kernel
noncomputable def zb_61_0 (lay : zm_Lay) (σ : zm_Sig) (r0 : Nat) (i1 : Int32) (i2 : Int32) : Option (zm_St ⊕ zm_Out) :=
  if ¬ i1 = i2 then ((zm_is lay r0 7).bind fun _ =>
   zm_opt (σ.2.2 r0 3) (fun q1 =>
   (zm_gI lay σ q1 i1).bind fun v2 =>
   if v2 = i2 then (some (.inr (some (.int (nI 4)), lay, σ)))
   else ((zm_is lay r0 7).bind fun _ =>
    zm_opt (σ.2.2 r0 3) (fun q3 =>
    (zm_gI lay σ q3 i2).bind fun v4 =>
    if ¬ v4 = i1 then (some (.inr (some (.int (nI 2)), lay, σ)))
    else (some (.inr (some (.int (nI 4)), lay, σ)))) (none))) (none))
  else (some (.inr (some (.int (nI 3)), lay, σ)))
set_option maxRecDepth 100000 in
theorem zr_61_0 (lay : zm_Lay) (σ : zm_Sig) (r0 : Nat) (i1 : Int32) (i2 : Int32) : zm_blk zM zp_61 (some .int) 0 0 zc_61 22 (zp_61.drop 0) (0, [(0, .ref r0), (1, .int i1), (2, .int i2)], [], lay, σ, 0, 0) = zb_61_0 lay σ r0 i1 i2 := rfl
theorem ze_61 {lay : zm_Lay} {σ : zm_Sig} {r0 : Nat} {i1 : Int32} {i2 : Int32} {out : zm_Out} {r : zm_St ⊕ zm_Out} (h : zb_61_0 lay σ r0 i1 i2 = some r) (hg : zm_end zp_P 61 out r) : zM 61 [.ref r0, .int i1, .int i2] lay σ = some out :=
  zm_mean_go (M := zd_61) rfl (Nat.le_of_ble_eq_true rfl) (zm_blk_go (M := zd_61) rfl zs_61 22 (zp_61.drop 0) _ r (fun _ h => List.mem_of_mem_drop h) ((zr_61_0 lay σ r0 i1 i2).trans h) hg)
/-! SubgroupWriter$Tree.nameSign(II)V -/
theorem zs_62 : zm_srt zp_62 = true := by decide +kernel
noncomputable def zb_62_0 (lay : zm_Lay) (σ : zm_Sig) (r0 : Nat) (i1 : Int32) (i2 : Int32) : Option (zm_St ⊕ zm_Out) :=
  (zm_is lay r0 7).bind fun _ =>
  zm_opt (σ.2.2 r0 0) (fun q1 =>
  (zm_sI lay σ q1 i1 i2).bind fun s2 =>
  (zm_is lay r0 7).bind fun _ =>
  (zm_is lay r0 7).bind fun _ => (zm_fw s2 r0 2 0 (.int ((s2.1 r0 2) + 1))).bind fun s3 =>
  (zm_is lay r0 7).bind fun _ =>
  zm_opt (s3.2.2 r0 1) (fun q4 =>
  (zm_is lay r0 7).bind fun _ =>
  (zm_sI lay s3 q4 i1 (s3.1 r0 2)).bind fun s5 =>
  (zm_is lay r0 7).bind fun _ =>
  zm_opt (s5.2.2 r0 8) (fun q6 =>
  (zm_is lay r0 7).bind fun _ =>
  (zm_sI lay s5 q6 (s5.1 r0 2) i1).bind fun s7 =>
  some (.inr (none, lay, s7))) (none)) (none)) (none)
set_option maxRecDepth 100000 in
theorem zr_62_0 (lay : zm_Lay) (σ : zm_Sig) (r0 : Nat) (i1 : Int32) (i2 : Int32) : zm_blk zM zp_62 none 0 0 zc_62 25 (zp_62.drop 0) (0, [(0, .ref r0), (1, .int i1), (2, .int i2)], [], lay, σ, 0, 0) = zb_62_0 lay σ r0 i1 i2 := rfl
theorem ze_62 {lay : zm_Lay} {σ : zm_Sig} {r0 : Nat} {i1 : Int32} {i2 : Int32} {out : zm_Out} {r : zm_St ⊕ zm_Out} (h : zb_62_0 lay σ r0 i1 i2 = some r) (hg : zm_end zp_P 62 out r) : zM 62 [.ref r0, .int i1, .int i2] lay σ = some out :=
  zm_mean_go (M := zd_62) rfl (Nat.le_of_ble_eq_true rfl) (zm_blk_go (M := zd_62) rfl zs_62 25 (zp_62.drop 0) _ r (fun _ h => List.mem_of_mem_drop h) ((zr_62_0 lay σ r0 i1 i2).trans h) hg)
/-! SubgroupWriter$Rules.make(LSubgroupWriter$Group;LSubgroupWriter$Tree;)V -/
theorem zs_63 : zm_srt zp_63 = true := by decide +kernel
noncomputable def zb_63_0 (lay : zm_Lay) (σ : zm_Sig) (r0 : Nat) (r1 : Nat) (r2 : Nat) : Option (zm_St ⊕ zm_Out) :=
  (zm_is lay r0 4).bind fun _ => (zm_fw σ r0 2 0 (.int 0)).bind fun s1 =>
  (zm_is lay r2 7).bind fun _ =>
  (zm_is lay r0 4).bind fun _ => (zm_fw s1 r0 3 0 (.int (((1 : Int32) <<< ((s1.1 r2 2) &&& 31)) - 1))).bind fun s2 =>
  some (.inl (19, [(0, .ref r0), (1, .ref r1), (2, .ref r2), (3, .int 0)], [], lay, s2, 0, 0))
set_option maxRecDepth 100000 in
theorem zr_63_0 (lay : zm_Lay) (σ : zm_Sig) (r0 : Nat) (r1 : Nat) (r2 : Nat) : zm_blk zM zp_63 none 0 0 zc_63 56 (zp_63.drop 0) (0, [(0, .ref r0), (1, .ref r1), (2, .ref r2)], [], lay, σ, 0, 0) = zb_63_0 lay σ r0 r1 r2 := rfl
theorem ze_63 {lay : zm_Lay} {σ : zm_Sig} {r0 : Nat} {r1 : Nat} {r2 : Nat} {out : zm_Out} {r : zm_St ⊕ zm_Out} (h : zb_63_0 lay σ r0 r1 r2 = some r) (hg : zm_end zp_P 63 out r) : zM 63 [.ref r0, .ref r1, .ref r2] lay σ = some out :=
  zm_mean_go (M := zd_63) rfl (Nat.le_of_ble_eq_true rfl) (zm_blk_go (M := zd_63) rfl zs_63 56 (zp_63.drop 0) _ r (fun _ h => List.mem_of_mem_drop h) ((zr_63_0 lay σ r0 r1 r2).trans h) hg)
noncomputable def zb_63_19 (lay : zm_Lay) (σ : zm_Sig) (r0 : Nat) (r1 : Nat) (r2 : Nat) (i3 : Int32) : Option (zm_St ⊕ zm_Out) :=
  (zm_is lay r1 1).bind fun _ =>
  if (σ.1 r1 0) ≤ i3 then (some (.inr (none, lay, σ)))
  else (some (.inl (30, [(0, .ref r0), (1, .ref r1), (2, .ref r2), (3, .int i3), (4, .int 0)], [], lay, σ, 0, 0)))
set_option maxRecDepth 100000 in
theorem zr_63_19 (lay : zm_Lay) (σ : zm_Sig) (r0 : Nat) (r1 : Nat) (r2 : Nat) (i3 : Int32) : zm_blk zM zp_63 none 0 0 zc_63 56 (zp_63.drop 13) (19, [(0, .ref r0), (1, .ref r1), (2, .ref r2), (3, .int i3)], [], lay, σ, 0, 0) = zb_63_19 lay σ r0 r1 r2 i3 := rfl
theorem zg_63_19 {lay : zm_Lay} {σ : zm_Sig} {r0 : Nat} {r1 : Nat} {r2 : Nat} {i3 : Int32} {out : zm_Out} {r : zm_St ⊕ zm_Out} (h : zb_63_19 lay σ r0 r1 r2 i3 = some r) (hg : zm_end zp_P 63 out r) : zm_go zp_P 63 (19, [(0, .ref r0), (1, .ref r1), (2, .ref r2), (3, .int i3)], [], lay, σ, 0, 0) out :=
  zm_blk_go (M := zd_63) rfl zs_63 56 (zp_63.drop 13) _ r (fun _ h => List.mem_of_mem_drop h) ((zr_63_19 lay σ r0 r1 r2 i3).trans h) hg
noncomputable def zb_63_30 (lay : zm_Lay) (σ : zm_Sig) (r0 : Nat) (r1 : Nat) (r2 : Nat) (i3 : Int32) (i4 : Int32) : Option (zm_St ⊕ zm_Out) :=
  (zm_is lay r1 1).bind fun _ =>
  if (σ.1 r1 2) ≤ i4 then (some (.inl (19, [(0, .ref r0), (1, .ref r1), (2, .ref r2), (3, .int (i3 + 1))], [], lay, σ, 0, 0)))
  else ((zm_is lay r1 1).bind fun _ =>
   zm_opt (σ.2.2 r1 4) (fun q1 =>
   (zm_gR lay σ q1 i4).bind fun o2 => zm_opt o2 (fun q3 =>
   (zm_is lay r1 1).bind fun _ =>
   zm_opt (σ.2.2 r1 5) (fun q4 =>
   (zm_gI lay σ q4 i4).bind fun v5 =>
   (zm_is lay r0 4).bind fun _ =>
   zm_opt (σ.2.2 r0 4) (fun q6 =>
   (zm_is lay r2 7).bind fun _ => (zm_ai (zM 64 [.ref r2, .ref r1, .int i3, .ref q3, .int v5, .ref q6] lay σ)).bind fun q7 =>
   (zm_is q7.2.1 r0 4).bind fun _ =>
   (zm_is q7.2.1 r0 4).bind fun _ => (zm_fw q7.2.2 r0 2 0 (.int ((q7.2.2.1 r0 2) + 1))).bind fun s8 =>
   (zm_is q7.2.1 r0 4).bind fun _ =>
   (zm_is q7.2.1 r0 4).bind fun _ => (zm_av (zM 67 [.ref r0, .int ((s8.1 r0 2) - 1)] q7.2.1 s8)).bind fun q9 =>
   some (.inl (30, [(0, .ref r0), (1, .ref r1), (2, .ref r2), (3, .int i3), (4, .int (i4 + 1))], [], q9.1, q9.2, 0, 0))) (none)) (none)) none) (none))
set_option maxRecDepth 100000 in
theorem zr_63_30 (lay : zm_Lay) (σ : zm_Sig) (r0 : Nat) (r1 : Nat) (r2 : Nat) (i3 : Int32) (i4 : Int32) : zm_blk zM zp_63 none 0 0 zc_63 56 (zp_63.drop 19) (30, [(0, .ref r0), (1, .ref r1), (2, .ref r2), (3, .int i3), (4, .int i4)], [], lay, σ, 0, 0) = zb_63_30 lay σ r0 r1 r2 i3 i4 := rfl
theorem zg_63_30 {lay : zm_Lay} {σ : zm_Sig} {r0 : Nat} {r1 : Nat} {r2 : Nat} {i3 : Int32} {i4 : Int32} {out : zm_Out} {r : zm_St ⊕ zm_Out} (h : zb_63_30 lay σ r0 r1 r2 i3 i4 = some r) (hg : zm_end zp_P 63 out r) : zm_go zp_P 63 (30, [(0, .ref r0), (1, .ref r1), (2, .ref r2), (3, .int i3), (4, .int i4)], [], lay, σ, 0, 0) out :=
  zm_blk_go (M := zd_63) rfl zs_63 56 (zp_63.drop 19) _ r (fun _ h => List.mem_of_mem_drop h) ((zr_63_30 lay σ r0 r1 r2 i3 i4).trans h) hg
/-! SubgroupWriter$Tree.write(LSubgroupWriter$Group;I[IILSubgroupWriter$Word;)I -/
theorem zs_64 : zm_srt zp_64 = true := by decide +kernel
noncomputable def zb_64_0 (lay : zm_Lay) (σ : zm_Sig) (r0 : Nat) (r1 : Nat) (i2 : Int32) (r3 : Nat) (i4 : Int32) (r5 : Nat) : Option (zm_St ⊕ zm_Out) :=
  (zm_is lay r5 8).bind fun _ => (zm_av (zM 65 [.ref r5] lay σ)).bind fun q1 =>
  some (.inl (11, [(0, .ref r0), (1, .ref r1), (3, .ref r3), (4, .int i4), (5, .ref r5), (6, .int i2), (7, .int 0)], [], q1.1, q1.2, 0, 0))
set_option maxRecDepth 100000 in
theorem zr_64_0 (lay : zm_Lay) (σ : zm_Sig) (r0 : Nat) (r1 : Nat) (i2 : Int32) (r3 : Nat) (i4 : Int32) (r5 : Nat) : zm_blk zM zp_64 (some .int) 0 0 zc_64 61 (zp_64.drop 0) (0, [(0, .ref r0), (1, .ref r1), (2, .int i2), (3, .ref r3), (4, .int i4), (5, .ref r5)], [], lay, σ, 0, 0) = zb_64_0 lay σ r0 r1 i2 r3 i4 r5 := rfl
theorem ze_64 {lay : zm_Lay} {σ : zm_Sig} {r0 : Nat} {r1 : Nat} {i2 : Int32} {r3 : Nat} {i4 : Int32} {r5 : Nat} {out : zm_Out} {r : zm_St ⊕ zm_Out} (h : zb_64_0 lay σ r0 r1 i2 r3 i4 r5 = some r) (hg : zm_end zp_P 64 out r) : zM 64 [.ref r0, .ref r1, .int i2, .ref r3, .int i4, .ref r5] lay σ = some out :=
  zm_mean_go (M := zd_64) rfl (Nat.le_of_ble_eq_true rfl) (zm_blk_go (M := zd_64) rfl zs_64 61 (zp_64.drop 0) _ r (fun _ h => List.mem_of_mem_drop h) ((zr_64_0 lay σ r0 r1 i2 r3 i4 r5).trans h) hg)
noncomputable def zb_64_11 (lay : zm_Lay) (σ : zm_Sig) (r0 : Nat) (r1 : Nat) (r3 : Nat) (i4 : Int32) (r5 : Nat) (i6 : Int32) (i7 : Int32) : Option (zm_St ⊕ zm_Out) :=
  if i4 ≤ i7 then (some (.inr (some (.int i6), lay, σ)))
  else ((zm_len lay r3).bind fun v1 =>
   if v1 ≤ i7 then (some (.inr (some (.int i6), lay, σ)))
   else ((zm_gI lay σ r3 i7).bind fun v2 =>
    (zm_is lay r1 1).bind fun _ => (zm_ai (zM 45 [.ref r1, .int v2] lay σ)).bind fun q3 =>
    if ¬ q3.1 = 0 then ((zm_is q3.2.1 r1 1).bind fun _ => (zm_ai (zM 47 [.ref r1, .int i6, .int v2] q3.2.1 q3.2.2)).bind fun q4 =>
     if v2 ≤ 0 then ((zm_is q4.2.1 r0 7).bind fun _ =>
      zm_opt (q4.2.2.2.2 r0 1) (fun q5 =>
      (zm_is q4.2.1 r1 1).bind fun _ => (zm_ai (zM 60 [.ref r1, .int q4.1, .int ((-v2) - 1)] q4.2.1 q4.2.2)).bind fun q6 =>
      (zm_gI q6.2.1 q6.2.2 q5 q6.1).bind fun v7 =>
      (zm_is q6.2.1 r5 8).bind fun _ => (zm_av (zM 66 [.ref r5, .int (-v7)] q6.2.1 q6.2.2)).bind fun q8 =>
      some (.inl (11, [(0, .ref r0), (1, .ref r1), (3, .ref r3), (4, .int i4), (5, .ref r5), (6, .int q4.1), (7, .int (i7 + 1))], [], q8.1, q8.2, 0, 0))) (none))
     else ((zm_is q4.2.1 r0 7).bind fun _ =>
      zm_opt (q4.2.2.2.2 r0 1) (fun q9 =>
      (zm_is q4.2.1 r1 1).bind fun _ => (zm_ai (zM 60 [.ref r1, .int i6, .int (v2 - 1)] q4.2.1 q4.2.2)).bind fun q10 =>
      (zm_gI q10.2.1 q10.2.2 q9 q10.1).bind fun v11 =>
      (zm_is q10.2.1 r5 8).bind fun _ => (zm_av (zM 66 [.ref r5, .int v11] q10.2.1 q10.2.2)).bind fun q12 =>
      some (.inl (11, [(0, .ref r0), (1, .ref r1), (3, .ref r3), (4, .int i4), (5, .ref r5), (6, .int q4.1), (7, .int (i7 + 1))], [], q12.1, q12.2, 0, 0))) (none)))
    else (some (.inl (11, [(0, .ref r0), (1, .ref r1), (3, .ref r3), (4, .int i4), (5, .ref r5), (6, .int i6), (7, .int (i7 + 1))], [], q3.2.1, q3.2.2, 0, 0)))))
set_option maxRecDepth 100000 in
theorem zr_64_11 (lay : zm_Lay) (σ : zm_Sig) (r0 : Nat) (r1 : Nat) (r3 : Nat) (i4 : Int32) (r5 : Nat) (i6 : Int32) (i7 : Int32) : zm_blk zM zp_64 (some .int) 0 0 zc_64 61 (zp_64.drop 6) (11, [(0, .ref r0), (1, .ref r1), (3, .ref r3), (4, .int i4), (5, .ref r5), (6, .int i6), (7, .int i7)], [], lay, σ, 0, 0) = zb_64_11 lay σ r0 r1 r3 i4 r5 i6 i7 := rfl
theorem zg_64_11 {lay : zm_Lay} {σ : zm_Sig} {r0 : Nat} {r1 : Nat} {r3 : Nat} {i4 : Int32} {r5 : Nat} {i6 : Int32} {i7 : Int32} {out : zm_Out} {r : zm_St ⊕ zm_Out} (h : zb_64_11 lay σ r0 r1 r3 i4 r5 i6 i7 = some r) (hg : zm_end zp_P 64 out r) : zm_go zp_P 64 (11, [(0, .ref r0), (1, .ref r1), (3, .ref r3), (4, .int i4), (5, .ref r5), (6, .int i6), (7, .int i7)], [], lay, σ, 0, 0) out :=
  zm_blk_go (M := zd_64) rfl zs_64 61 (zp_64.drop 6) _ r (fun _ h => List.mem_of_mem_drop h) ((zr_64_11 lay σ r0 r1 r3 i4 r5 i6 i7).trans h) hg
/-! SubgroupWriter$Word.clear()V -/
theorem zs_65 : zm_srt zp_65 = true := by decide +kernel
noncomputable def zb_65_0 (lay : zm_Lay) (σ : zm_Sig) (r0 : Nat) : Option (zm_St ⊕ zm_Out) :=
  (zm_is lay r0 8).bind fun _ => (zm_fw σ r0 1 0 (.int 0)).bind fun s1 =>
  some (.inr (none, lay, s1))
set_option maxRecDepth 100000 in
theorem zr_65_0 (lay : zm_Lay) (σ : zm_Sig) (r0 : Nat) : zm_blk zM zp_65 none 0 0 zc_65 5 (zp_65.drop 0) (0, [(0, .ref r0)], [], lay, σ, 0, 0) = zb_65_0 lay σ r0 := rfl
theorem ze_65 {lay : zm_Lay} {σ : zm_Sig} {r0 : Nat} {out : zm_Out} {r : zm_St ⊕ zm_Out} (h : zb_65_0 lay σ r0 = some r) (hg : zm_end zp_P 65 out r) : zM 65 [.ref r0] lay σ = some out :=
  zm_mean_go (M := zd_65) rfl (Nat.le_of_ble_eq_true rfl) (zm_blk_go (M := zd_65) rfl zs_65 5 (zp_65.drop 0) _ r (fun _ h => List.mem_of_mem_drop h) ((zr_65_0 lay σ r0).trans h) hg)
/-! SubgroupWriter$Word.push(I)V -/
theorem zs_66 : zm_srt zp_66 = true := by decide +kernel
noncomputable def zb_66_0 (lay : zm_Lay) (σ : zm_Sig) (r0 : Nat) (i1 : Int32) : Option (zm_St ⊕ zm_Out) :=
  if ¬ i1 = 0 then ((zm_is lay r0 8).bind fun _ =>
   if (σ.1 r0 1) ≤ 0 then ((zm_is lay r0 8).bind fun _ =>
    if ((nI 400) : Int32) ≤ (σ.1 r0 1) then (some (.inr (none, lay, σ)))
    else ((zm_is lay r0 8).bind fun _ =>
     zm_opt (σ.2.2 r0 0) (fun q1 =>
     (zm_is lay r0 8).bind fun _ =>
     (zm_sI lay σ q1 (σ.1 r0 1) i1).bind fun s2 =>
     (zm_is lay r0 8).bind fun _ =>
     (zm_is lay r0 8).bind fun _ => (zm_fw s2 r0 1 0 (.int ((s2.1 r0 1) + 1))).bind fun s3 =>
     some (.inr (none, lay, s3))) (none)))
   else ((zm_is lay r0 8).bind fun _ =>
    zm_opt (σ.2.2 r0 0) (fun q4 =>
    (zm_is lay r0 8).bind fun _ =>
    (zm_gI lay σ q4 ((σ.1 r0 1) - 1)).bind fun v5 =>
    if ¬ v5 = (-i1) then ((zm_is lay r0 8).bind fun _ =>
     if ((nI 400) : Int32) ≤ (σ.1 r0 1) then (some (.inr (none, lay, σ)))
     else ((zm_is lay r0 8).bind fun _ =>
      zm_opt (σ.2.2 r0 0) (fun q6 =>
      (zm_is lay r0 8).bind fun _ =>
      (zm_sI lay σ q6 (σ.1 r0 1) i1).bind fun s7 =>
      (zm_is lay r0 8).bind fun _ =>
      (zm_is lay r0 8).bind fun _ => (zm_fw s7 r0 1 0 (.int ((s7.1 r0 1) + 1))).bind fun s8 =>
      some (.inr (none, lay, s8))) (none)))
    else ((zm_is lay r0 8).bind fun _ =>
     (zm_is lay r0 8).bind fun _ => (zm_fw σ r0 1 0 (.int ((σ.1 r0 1) - 1))).bind fun s9 =>
     some (.inr (none, lay, s9)))) (none)))
  else (some (.inr (none, lay, σ)))
set_option maxRecDepth 100000 in
theorem zr_66_0 (lay : zm_Lay) (σ : zm_Sig) (r0 : Nat) (i1 : Int32) : zm_blk zM zp_66 none 0 0 zc_66 41 (zp_66.drop 0) (0, [(0, .ref r0), (1, .int i1)], [], lay, σ, 0, 0) = zb_66_0 lay σ r0 i1 := rfl
theorem ze_66 {lay : zm_Lay} {σ : zm_Sig} {r0 : Nat} {i1 : Int32} {out : zm_Out} {r : zm_St ⊕ zm_Out} (h : zb_66_0 lay σ r0 i1 = some r) (hg : zm_end zp_P 66 out r) : zM 66 [.ref r0, .int i1] lay σ = some out :=
  zm_mean_go (M := zd_66) rfl (Nat.le_of_ble_eq_true rfl) (zm_blk_go (M := zd_66) rfl zs_66 41 (zp_66.drop 0) _ r (fun _ h => List.mem_of_mem_drop h) ((zr_66_0 lay σ r0 i1).trans h) hg)
/-! SubgroupWriter$Rules.storeDraft(I)V -/
theorem zs_67 : zm_srt zp_67 = true := by decide +kernel
noncomputable def zb_67_0 (lay : zm_Lay) (σ : zm_Sig) (r0 : Nat) (i1 : Int32) : Option (zm_St ⊕ zm_Out) :=
  (zm_is lay r0 4).bind fun _ =>
  zm_opt (σ.2.2 r0 1) (fun q1 =>
  (zm_is lay r0 4).bind fun _ =>
  zm_opt (σ.2.2 r0 4) (fun q2 =>
  (zm_is lay q2 8).bind fun _ =>
  (zm_ai (zM 34 [.int (nI 16), .int (σ.1 q2 1)] lay σ)).bind fun q3 =>
  (zm_sI q3.2.1 q3.2.2 q1 i1 q3.1).bind fun s4 =>
  (zm_is q3.2.1 r0 4).bind fun _ =>
  zm_opt (s4.2.2 r0 4) (fun q5 =>
  (zm_is q3.2.1 q5 8).bind fun _ =>
  zm_opt (s4.2.2 q5 0) (fun q6 =>
  (zm_is q3.2.1 r0 4).bind fun _ =>
  zm_opt (s4.2.2 r0 0) (fun q7 =>
  (zm_gR q3.2.1 s4 q7 i1).bind fun o8 => zm_opt o8 (fun q9 =>
  (zm_is q3.2.1 r0 4).bind fun _ =>
  zm_opt (s4.2.2 r0 1) (fun q10 =>
  (zm_gI q3.2.1 s4 q10 i1).bind fun v11 =>
  (zm_cpy q3.2.1 s4 q6 0 q9 0 v11).bind fun s12 =>
  some (.inr (none, q3.2.1, s12))) (none)) none) (none)) (none)) (none)) (none)) (none)
set_option maxRecDepth 100000 in
theorem zr_67_0 (lay : zm_Lay) (σ : zm_Sig) (r0 : Nat) (i1 : Int32) : zm_blk zM zp_67 none 0 0 zc_67 25 (zp_67.drop 0) (0, [(0, .ref r0), (1, .int i1)], [], lay, σ, 0, 0) = zb_67_0 lay σ r0 i1 := rfl
theorem ze_67 {lay : zm_Lay} {σ : zm_Sig} {r0 : Nat} {i1 : Int32} {out : zm_Out} {r : zm_St ⊕ zm_Out} (h : zb_67_0 lay σ r0 i1 = some r) (hg : zm_end zp_P 67 out r) : zM 67 [.ref r0, .int i1] lay σ = some out :=
  zm_mean_go (M := zd_67) rfl (Nat.le_of_ble_eq_true rfl) (zm_blk_go (M := zd_67) rfl zs_67 25 (zp_67.drop 0) _ r (fun _ h => List.mem_of_mem_drop h) ((zr_67_0 lay σ r0 i1).trans h) hg)
/-! SubgroupWriter.goes(II)I -/
theorem zs_68 : zm_srt zp_68 = true := by decide +kernel
noncomputable def zb_68_0 (lay : zm_Lay) (σ : zm_Sig) (r0 : Nat) (i1 : Int32) (i2 : Int32) : Option (zm_St ⊕ zm_Out) :=
  (zm_is lay r0 9).bind fun _ =>
  zm_opt (σ.2.2 r0 11) (fun q1 =>
  (zm_is lay q1 1).bind fun _ => (zm_ai (zM 69 [.ref q1, .int i1] lay σ)).bind fun q2 =>
  if q2.1 = 0 then (some (.inr (some (.int (-1)), q2.2.1, q2.2.2)))
  else ((zm_is q2.2.1 r0 9).bind fun _ =>
   zm_opt (q2.2.2.2.2 r0 11) (fun q3 =>
   (zm_is q2.2.1 q3 1).bind fun _ => (zm_ai (zM 45 [.ref q3, .int i2] q2.2.1 q2.2.2)).bind fun q4 =>
   if ¬ q4.1 = 0 then ((zm_is q4.2.1 r0 9).bind fun _ =>
    zm_opt (q4.2.2.2.2 r0 11) (fun q5 =>
    (zm_is q4.2.1 q5 1).bind fun _ => (zm_ai (zM 47 [.ref q5, .int i1, .int i2] q4.2.1 q4.2.2)).bind fun q6 =>
    some (.inr (some (.int q6.1), q6.2.1, q6.2.2))) (none))
   else (some (.inr (some (.int (-1)), q4.2.1, q4.2.2)))) (none))) (none)
set_option maxRecDepth 100000 in
theorem zr_68_0 (lay : zm_Lay) (σ : zm_Sig) (r0 : Nat) (i1 : Int32) (i2 : Int32) : zm_blk zM zp_68 (some .int) 0 0 zc_68 19 (zp_68.drop 0) (0, [(0, .ref r0), (1, .int i1), (2, .int i2)], [], lay, σ, 0, 0) = zb_68_0 lay σ r0 i1 i2 := rfl
theorem ze_68 {lay : zm_Lay} {σ : zm_Sig} {r0 : Nat} {i1 : Int32} {i2 : Int32} {out : zm_Out} {r : zm_St ⊕ zm_Out} (h : zb_68_0 lay σ r0 i1 i2 = some r) (hg : zm_end zp_P 68 out r) : zM 68 [.ref r0, .int i1, .int i2] lay σ = some out :=
  zm_mean_go (M := zd_68) rfl (Nat.le_of_ble_eq_true rfl) (zm_blk_go (M := zd_68) rfl zs_68 19 (zp_68.drop 0) _ r (fun _ h => List.mem_of_mem_drop h) ((zr_68_0 lay σ r0 i1 i2).trans h) hg)
/-! SubgroupWriter$Group.isPoint(I)Z -/
theorem zs_69 : zm_srt zp_69 = true := by decide +kernel
noncomputable def zb_69_0 (lay : zm_Lay) (σ : zm_Sig) (r0 : Nat) (i1 : Int32) : Option (zm_St ⊕ zm_Out) :=
  if i1 < 0 then (some (.inr (some (.int 0), lay, σ)))
  else ((zm_is lay r0 1).bind fun _ =>
   if (σ.1 r0 0) ≤ i1 then (some (.inr (some (.int 0), lay, σ)))
   else (some (.inr (some (.int 1), lay, σ))))
set_option maxRecDepth 100000 in
theorem zr_69_0 (lay : zm_Lay) (σ : zm_Sig) (r0 : Nat) (i1 : Int32) : zm_blk zM zp_69 (some .boolean) 0 0 zc_69 11 (zp_69.drop 0) (0, [(0, .ref r0), (1, .int i1)], [], lay, σ, 0, 0) = zb_69_0 lay σ r0 i1 := rfl
theorem ze_69 {lay : zm_Lay} {σ : zm_Sig} {r0 : Nat} {i1 : Int32} {out : zm_Out} {r : zm_St ⊕ zm_Out} (h : zb_69_0 lay σ r0 i1 = some r) (hg : zm_end zp_P 69 out r) : zM 69 [.ref r0, .int i1] lay σ = some out :=
  zm_mean_go (M := zd_69) rfl (Nat.le_of_ble_eq_true rfl) (zm_blk_go (M := zd_69) rfl zs_69 11 (zp_69.drop 0) _ r (fun _ h => List.mem_of_mem_drop h) ((zr_69_0 lay σ r0 i1).trans h) hg)
/-! SubgroupWriter.reached(II)I -/
theorem zs_70 : zm_srt zp_70 = true := by decide +kernel
noncomputable def zb_70_0 (lay : zm_Lay) (σ : zm_Sig) (r0 : Nat) (i1 : Int32) (i2 : Int32) : Option (zm_St ⊕ zm_Out) :=
  (zm_is lay r0 9).bind fun _ =>
  zm_opt (σ.2.2 r0 11) (fun q1 =>
  (zm_is lay q1 1).bind fun _ => (zm_ai (zM 69 [.ref q1, .int i1] lay σ)).bind fun q2 =>
  if q2.1 = 0 then (some (.inr (some (.int (-1)), q2.2.1, q2.2.2)))
  else (if i2 < 0 then (some (.inr (some (.int (-1)), q2.2.1, q2.2.2)))
   else (if i2 ≤ (nI 3) then ((zm_is q2.2.1 r0 9).bind fun _ =>
     zm_opt (q2.2.2.2.2 r0 3) (fun q3 =>
     (zm_is q2.2.1 q3 0).bind fun _ =>
     zm_opt (q2.2.2.2.2 q3 0) (fun q4 =>
     (zm_is q2.2.1 q4 7).bind fun _ => (zm_ai (zM 71 [.ref q4, .int i1, .int i2] q2.2.1 q2.2.2)).bind fun q5 =>
     (zm_is q5.2.1 r0 9).bind fun _ => (zm_ai (zM 20 [.ref r0, .int q5.1] q5.2.1 q5.2.2)).bind fun q6 =>
     some (.inr (some (.int q6.1), q6.2.1, q6.2.2))) (none)) (none))
    else (some (.inr (some (.int (-1)), q2.2.1, q2.2.2)))))) (none)
set_option maxRecDepth 100000 in
theorem zr_70_0 (lay : zm_Lay) (σ : zm_Sig) (r0 : Nat) (i1 : Int32) (i2 : Int32) : zm_blk zM zp_70 (some .int) 0 0 zc_70 22 (zp_70.drop 0) (0, [(0, .ref r0), (1, .int i1), (2, .int i2)], [], lay, σ, 0, 0) = zb_70_0 lay σ r0 i1 i2 := rfl
theorem ze_70 {lay : zm_Lay} {σ : zm_Sig} {r0 : Nat} {i1 : Int32} {i2 : Int32} {out : zm_Out} {r : zm_St ⊕ zm_Out} (h : zb_70_0 lay σ r0 i1 i2 = some r) (hg : zm_end zp_P 70 out r) : zM 70 [.ref r0, .int i1, .int i2] lay σ = some out :=
  zm_mean_go (M := zd_70) rfl (Nat.le_of_ble_eq_true rfl) (zm_blk_go (M := zd_70) rfl zs_70 22 (zp_70.drop 0) _ r (fun _ h => List.mem_of_mem_drop h) ((zr_70_0 lay σ r0 i1 i2).trans h) hg)
/-! SubgroupWriter$Tree.tellPoint(II)I -/
theorem zs_71 : zm_srt zp_71 = true := by decide +kernel
noncomputable def zb_71_0 (lay : zm_Lay) (σ : zm_Sig) (r0 : Nat) (i1 : Int32) (i2 : Int32) : Option (zm_St ⊕ zm_Out) :=
  if i2 = 0 then ((zm_is lay r0 7).bind fun _ =>
   zm_opt (σ.2.2 r0 3) (fun q1 =>
   (zm_gI lay σ q1 i1).bind fun v2 =>
   some (.inr (some (.int v2), lay, σ))) (none))
  else if i2 = 1 then ((zm_is lay r0 7).bind fun _ =>
   zm_opt (σ.2.2 r0 4) (fun q3 =>
   (zm_gI lay σ q3 i1).bind fun v4 =>
   some (.inr (some (.int v4), lay, σ))) (none))
  else if i2 = (nI 2) then ((zm_is lay r0 7).bind fun _ =>
   zm_opt (σ.2.2 r0 5) (fun q5 =>
   (zm_gI lay σ q5 i1).bind fun v6 =>
   some (.inr (some (.int v6), lay, σ))) (none))
  else ((zm_is lay r0 7).bind fun _ =>
   zm_opt (σ.2.2 r0 6) (fun q7 =>
   (zm_gI lay σ q7 i1).bind fun v8 =>
   some (.inr (some (.int v8), lay, σ))) (none))
set_option maxRecDepth 100000 in
theorem zr_71_0 (lay : zm_Lay) (σ : zm_Sig) (r0 : Nat) (i1 : Int32) (i2 : Int32) : zm_blk zM zp_71 (some .int) 0 0 zc_71 23 (zp_71.drop 0) (0, [(0, .ref r0), (1, .int i1), (2, .int i2)], [], lay, σ, 0, 0) = zb_71_0 lay σ r0 i1 i2 := rfl
theorem ze_71 {lay : zm_Lay} {σ : zm_Sig} {r0 : Nat} {i1 : Int32} {i2 : Int32} {out : zm_Out} {r : zm_St ⊕ zm_Out} (h : zb_71_0 lay σ r0 i1 i2 = some r) (hg : zm_end zp_P 71 out r) : zM 71 [.ref r0, .int i1, .int i2] lay σ = some out :=
  zm_mean_go (M := zd_71) rfl (Nat.le_of_ble_eq_true rfl) (zm_blk_go (M := zd_71) rfl zs_71 23 (zp_71.drop 0) _ r (fun _ h => List.mem_of_mem_drop h) ((zr_71_0 lay σ r0 i1 i2).trans h) hg)
/-! SubgroupWriter.way(II)I -/
theorem zs_72 : zm_srt zp_72 = true := by decide +kernel
noncomputable def zb_72_0 (lay : zm_Lay) (σ : zm_Sig) (r0 : Nat) (i1 : Int32) (i2 : Int32) : Option (zm_St ⊕ zm_Out) :=
  (zm_is lay r0 9).bind fun _ =>
  zm_opt (σ.2.2 r0 11) (fun q1 =>
  (zm_is lay q1 1).bind fun _ => (zm_ai (zM 69 [.ref q1, .int i1] lay σ)).bind fun q2 =>
  if q2.1 = 0 then (some (.inr (some (.int (-1)), q2.2.1, q2.2.2)))
  else ((zm_is q2.2.1 r0 9).bind fun _ =>
   zm_opt (q2.2.2.2.2 r0 0) (fun q3 =>
   (zm_is q2.2.1 q3 5).bind fun _ => (zm_ai (zM 12 [.ref q3, .int i2] q2.2.1 q2.2.2)).bind fun q4 =>
   if ¬ q4.1 = 0 then ((zm_is q4.2.1 r0 9).bind fun _ =>
    zm_opt (q4.2.2.2.2 r0 5) (fun q5 =>
    (zm_is q4.2.1 q5 8).bind fun _ => (zm_av (zM 65 [.ref q5] q4.2.1 q4.2.2)).bind fun q6 =>
    (zm_is q6.1 r0 9).bind fun _ =>
    zm_opt (q6.2.2.2 r0 3) (fun q7 =>
    (zm_is q6.1 q7 0).bind fun _ =>
    zm_opt (q6.2.2.2 q7 0) (fun q8 =>
    (zm_is q6.1 r0 9).bind fun _ =>
    zm_opt (q6.2.2.2 r0 5) (fun q9 =>
    (zm_is q6.1 q8 7).bind fun _ => (zm_av (zM 73 [.ref q8, .int i1, .ref q9] q6.1 q6.2)).bind fun q10 =>
    (zm_is q10.1 r0 9).bind fun _ => (zm_ai (zM 75 [.ref r0, .int i2] q10.1 q10.2)).bind fun q11 =>
    some (.inr (some (.int q11.1), q11.2.1, q11.2.2))) (none)) (none)) (none)) (none))
   else (some (.inr (some (.int (-1)), q4.2.1, q4.2.2)))) (none))) (none)
set_option maxRecDepth 100000 in
theorem zr_72_0 (lay : zm_Lay) (σ : zm_Sig) (r0 : Nat) (i1 : Int32) (i2 : Int32) : zm_blk zM zp_72 (some .int) 0 0 zc_72 27 (zp_72.drop 0) (0, [(0, .ref r0), (1, .int i1), (2, .int i2)], [], lay, σ, 0, 0) = zb_72_0 lay σ r0 i1 i2 := rfl
theorem ze_72 {lay : zm_Lay} {σ : zm_Sig} {r0 : Nat} {i1 : Int32} {i2 : Int32} {out : zm_Out} {r : zm_St ⊕ zm_Out} (h : zb_72_0 lay σ r0 i1 i2 = some r) (hg : zm_end zp_P 72 out r) : zM 72 [.ref r0, .int i1, .int i2] lay σ = some out :=
  zm_mean_go (M := zd_72) rfl (Nat.le_of_ble_eq_true rfl) (zm_blk_go (M := zd_72) rfl zs_72 27 (zp_72.drop 0) _ r (fun _ h => List.mem_of_mem_drop h) ((zr_72_0 lay σ r0 i1 i2).trans h) hg)
/-! SubgroupWriter$Tree.addWay(ILSubgroupWriter$Word;)V -/
theorem zs_73 : zm_srt zp_73 = true := by decide +kernel
noncomputable def zb_73_0 (lay : zm_Lay) (σ : zm_Sig) (r0 : Nat) (i1 : Int32) (r2 : Nat) : Option (zm_St ⊕ zm_Out) :=
  (zm_is lay r0 7).bind fun _ => (zm_av (zM 74 [.ref r0, .int i1] lay σ)).bind fun q1 =>
  some (.inl (7, [(0, .ref r0), (1, .int i1), (2, .ref r2), (3, .int 0)], [], q1.1, q1.2, 0, 0))
set_option maxRecDepth 100000 in
theorem zr_73_0 (lay : zm_Lay) (σ : zm_Sig) (r0 : Nat) (i1 : Int32) (r2 : Nat) : zm_blk zM zp_73 none 0 0 zc_73 21 (zp_73.drop 0) (0, [(0, .ref r0), (1, .int i1), (2, .ref r2)], [], lay, σ, 0, 0) = zb_73_0 lay σ r0 i1 r2 := rfl
theorem ze_73 {lay : zm_Lay} {σ : zm_Sig} {r0 : Nat} {i1 : Int32} {r2 : Nat} {out : zm_Out} {r : zm_St ⊕ zm_Out} (h : zb_73_0 lay σ r0 i1 r2 = some r) (hg : zm_end zp_P 73 out r) : zM 73 [.ref r0, .int i1, .ref r2] lay σ = some out :=
  zm_mean_go (M := zd_73) rfl (Nat.le_of_ble_eq_true rfl) (zm_blk_go (M := zd_73) rfl zs_73 21 (zp_73.drop 0) _ r (fun _ h => List.mem_of_mem_drop h) ((zr_73_0 lay σ r0 i1 r2).trans h) hg)
noncomputable def zb_73_7 (lay : zm_Lay) (σ : zm_Sig) (r0 : Nat) (i1 : Int32) (r2 : Nat) (i3 : Int32) : Option (zm_St ⊕ zm_Out) :=
  (zm_is lay r0 7).bind fun _ =>
  zm_opt (σ.2.2 r0 5) (fun q1 =>
  (zm_gI lay σ q1 i1).bind fun v2 =>
  if v2 ≤ i3 then (some (.inr (none, lay, σ)))
  else ((zm_is lay r0 7).bind fun _ =>
   zm_opt (σ.2.2 r0 9) (fun q3 =>
   (zm_gI lay σ q3 i3).bind fun v4 =>
   (zm_is lay r2 8).bind fun _ => (zm_av (zM 66 [.ref r2, .int v4] lay σ)).bind fun q5 =>
   some (.inl (7, [(0, .ref r0), (1, .int i1), (2, .ref r2), (3, .int (i3 + 1))], [], q5.1, q5.2, 0, 0))) (none))) (none)
set_option maxRecDepth 100000 in
theorem zr_73_7 (lay : zm_Lay) (σ : zm_Sig) (r0 : Nat) (i1 : Int32) (r2 : Nat) (i3 : Int32) : zm_blk zM zp_73 none 0 0 zc_73 21 (zp_73.drop 5) (7, [(0, .ref r0), (1, .int i1), (2, .ref r2), (3, .int i3)], [], lay, σ, 0, 0) = zb_73_7 lay σ r0 i1 r2 i3 := rfl
theorem zg_73_7 {lay : zm_Lay} {σ : zm_Sig} {r0 : Nat} {i1 : Int32} {r2 : Nat} {i3 : Int32} {out : zm_Out} {r : zm_St ⊕ zm_Out} (h : zb_73_7 lay σ r0 i1 r2 i3 = some r) (hg : zm_end zp_P 73 out r) : zm_go zp_P 73 (7, [(0, .ref r0), (1, .int i1), (2, .ref r2), (3, .int i3)], [], lay, σ, 0, 0) out :=
  zm_blk_go (M := zd_73) rfl zs_73 21 (zp_73.drop 5) _ r (fun _ h => List.mem_of_mem_drop h) ((zr_73_7 lay σ r0 i1 r2 i3).trans h) hg
/-! SubgroupWriter$Tree.fillWay(I)V -/
theorem zs_74 : zm_srt zp_74 = true := by decide +kernel
noncomputable def zb_74_0 (lay : zm_Lay) (σ : zm_Sig) (r0 : Nat) (i1 : Int32) : Option (zm_St ⊕ zm_Out) :=
  (zm_is lay r0 7).bind fun _ =>
  zm_opt (σ.2.2 r0 5) (fun q1 =>
  (zm_gI lay σ q1 i1).bind fun v2 =>
  some (.inl (11, [(0, .ref r0), (2, .int i1), (3, .int (v2 - 1))], [], lay, σ, 0, 0))) (none)
set_option maxRecDepth 100000 in
theorem zr_74_0 (lay : zm_Lay) (σ : zm_Sig) (r0 : Nat) (i1 : Int32) : zm_blk zM zp_74 none 0 0 zc_74 30 (zp_74.drop 0) (0, [(0, .ref r0), (1, .int i1)], [], lay, σ, 0, 0) = zb_74_0 lay σ r0 i1 := rfl
theorem ze_74 {lay : zm_Lay} {σ : zm_Sig} {r0 : Nat} {i1 : Int32} {out : zm_Out} {r : zm_St ⊕ zm_Out} (h : zb_74_0 lay σ r0 i1 = some r) (hg : zm_end zp_P 74 out r) : zM 74 [.ref r0, .int i1] lay σ = some out :=
  zm_mean_go (M := zd_74) rfl (Nat.le_of_ble_eq_true rfl) (zm_blk_go (M := zd_74) rfl zs_74 30 (zp_74.drop 0) _ r (fun _ h => List.mem_of_mem_drop h) ((zr_74_0 lay σ r0 i1).trans h) hg)
noncomputable def zb_74_11 (lay : zm_Lay) (σ : zm_Sig) (r0 : Nat) (i2 : Int32) (i3 : Int32) : Option (zm_St ⊕ zm_Out) :=
  if i3 < 0 then (some (.inr (none, lay, σ)))
  else (if i2 < 0 then (some (.inr (none, lay, σ)))
   else ((zm_is lay r0 7).bind fun _ =>
    zm_opt (σ.2.2 r0 9) (fun q1 =>
    (zm_is lay r0 7).bind fun _ =>
    zm_opt (σ.2.2 r0 4) (fun q2 =>
    (zm_gI lay σ q2 i2).bind fun v3 =>
    (zm_sI lay σ q1 i3 v3).bind fun s4 =>
    (zm_is lay r0 7).bind fun _ =>
    zm_opt (s4.2.2 r0 3) (fun q5 =>
    (zm_gI lay s4 q5 i2).bind fun v6 =>
    some (.inl (11, [(0, .ref r0), (2, .int v6), (3, .int (i3 + (-1)))], [], lay, s4, 0, 0))) (none)) (none)) (none)))
set_option maxRecDepth 100000 in
theorem zr_74_11 (lay : zm_Lay) (σ : zm_Sig) (r0 : Nat) (i2 : Int32) (i3 : Int32) : zm_blk zM zp_74 none 0 0 zc_74 30 (zp_74.drop 9) (11, [(0, .ref r0), (2, .int i2), (3, .int i3)], [], lay, σ, 0, 0) = zb_74_11 lay σ r0 i2 i3 := rfl
theorem zg_74_11 {lay : zm_Lay} {σ : zm_Sig} {r0 : Nat} {i2 : Int32} {i3 : Int32} {out : zm_Out} {r : zm_St ⊕ zm_Out} (h : zb_74_11 lay σ r0 i2 i3 = some r) (hg : zm_end zp_P 74 out r) : zm_go zp_P 74 (11, [(0, .ref r0), (2, .int i2), (3, .int i3)], [], lay, σ, 0, 0) out :=
  zm_blk_go (M := zd_74) rfl zs_74 30 (zp_74.drop 9) _ r (fun _ h => List.mem_of_mem_drop h) ((zr_74_11 lay σ r0 i2 i3).trans h) hg
/-! SubgroupWriter.hand(I)I -/
theorem zs_75 : zm_srt zp_75 = true := by decide +kernel
noncomputable def zb_75_0 (lay : zm_Lay) (σ : zm_Sig) (r0 : Nat) (i1 : Int32) : Option (zm_St ⊕ zm_Out) :=
  (zm_is lay r0 9).bind fun _ =>
  zm_opt (σ.2.2 r0 0) (fun q1 =>
  (zm_is lay r0 9).bind fun _ =>
  zm_opt (σ.2.2 r0 5) (fun q2 =>
  (zm_is lay q2 8).bind fun _ =>
  (zm_is lay q1 5).bind fun _ => (zm_av (zM 14 [.ref q1, .int i1, .int (σ.1 q2 1), .int 0] lay σ)).bind fun q3 =>
  some (.inl (18, [(0, .ref r0), (1, .int i1), (2, .int 0)], [], q3.1, q3.2, 0, 0))) (none)) (none)
set_option maxRecDepth 100000 in
theorem zr_75_0 (lay : zm_Lay) (σ : zm_Sig) (r0 : Nat) (i1 : Int32) : zm_blk zM zp_75 (some .int) 0 0 zc_75 32 (zp_75.drop 0) (0, [(0, .ref r0), (1, .int i1)], [], lay, σ, 0, 0) = zb_75_0 lay σ r0 i1 := rfl
theorem ze_75 {lay : zm_Lay} {σ : zm_Sig} {r0 : Nat} {i1 : Int32} {out : zm_Out} {r : zm_St ⊕ zm_Out} (h : zb_75_0 lay σ r0 i1 = some r) (hg : zm_end zp_P 75 out r) : zM 75 [.ref r0, .int i1] lay σ = some out :=
  zm_mean_go (M := zd_75) rfl (Nat.le_of_ble_eq_true rfl) (zm_blk_go (M := zd_75) rfl zs_75 32 (zp_75.drop 0) _ r (fun _ h => List.mem_of_mem_drop h) ((zr_75_0 lay σ r0 i1).trans h) hg)
noncomputable def zb_75_18 (lay : zm_Lay) (σ : zm_Sig) (r0 : Nat) (i1 : Int32) (i2 : Int32) : Option (zm_St ⊕ zm_Out) :=
  (zm_is lay r0 9).bind fun _ =>
  zm_opt (σ.2.2 r0 5) (fun q1 =>
  (zm_is lay q1 8).bind fun _ =>
  if (σ.1 q1 1) ≤ i2 then ((zm_is lay r0 9).bind fun _ =>
   zm_opt (σ.2.2 r0 5) (fun q2 =>
   (zm_is lay q2 8).bind fun _ =>
   some (.inr (some (.int (σ.1 q2 1)), lay, σ))) (none))
  else ((zm_is lay r0 9).bind fun _ =>
   zm_opt (σ.2.2 r0 0) (fun q3 =>
   (zm_is lay r0 9).bind fun _ =>
   zm_opt (σ.2.2 r0 5) (fun q4 =>
   (zm_is lay q4 8).bind fun _ =>
   zm_opt (σ.2.2 q4 0) (fun q5 =>
   (zm_gI lay σ q5 i2).bind fun v6 =>
   (zm_is lay q3 5).bind fun _ => (zm_av (zM 19 [.ref q3, .int i1, .int i2, .int v6] lay σ)).bind fun q7 =>
   some (.inl (18, [(0, .ref r0), (1, .int i1), (2, .int (i2 + 1))], [], q7.1, q7.2, 0, 0))) (none)) (none)) (none))) (none)
set_option maxRecDepth 100000 in
theorem zr_75_18 (lay : zm_Lay) (σ : zm_Sig) (r0 : Nat) (i1 : Int32) (i2 : Int32) : zm_blk zM zp_75 (some .int) 0 0 zc_75 32 (zp_75.drop 10) (18, [(0, .ref r0), (1, .int i1), (2, .int i2)], [], lay, σ, 0, 0) = zb_75_18 lay σ r0 i1 i2 := rfl
theorem zg_75_18 {lay : zm_Lay} {σ : zm_Sig} {r0 : Nat} {i1 : Int32} {i2 : Int32} {out : zm_Out} {r : zm_St ⊕ zm_Out} (h : zb_75_18 lay σ r0 i1 i2 = some r) (hg : zm_end zp_P 75 out r) : zm_go zp_P 75 (18, [(0, .ref r0), (1, .int i1), (2, .int i2)], [], lay, σ, 0, 0) out :=
  zm_blk_go (M := zd_75) rfl zs_75 32 (zp_75.drop 10) _ r (fun _ h => List.mem_of_mem_drop h) ((zr_75_18 lay σ r0 i1 i2).trans h) hg
/-! SubgroupWriter.edge(II)I -/
theorem zs_76 : zm_srt zp_76 = true := by decide +kernel
noncomputable def zb_76_0 (lay : zm_Lay) (σ : zm_Sig) (r0 : Nat) (i1 : Int32) (i2 : Int32) : Option (zm_St ⊕ zm_Out) :=
  (zm_is lay r0 9).bind fun _ =>
  zm_opt (σ.2.2 r0 11) (fun q1 =>
  (zm_is lay q1 1).bind fun _ => (zm_ai (zM 77 [.ref q1, .int i1] lay σ)).bind fun q2 =>
  if q2.1 = 0 then (some (.inr (some (.int (-1)), q2.2.1, q2.2.2)))
  else (if i2 < 0 then (some (.inr (some (.int (-1)), q2.2.1, q2.2.2)))
   else (if i2 ≤ (nI 4) then ((zm_is q2.2.1 r0 9).bind fun _ => (zm_ai (zM 79 [.ref r0, .int i1, .int i2] q2.2.1 q2.2.2)).bind fun q3 =>
     (zm_is q3.2.1 r0 9).bind fun _ => (zm_ai (zM 20 [.ref r0, .int q3.1] q3.2.1 q3.2.2)).bind fun q4 =>
     some (.inr (some (.int q4.1), q4.2.1, q4.2.2)))
    else (some (.inr (some (.int (-1)), q2.2.1, q2.2.2)))))) (none)
set_option maxRecDepth 100000 in
theorem zr_76_0 (lay : zm_Lay) (σ : zm_Sig) (r0 : Nat) (i1 : Int32) (i2 : Int32) : zm_blk zM zp_76 (some .int) 0 0 zc_76 20 (zp_76.drop 0) (0, [(0, .ref r0), (1, .int i1), (2, .int i2)], [], lay, σ, 0, 0) = zb_76_0 lay σ r0 i1 i2 := rfl
theorem ze_76 {lay : zm_Lay} {σ : zm_Sig} {r0 : Nat} {i1 : Int32} {i2 : Int32} {out : zm_Out} {r : zm_St ⊕ zm_Out} (h : zb_76_0 lay σ r0 i1 i2 = some r) (hg : zm_end zp_P 76 out r) : zM 76 [.ref r0, .int i1, .int i2] lay σ = some out :=
  zm_mean_go (M := zd_76) rfl (Nat.le_of_ble_eq_true rfl) (zm_blk_go (M := zd_76) rfl zs_76 20 (zp_76.drop 0) _ r (fun _ h => List.mem_of_mem_drop h) ((zr_76_0 lay σ r0 i1 i2).trans h) hg)
/-! SubgroupWriter$Group.isEdge(I)Z -/
theorem zs_77 : zm_srt zp_77 = true := by decide +kernel
noncomputable def zb_77_0 (lay : zm_Lay) (σ : zm_Sig) (r0 : Nat) (i1 : Int32) : Option (zm_St ⊕ zm_Out) :=
  if i1 < 0 then (some (.inr (some (.int 0), lay, σ)))
  else ((zm_is lay r0 1).bind fun _ => (zm_ai (zM 78 [.ref r0] lay σ)).bind fun q1 =>
   if q1.1 ≤ i1 then (some (.inr (some (.int 0), q1.2.1, q1.2.2)))
   else (some (.inr (some (.int 1), q1.2.1, q1.2.2))))
set_option maxRecDepth 100000 in
theorem zr_77_0 (lay : zm_Lay) (σ : zm_Sig) (r0 : Nat) (i1 : Int32) : zm_blk zM zp_77 (some .boolean) 0 0 zc_77 11 (zp_77.drop 0) (0, [(0, .ref r0), (1, .int i1)], [], lay, σ, 0, 0) = zb_77_0 lay σ r0 i1 := rfl
theorem ze_77 {lay : zm_Lay} {σ : zm_Sig} {r0 : Nat} {i1 : Int32} {out : zm_Out} {r : zm_St ⊕ zm_Out} (h : zb_77_0 lay σ r0 i1 = some r) (hg : zm_end zp_P 77 out r) : zM 77 [.ref r0, .int i1] lay σ = some out :=
  zm_mean_go (M := zd_77) rfl (Nat.le_of_ble_eq_true rfl) (zm_blk_go (M := zd_77) rfl zs_77 11 (zp_77.drop 0) _ r (fun _ h => List.mem_of_mem_drop h) ((zr_77_0 lay σ r0 i1).trans h) hg)
/-! SubgroupWriter$Group.edges()I -/
theorem zs_78 : zm_srt zp_78 = true := by decide +kernel
noncomputable def zb_78_0 (lay : zm_Lay) (σ : zm_Sig) (r0 : Nat) : Option (zm_St ⊕ zm_Out) :=
  (zm_is lay r0 1).bind fun _ =>
  (zm_is lay r0 1).bind fun _ =>
  some (.inr (some (.int ((σ.1 r0 0) * (σ.1 r0 1))), lay, σ))
set_option maxRecDepth 100000 in
theorem zr_78_0 (lay : zm_Lay) (σ : zm_Sig) (r0 : Nat) : zm_blk zM zp_78 (some .int) 0 0 zc_78 7 (zp_78.drop 0) (0, [(0, .ref r0)], [], lay, σ, 0, 0) = zb_78_0 lay σ r0 := rfl
theorem ze_78 {lay : zm_Lay} {σ : zm_Sig} {r0 : Nat} {out : zm_Out} {r : zm_St ⊕ zm_Out} (h : zb_78_0 lay σ r0 = some r) (hg : zm_end zp_P 78 out r) : zM 78 [.ref r0] lay σ = some out :=
  zm_mean_go (M := zd_78) rfl (Nat.le_of_ble_eq_true rfl) (zm_blk_go (M := zd_78) rfl zs_78 7 (zp_78.drop 0) _ r (fun _ h => List.mem_of_mem_drop h) ((zr_78_0 lay σ r0).trans h) hg)
/-! SubgroupWriter.edgeTells(II)I -/
theorem zs_79 : zm_srt zp_79 = true := by decide +kernel
noncomputable def zb_79_0 (lay : zm_Lay) (σ : zm_Sig) (r0 : Nat) (i1 : Int32) (i2 : Int32) : Option (zm_St ⊕ zm_Out) :=
  (zm_is lay r0 9).bind fun _ =>
  zm_opt (σ.2.2 r0 3) (fun q1 =>
  (zm_is lay q1 0).bind fun _ =>
  zm_opt (σ.2.2 q1 0) (fun q2 =>
  (zm_is lay q2 7).bind fun _ =>
  zm_opt (σ.2.2 q2 1) (fun q3 =>
  (zm_gI lay σ q3 i1).bind fun v4 =>
  if i2 = 0 then ((zm_is lay r0 9).bind fun _ =>
   zm_opt (σ.2.2 r0 3) (fun q5 =>
   (zm_is lay q5 0).bind fun _ =>
   zm_opt (σ.2.2 q5 0) (fun q6 =>
   (zm_is lay q6 7).bind fun _ =>
   zm_opt (σ.2.2 q6 0) (fun q7 =>
   (zm_gI lay σ q7 i1).bind fun v8 =>
   some (.inr (some (.int v8), lay, σ))) (none)) (none)) (none))
  else if i2 = 1 then ((zm_is lay r0 9).bind fun _ =>
   zm_opt (σ.2.2 r0 11) (fun q9 =>
   (zm_is lay q9 1).bind fun _ => (zm_ai (zM 80 [.ref q9, .int i1] lay σ)).bind fun q10 =>
   some (.inr (some (.int q10.1), q10.2.1, q10.2.2))) (none))
  else if i2 = (nI 2) then ((zm_is lay r0 9).bind fun _ =>
   zm_opt (σ.2.2 r0 11) (fun q11 =>
   (zm_is lay q11 1).bind fun _ => (zm_ai (zM 81 [.ref q11, .int i1] lay σ)).bind fun q12 =>
   some (.inr (some (.int q12.1), q12.2.1, q12.2.2))) (none))
  else if i2 = (nI 3) then (some (.inr (some (.int v4), lay, σ)))
  else ((zm_is lay r0 9).bind fun _ =>
   zm_opt (σ.2.2 r0 3) (fun q13 =>
   (zm_is lay q13 0).bind fun _ =>
   zm_opt (σ.2.2 q13 1) (fun q14 =>
   (zm_is lay q14 4).bind fun _ => (zm_ai (zM 83 [.ref q14, .int v4] lay σ)).bind fun q15 =>
   if q15.1 = 0 then (some (.inr (some (.int 0), q15.2.1, q15.2.2)))
   else (some (.inr (some (.int 1), q15.2.1, q15.2.2)))) (none)) (none))) (none)) (none)) (none)
set_option maxRecDepth 100000 in
theorem zr_79_0 (lay : zm_Lay) (σ : zm_Sig) (r0 : Nat) (i1 : Int32) (i2 : Int32) : zm_blk zM zp_79 (some .int) 0 0 zc_79 39 (zp_79.drop 0) (0, [(0, .ref r0), (1, .int i1), (2, .int i2)], [], lay, σ, 0, 0) = zb_79_0 lay σ r0 i1 i2 := rfl
theorem ze_79 {lay : zm_Lay} {σ : zm_Sig} {r0 : Nat} {i1 : Int32} {i2 : Int32} {out : zm_Out} {r : zm_St ⊕ zm_Out} (h : zb_79_0 lay σ r0 i1 i2 = some r) (hg : zm_end zp_P 79 out r) : zM 79 [.ref r0, .int i1, .int i2] lay σ = some out :=
  zm_mean_go (M := zd_79) rfl (Nat.le_of_ble_eq_true rfl) (zm_blk_go (M := zd_79) rfl zs_79 39 (zp_79.drop 0) _ r (fun _ h => List.mem_of_mem_drop h) ((zr_79_0 lay σ r0 i1 i2).trans h) hg)
/-! SubgroupWriter$Group.startOf(I)I -/
theorem zs_80 : zm_srt zp_80 = true := by decide +kernel
noncomputable def zb_80_0 (lay : zm_Lay) (σ : zm_Sig) (r0 : Nat) (i1 : Int32) : Option (zm_St ⊕ zm_Out) :=
  (zm_is lay r0 1).bind fun _ => (zm_ai (zM 77 [.ref r0, .int i1] lay σ)).bind fun q1 =>
  if q1.1 = 0 then (some (.inr (some (.int 0), q1.2.1, q1.2.2)))
  else ((zm_is q1.2.1 r0 1).bind fun _ =>
   if (q1.2.2.1 r0 1) ≤ 0 then (some (.inr (some (.int 0), q1.2.1, q1.2.2)))
   else ((zm_is q1.2.1 r0 1).bind fun _ =>
    if (q1.2.2.1 r0 1) = 0 then none
    else (some (.inr (some (.int (i1 / (q1.2.2.1 r0 1))), q1.2.1, q1.2.2)))))
set_option maxRecDepth 100000 in
theorem zr_80_0 (lay : zm_Lay) (σ : zm_Sig) (r0 : Nat) (i1 : Int32) : zm_blk zM zp_80 (some .int) 0 0 zc_80 15 (zp_80.drop 0) (0, [(0, .ref r0), (1, .int i1)], [], lay, σ, 0, 0) = zb_80_0 lay σ r0 i1 := rfl
theorem ze_80 {lay : zm_Lay} {σ : zm_Sig} {r0 : Nat} {i1 : Int32} {out : zm_Out} {r : zm_St ⊕ zm_Out} (h : zb_80_0 lay σ r0 i1 = some r) (hg : zm_end zp_P 80 out r) : zM 80 [.ref r0, .int i1] lay σ = some out :=
  zm_mean_go (M := zd_80) rfl (Nat.le_of_ble_eq_true rfl) (zm_blk_go (M := zd_80) rfl zs_80 15 (zp_80.drop 0) _ r (fun _ h => List.mem_of_mem_drop h) ((zr_80_0 lay σ r0 i1).trans h) hg)
/-! SubgroupWriter$Group.endOf(I)I -/
theorem zs_81 : zm_srt zp_81 = true := by decide +kernel
noncomputable def zb_81_0 (lay : zm_Lay) (σ : zm_Sig) (r0 : Nat) (i1 : Int32) : Option (zm_St ⊕ zm_Out) :=
  (zm_is lay r0 1).bind fun _ => (zm_ai (zM 80 [.ref r0, .int i1] lay σ)).bind fun q1 =>
  (zm_is q1.2.1 r0 1).bind fun _ => (zm_ai (zM 82 [.ref r0, .int i1] q1.2.1 q1.2.2)).bind fun q2 =>
  (zm_is q2.2.1 r0 1).bind fun _ => (zm_ai (zM 47 [.ref r0, .int q1.1, .int (q2.1 + 1)] q2.2.1 q2.2.2)).bind fun q3 =>
  some (.inr (some (.int q3.1), q3.2.1, q3.2.2))
set_option maxRecDepth 100000 in
theorem zr_81_0 (lay : zm_Lay) (σ : zm_Sig) (r0 : Nat) (i1 : Int32) : zm_blk zM zp_81 (some .int) 0 0 zc_81 12 (zp_81.drop 0) (0, [(0, .ref r0), (1, .int i1)], [], lay, σ, 0, 0) = zb_81_0 lay σ r0 i1 := rfl
theorem ze_81 {lay : zm_Lay} {σ : zm_Sig} {r0 : Nat} {i1 : Int32} {out : zm_Out} {r : zm_St ⊕ zm_Out} (h : zb_81_0 lay σ r0 i1 = some r) (hg : zm_end zp_P 81 out r) : zM 81 [.ref r0, .int i1] lay σ = some out :=
  zm_mean_go (M := zd_81) rfl (Nat.le_of_ble_eq_true rfl) (zm_blk_go (M := zd_81) rfl zs_81 12 (zp_81.drop 0) _ r (fun _ h => List.mem_of_mem_drop h) ((zr_81_0 lay σ r0 i1).trans h) hg)
/-! SubgroupWriter$Group.generatorOf(I)I -/
theorem zs_82 : zm_srt zp_82 = true := by decide +kernel
noncomputable def zb_82_0 (lay : zm_Lay) (σ : zm_Sig) (r0 : Nat) (i1 : Int32) : Option (zm_St ⊕ zm_Out) :=
  (zm_is lay r0 1).bind fun _ => (zm_ai (zM 77 [.ref r0, .int i1] lay σ)).bind fun q1 =>
  if q1.1 = 0 then (some (.inr (some (.int 0), q1.2.1, q1.2.2)))
  else ((zm_is q1.2.1 r0 1).bind fun _ =>
   if (q1.2.2.1 r0 1) ≤ 0 then (some (.inr (some (.int 0), q1.2.1, q1.2.2)))
   else ((zm_is q1.2.1 r0 1).bind fun _ =>
    if (q1.2.2.1 r0 1) = 0 then none
    else (some (.inr (some (.int (i1 - i1 / (q1.2.2.1 r0 1) * (q1.2.2.1 r0 1))), q1.2.1, q1.2.2)))))
set_option maxRecDepth 100000 in
theorem zr_82_0 (lay : zm_Lay) (σ : zm_Sig) (r0 : Nat) (i1 : Int32) : zm_blk zM zp_82 (some .int) 0 0 zc_82 15 (zp_82.drop 0) (0, [(0, .ref r0), (1, .int i1)], [], lay, σ, 0, 0) = zb_82_0 lay σ r0 i1 := rfl
theorem ze_82 {lay : zm_Lay} {σ : zm_Sig} {r0 : Nat} {i1 : Int32} {out : zm_Out} {r : zm_St ⊕ zm_Out} (h : zb_82_0 lay σ r0 i1 = some r) (hg : zm_end zp_P 82 out r) : zM 82 [.ref r0, .int i1] lay σ = some out :=
  zm_mean_go (M := zd_82) rfl (Nat.le_of_ble_eq_true rfl) (zm_blk_go (M := zd_82) rfl zs_82 15 (zp_82.drop 0) _ r (fun _ h => List.mem_of_mem_drop h) ((zr_82_0 lay σ r0 i1).trans h) hg)
/-! SubgroupWriter$Rules.isLeft(I)Z -/
theorem zs_83 : zm_srt zp_83 = true := by decide +kernel
noncomputable def zb_83_0 (lay : zm_Lay) (σ : zm_Sig) (r0 : Nat) (i1 : Int32) : Option (zm_St ⊕ zm_Out) :=
  if i1 < 1 then (some (.inr (some (.int 0), lay, σ)))
  else (if ((nI 15) : Int32) < i1 then (some (.inr (some (.int 0), lay, σ)))
   else ((zm_is lay r0 4).bind fun _ =>
    if ¬ (((σ.1 r0 3) >>> ((i1 - 1) &&& 31)) &&& 1) = 1 then (some (.inr (some (.int 0), lay, σ)))
    else (some (.inr (some (.int 1), lay, σ)))))
set_option maxRecDepth 100000 in
theorem zr_83_0 (lay : zm_Lay) (σ : zm_Sig) (r0 : Nat) (i1 : Int32) : zm_blk zM zp_83 (some .boolean) 0 0 zc_83 21 (zp_83.drop 0) (0, [(0, .ref r0), (1, .int i1)], [], lay, σ, 0, 0) = zb_83_0 lay σ r0 i1 := rfl
theorem ze_83 {lay : zm_Lay} {σ : zm_Sig} {r0 : Nat} {i1 : Int32} {out : zm_Out} {r : zm_St ⊕ zm_Out} (h : zb_83_0 lay σ r0 i1 = some r) (hg : zm_end zp_P 83 out r) : zM 83 [.ref r0, .int i1] lay σ = some out :=
  zm_mean_go (M := zd_83) rfl (Nat.le_of_ble_eq_true rfl) (zm_blk_go (M := zd_83) rfl zs_83 21 (zp_83.drop 0) _ r (fun _ h => List.mem_of_mem_drop h) ((zr_83_0 lay σ r0 i1).trans h) hg)
/-! SubgroupWriter.mark(II)I -/
theorem zs_84 : zm_srt zp_84 = true := by decide +kernel
noncomputable def zb_84_0 (lay : zm_Lay) (σ : zm_Sig) (r0 : Nat) (i1 : Int32) (i2 : Int32) : Option (zm_St ⊕ zm_Out) :=
  (zm_is lay r0 9).bind fun _ =>
  zm_opt (σ.2.2 r0 11) (fun q1 =>
  (zm_is lay q1 1).bind fun _ => (zm_ai (zM 77 [.ref q1, .int i1] lay σ)).bind fun q2 =>
  if q2.1 = 0 then (some (.inr (some (.int (-1)), q2.2.1, q2.2.2)))
  else (if i2 < 1 then (some (.inr (some (.int (-1)), q2.2.1, q2.2.2)))
   else (if i2 ≤ (nI 4) then ((zm_is q2.2.1 r0 9).bind fun _ =>
     zm_opt (q2.2.2.2.2 r0 3) (fun q3 =>
     (zm_is q2.2.1 q3 0).bind fun _ =>
     zm_opt (q2.2.2.2.2 q3 0) (fun q4 =>
     (zm_is q2.2.1 q4 7).bind fun _ =>
     zm_opt (q2.2.2.2.2 q4 0) (fun q5 =>
     (zm_gI q2.2.1 q2.2.2 q5 i1).bind fun v6 =>
     if v6 = i2 then ((zm_is q2.2.1 r0 9).bind fun _ =>
      zm_opt (q2.2.2.2.2 r0 3) (fun q7 =>
      (zm_is q2.2.1 q7 0).bind fun _ =>
      zm_opt (q2.2.2.2.2 q7 0) (fun q8 =>
      (zm_is q2.2.1 r0 9).bind fun _ =>
      zm_opt (q2.2.2.2.2 r0 11) (fun q9 =>
      (zm_is q2.2.1 q8 7).bind fun _ => (zm_ai (zM 85 [.ref q8, .ref q9, .int i1, .int i2] q2.2.1 q2.2.2)).bind fun q10 =>
      (zm_is q10.2.1 r0 9).bind fun _ => (zm_ai (zM 20 [.ref r0, .int q10.1] q10.2.1 q10.2.2)).bind fun q11 =>
      some (.inr (some (.int q11.1), q11.2.1, q11.2.2))) (none)) (none)) (none))
     else (if ¬ i2 = (nI 2) then ((zm_is q2.2.1 r0 9).bind fun _ => (zm_ai (zM 13 [.ref r0, .int (nI 3)] q2.2.1 q2.2.2)).bind fun q12 =>
       some (.inr (some (.int q12.1), q12.2.1, q12.2.2)))
      else (if ¬ v6 = 1 then ((zm_is q2.2.1 r0 9).bind fun _ =>
        zm_opt (q2.2.2.2.2 r0 3) (fun q13 =>
        (zm_is q2.2.1 q13 0).bind fun _ =>
        zm_opt (q2.2.2.2.2 q13 0) (fun q14 =>
        (zm_is q2.2.1 r0 9).bind fun _ =>
        zm_opt (q2.2.2.2.2 r0 11) (fun q15 =>
        (zm_is q2.2.1 q14 7).bind fun _ => (zm_ai (zM 85 [.ref q14, .ref q15, .int i1, .int i2] q2.2.1 q2.2.2)).bind fun q16 =>
        (zm_is q16.2.1 r0 9).bind fun _ => (zm_ai (zM 20 [.ref r0, .int q16.1] q16.2.1 q16.2.2)).bind fun q17 =>
        some (.inr (some (.int q17.1), q17.2.1, q17.2.2))) (none)) (none)) (none))
       else ((zm_is q2.2.1 r0 9).bind fun _ => (zm_ai (zM 13 [.ref r0, .int (nI 3)] q2.2.1 q2.2.2)).bind fun q18 =>
        some (.inr (some (.int q18.1), q18.2.1, q18.2.2)))))) (none)) (none)) (none))
    else (some (.inr (some (.int (-1)), q2.2.1, q2.2.2)))))) (none)
set_option maxRecDepth 100000 in
theorem zr_84_0 (lay : zm_Lay) (σ : zm_Sig) (r0 : Nat) (i1 : Int32) (i2 : Int32) : zm_blk zM zp_84 (some .int) 0 0 zc_84 45 (zp_84.drop 0) (0, [(0, .ref r0), (1, .int i1), (2, .int i2)], [], lay, σ, 0, 0) = zb_84_0 lay σ r0 i1 i2 := rfl
theorem ze_84 {lay : zm_Lay} {σ : zm_Sig} {r0 : Nat} {i1 : Int32} {i2 : Int32} {out : zm_Out} {r : zm_St ⊕ zm_Out} (h : zb_84_0 lay σ r0 i1 i2 = some r) (hg : zm_end zp_P 84 out r) : zM 84 [.ref r0, .int i1, .int i2] lay σ = some out :=
  zm_mean_go (M := zd_84) rfl (Nat.le_of_ble_eq_true rfl) (zm_blk_go (M := zd_84) rfl zs_84 45 (zp_84.drop 0) _ r (fun _ h => List.mem_of_mem_drop h) ((zr_84_0 lay σ r0 i1 i2).trans h) hg)
/-! SubgroupWriter$Tree.markOf(LSubgroupWriter$Group;II)I -/
theorem zs_85 : zm_srt zp_85 = true := by decide +kernel
noncomputable def zb_85_0 (lay : zm_Lay) (σ : zm_Sig) (r0 : Nat) (r1 : Nat) (i2 : Int32) (i3 : Int32) : Option (zm_St ⊕ zm_Out) :=
  (zm_is lay r1 1).bind fun _ => (zm_ai (zM 80 [.ref r1, .int i2] lay σ)).bind fun q1 =>
  (zm_is q1.2.1 r1 1).bind fun _ => (zm_ai (zM 81 [.ref r1, .int i2] q1.2.1 q1.2.2)).bind fun q2 =>
  if i3 = 1 then ((zm_is q2.2.1 r0 7).bind fun _ =>
   zm_opt (q2.2.2.2.2 r0 6) (fun q3 =>
   (zm_gI q2.2.1 q2.2.2 q3 q1.1).bind fun v4 =>
   (zm_is q2.2.1 r0 7).bind fun _ =>
   zm_opt (q2.2.2.2.2 r0 6) (fun q5 =>
   (zm_gI q2.2.1 q2.2.2 q5 q2.1).bind fun v6 =>
   if v4 ≤ v6 then (some (.inr (some (.int q2.1), q2.2.1, q2.2.2)))
   else (some (.inr (some (.int q1.1), q2.2.1, q2.2.2)))) (none)) (none))
  else if i3 = (nI 2) then ((zm_is q2.2.1 r0 7).bind fun _ =>
   zm_opt (q2.2.2.2.2 r0 5) (fun q7 =>
   (zm_gI q2.2.1 q2.2.2 q7 q1.1).bind fun v8 =>
   (zm_is q2.2.1 r0 7).bind fun _ =>
   zm_opt (q2.2.2.2.2 r0 5) (fun q9 =>
   (zm_gI q2.2.1 q2.2.2 q9 q2.1).bind fun v10 =>
   some (.inr (some (.int ((v8 + v10) + 1)), q2.2.1, q2.2.2))) (none)) (none))
  else if i3 = (nI 3) then ((zm_is q2.2.1 r0 7).bind fun _ => (zm_ai (zM 86 [.ref r0, .ref r1, .int q1.1] q2.2.1 q2.2.2)).bind fun q11 =>
   some (.inr (some (.int q11.1), q11.2.1, q11.2.2)))
  else ((zm_is q2.2.1 r0 7).bind fun _ =>
   zm_opt (q2.2.2.2.2 r0 6) (fun q12 =>
   (zm_gI q2.2.1 q2.2.2 q12 q1.1).bind fun v13 =>
   (zm_is q2.2.1 r0 7).bind fun _ =>
   zm_opt (q2.2.2.2.2 r0 6) (fun q14 =>
   (zm_gI q2.2.1 q2.2.2 q14 q2.1).bind fun v15 =>
   if v13 ≤ v15 then ((zm_is q2.2.1 r0 7).bind fun _ => (zm_ai (zM 59 [.ref r0, .ref r1, .int q2.1] q2.2.1 q2.2.2)).bind fun q16 =>
    some (.inr (some (.int q16.1), q16.2.1, q16.2.2)))
   else ((zm_is q2.2.1 r0 7).bind fun _ => (zm_ai (zM 59 [.ref r0, .ref r1, .int q1.1] q2.2.1 q2.2.2)).bind fun q17 =>
    some (.inr (some (.int q17.1), q17.2.1, q17.2.2)))) (none)) (none))
set_option maxRecDepth 100000 in
theorem zr_85_0 (lay : zm_Lay) (σ : zm_Sig) (r0 : Nat) (r1 : Nat) (i2 : Int32) (i3 : Int32) : zm_blk zM zp_85 (some .int) 0 0 zc_85 57 (zp_85.drop 0) (0, [(0, .ref r0), (1, .ref r1), (2, .int i2), (3, .int i3)], [], lay, σ, 0, 0) = zb_85_0 lay σ r0 r1 i2 i3 := rfl
theorem ze_85 {lay : zm_Lay} {σ : zm_Sig} {r0 : Nat} {r1 : Nat} {i2 : Int32} {i3 : Int32} {out : zm_Out} {r : zm_St ⊕ zm_Out} (h : zb_85_0 lay σ r0 r1 i2 i3 = some r) (hg : zm_end zp_P 85 out r) : zM 85 [.ref r0, .ref r1, .int i2, .int i3] lay σ = some out :=
  zm_mean_go (M := zd_85) rfl (Nat.le_of_ble_eq_true rfl) (zm_blk_go (M := zd_85) rfl zs_85 57 (zp_85.drop 0) _ r (fun _ h => List.mem_of_mem_drop h) ((zr_85_0 lay σ r0 r1 i2 i3).trans h) hg)
/-! SubgroupWriter$Tree.loopsAt(LSubgroupWriter$Group;I)I -/
theorem zs_86 : zm_srt zp_86 = true := by decide +kernel
noncomputable def zb_86_0 (lay : zm_Lay) (σ : zm_Sig) (r0 : Nat) (r1 : Nat) (i2 : Int32) : Option (zm_St ⊕ zm_Out) :=
  some (.inl (5, [(0, .ref r0), (1, .ref r1), (2, .int i2), (3, .int 0), (4, .int 0)], [], lay, σ, 0, 0))
set_option maxRecDepth 100000 in
theorem zr_86_0 (lay : zm_Lay) (σ : zm_Sig) (r0 : Nat) (r1 : Nat) (i2 : Int32) : zm_blk zM zp_86 (some .int) 0 0 zc_86 23 (zp_86.drop 0) (0, [(0, .ref r0), (1, .ref r1), (2, .int i2)], [], lay, σ, 0, 0) = zb_86_0 lay σ r0 r1 i2 := rfl
theorem ze_86 {lay : zm_Lay} {σ : zm_Sig} {r0 : Nat} {r1 : Nat} {i2 : Int32} {out : zm_Out} {r : zm_St ⊕ zm_Out} (h : zb_86_0 lay σ r0 r1 i2 = some r) (hg : zm_end zp_P 86 out r) : zM 86 [.ref r0, .ref r1, .int i2] lay σ = some out :=
  zm_mean_go (M := zd_86) rfl (Nat.le_of_ble_eq_true rfl) (zm_blk_go (M := zd_86) rfl zs_86 23 (zp_86.drop 0) _ r (fun _ h => List.mem_of_mem_drop h) ((zr_86_0 lay σ r0 r1 i2).trans h) hg)
noncomputable def zb_86_5 (lay : zm_Lay) (σ : zm_Sig) (r0 : Nat) (r1 : Nat) (i2 : Int32) (i3 : Int32) (i4 : Int32) : Option (zm_St ⊕ zm_Out) :=
  (zm_is lay r1 1).bind fun _ =>
  if (σ.1 r1 1) ≤ i4 then (some (.inr (some (.int i3), lay, σ)))
  else ((zm_is lay r0 7).bind fun _ =>
   zm_opt (σ.2.2 r0 0) (fun q1 =>
   (zm_is lay r1 1).bind fun _ => (zm_ai (zM 60 [.ref r1, .int i2, .int i4] lay σ)).bind fun q2 =>
   (zm_gI q2.2.1 q2.2.2 q1 q2.1).bind fun v3 =>
   if ¬ v3 = (nI 3) then (some (.inl (5, [(0, .ref r0), (1, .ref r1), (2, .int i2), (3, .int i3), (4, .int (i4 + 1))], [], q2.2.1, q2.2.2, 0, 0)))
   else (some (.inl (5, [(0, .ref r0), (1, .ref r1), (2, .int i2), (3, .int (i3 + 1)), (4, .int (i4 + 1))], [], q2.2.1, q2.2.2, 0, 0)))) (none))
set_option maxRecDepth 100000 in
theorem zr_86_5 (lay : zm_Lay) (σ : zm_Sig) (r0 : Nat) (r1 : Nat) (i2 : Int32) (i3 : Int32) (i4 : Int32) : zm_blk zM zp_86 (some .int) 0 0 zc_86 23 (zp_86.drop 4) (5, [(0, .ref r0), (1, .ref r1), (2, .int i2), (3, .int i3), (4, .int i4)], [], lay, σ, 0, 0) = zb_86_5 lay σ r0 r1 i2 i3 i4 := rfl
theorem zg_86_5 {lay : zm_Lay} {σ : zm_Sig} {r0 : Nat} {r1 : Nat} {i2 : Int32} {i3 : Int32} {i4 : Int32} {out : zm_Out} {r : zm_St ⊕ zm_Out} (h : zb_86_5 lay σ r0 r1 i2 i3 i4 = some r) (hg : zm_end zp_P 86 out r) : zm_go zp_P 86 (5, [(0, .ref r0), (1, .ref r1), (2, .int i2), (3, .int i3), (4, .int i4)], [], lay, σ, 0, 0) out :=
  zm_blk_go (M := zd_86) rfl zs_86 23 (zp_86.drop 4) _ r (fun _ h => List.mem_of_mem_drop h) ((zr_86_5 lay σ r0 r1 i2 i3 i4).trans h) hg
/-! SubgroupWriter.written(III)I -/
theorem zs_87 : zm_srt zp_87 = true := by decide +kernel
noncomputable def zb_87_0 (lay : zm_Lay) (σ : zm_Sig) (r0 : Nat) (i1 : Int32) (i2 : Int32) (i3 : Int32) : Option (zm_St ⊕ zm_Out) :=
  (zm_is lay r0 9).bind fun _ =>
  zm_opt (σ.2.2 r0 11) (fun q1 =>
  (zm_is lay q1 1).bind fun _ => (zm_ai (zM 69 [.ref q1, .int i1] lay σ)).bind fun q2 =>
  if q2.1 = 0 then (some (.inr (some (.int (-1)), q2.2.1, q2.2.2)))
  else ((zm_is q2.2.1 r0 9).bind fun _ =>
   zm_opt (q2.2.2.2.2 r0 0) (fun q3 =>
   (zm_is q2.2.1 q3 5).bind fun _ => (zm_ai (zM 12 [.ref q3, .int i2] q2.2.1 q2.2.2)).bind fun q4 =>
   if q4.1 = 0 then (some (.inr (some (.int (-1)), q4.2.1, q4.2.2)))
   else ((zm_is q4.2.1 r0 9).bind fun _ =>
    zm_opt (q4.2.2.2.2 r0 0) (fun q5 =>
    (zm_is q4.2.1 q5 5).bind fun _ => (zm_ai (zM 12 [.ref q5, .int i3] q4.2.1 q4.2.2)).bind fun q6 =>
    if ¬ q6.1 = 0 then ((zm_is q6.2.1 r0 9).bind fun _ =>
     zm_opt (q6.2.2.2.2 r0 0) (fun q7 =>
     (zm_is q6.2.1 q7 5).bind fun _ => (zm_ai (zM 16 [.ref q7, .int i2] q6.2.1 q6.2.2)).bind fun q8 =>
     if q8.1 = 0 then (some (.inl (55, [(0, .ref r0), (1, .int i1), (2, .int i2), (3, .int i3), (4, .int 0)], [], q8.2.1, q8.2.2, 0, 0)))
     else ((zm_is q8.2.1 r0 9).bind fun _ => (zm_ai (zM 13 [.ref r0, .int 1] q8.2.1 q8.2.2)).bind fun q9 =>
      some (.inr (some (.int q9.1), q9.2.1, q9.2.2)))) (none))
    else (some (.inr (some (.int (-1)), q6.2.1, q6.2.2)))) (none))) (none))) (none)
set_option maxRecDepth 100000 in
theorem zr_87_0 (lay : zm_Lay) (σ : zm_Sig) (r0 : Nat) (i1 : Int32) (i2 : Int32) (i3 : Int32) : zm_blk zM zp_87 (some .int) 0 0 zc_87 75 (zp_87.drop 0) (0, [(0, .ref r0), (1, .int i1), (2, .int i2), (3, .int i3)], [], lay, σ, 0, 0) = zb_87_0 lay σ r0 i1 i2 i3 := rfl
theorem ze_87 {lay : zm_Lay} {σ : zm_Sig} {r0 : Nat} {i1 : Int32} {i2 : Int32} {i3 : Int32} {out : zm_Out} {r : zm_St ⊕ zm_Out} (h : zb_87_0 lay σ r0 i1 i2 i3 = some r) (hg : zm_end zp_P 87 out r) : zM 87 [.ref r0, .int i1, .int i2, .int i3] lay σ = some out :=
  zm_mean_go (M := zd_87) rfl (Nat.le_of_ble_eq_true rfl) (zm_blk_go (M := zd_87) rfl zs_87 75 (zp_87.drop 0) _ r (fun _ h => List.mem_of_mem_drop h) ((zr_87_0 lay σ r0 i1 i2 i3).trans h) hg)
noncomputable def zb_87_55 (lay : zm_Lay) (σ : zm_Sig) (r0 : Nat) (i1 : Int32) (i2 : Int32) (i3 : Int32) (i4 : Int32) : Option (zm_St ⊕ zm_Out) :=
  (zm_is lay r0 9).bind fun _ =>
  zm_opt (σ.2.2 r0 0) (fun q1 =>
  (zm_is lay q1 5).bind fun _ => (zm_ai (zM 28 [.ref q1, .int i2] lay σ)).bind fun q2 =>
  if q2.1 ≤ i4 then ((zm_is q2.2.1 r0 9).bind fun _ =>
   zm_opt (q2.2.2.2.2 r0 3) (fun q3 =>
   (zm_is q2.2.1 q3 0).bind fun _ =>
   zm_opt (q2.2.2.2.2 q3 0) (fun q4 =>
   (zm_is q2.2.1 r0 9).bind fun _ =>
   zm_opt (q2.2.2.2.2 r0 11) (fun q5 =>
   (zm_is q2.2.1 r0 9).bind fun _ =>
   zm_opt (q2.2.2.2.2 r0 0) (fun q6 =>
   (zm_is q2.2.1 q6 5).bind fun _ =>
   zm_opt (q2.2.2.2.2 q6 0) (fun q7 =>
   (zm_gR q2.2.1 q2.2.2 q7 i2).bind fun o8 => zm_opt o8 (fun q9 =>
   (zm_is q2.2.1 r0 9).bind fun _ =>
   zm_opt (q2.2.2.2.2 r0 0) (fun q10 =>
   (zm_is q2.2.1 q10 5).bind fun _ => (zm_ai (zM 28 [.ref q10, .int i2] q2.2.1 q2.2.2)).bind fun q11 =>
   (zm_is q11.2.1 r0 9).bind fun _ =>
   zm_opt (q11.2.2.2.2 r0 5) (fun q12 =>
   (zm_is q11.2.1 q4 7).bind fun _ => (zm_ai (zM 64 [.ref q4, .ref q5, .int i1, .ref q9, .int q11.1, .ref q12] q11.2.1 q11.2.2)).bind fun q13 =>
   (zm_is q13.2.1 r0 9).bind fun _ => (zm_ai (zM 20 [.ref r0, .int q13.1] q13.2.1 q13.2.2)).bind fun q14 =>
   (zm_is q14.2.1 r0 9).bind fun _ => (zm_ai (zM 75 [.ref r0, .int i3] q14.2.1 q14.2.2)).bind fun q15 =>
   some (.inr (some (.int q15.1), q15.2.1, q15.2.2))) (none)) (none)) none) (none)) (none)) (none)) (none)) (none))
  else ((zm_is q2.2.1 r0 9).bind fun _ =>
   zm_opt (q2.2.2.2.2 r0 11) (fun q16 =>
   (zm_is q2.2.1 r0 9).bind fun _ =>
   zm_opt (q2.2.2.2.2 r0 0) (fun q17 =>
   (zm_is q2.2.1 q17 5).bind fun _ => (zm_ai (zM 18 [.ref q17, .int i2, .int i4] q2.2.1 q2.2.2)).bind fun q18 =>
   (zm_is q18.2.1 q16 1).bind fun _ => (zm_ai (zM 45 [.ref q16, .int q18.1] q18.2.1 q18.2.2)).bind fun q19 =>
   if ¬ q19.1 = 0 then (some (.inl (55, [(0, .ref r0), (1, .int i1), (2, .int i2), (3, .int i3), (4, .int (i4 + 1))], [], q19.2.1, q19.2.2, 0, 0)))
   else ((zm_is q19.2.1 r0 9).bind fun _ => (zm_ai (zM 13 [.ref r0, .int (nI 3)] q19.2.1 q19.2.2)).bind fun q20 =>
    some (.inr (some (.int q20.1), q20.2.1, q20.2.2)))) (none)) (none))) (none)
set_option maxRecDepth 100000 in
theorem zr_87_55 (lay : zm_Lay) (σ : zm_Sig) (r0 : Nat) (i1 : Int32) (i2 : Int32) (i3 : Int32) (i4 : Int32) : zm_blk zM zp_87 (some .int) 0 0 zc_87 75 (zp_87.drop 28) (55, [(0, .ref r0), (1, .int i1), (2, .int i2), (3, .int i3), (4, .int i4)], [], lay, σ, 0, 0) = zb_87_55 lay σ r0 i1 i2 i3 i4 := rfl
theorem zg_87_55 {lay : zm_Lay} {σ : zm_Sig} {r0 : Nat} {i1 : Int32} {i2 : Int32} {i3 : Int32} {i4 : Int32} {out : zm_Out} {r : zm_St ⊕ zm_Out} (h : zb_87_55 lay σ r0 i1 i2 i3 i4 = some r) (hg : zm_end zp_P 87 out r) : zm_go zp_P 87 (55, [(0, .ref r0), (1, .int i1), (2, .int i2), (3, .int i3), (4, .int i4)], [], lay, σ, 0, 0) out :=
  zm_blk_go (M := zd_87) rfl zs_87 75 (zp_87.drop 28) _ r (fun _ h => List.mem_of_mem_drop h) ((zr_87_55 lay σ r0 i1 i2 i3 i4).trans h) hg
/-! SubgroupWriter.spelt(II)I -/
theorem zs_88 : zm_srt zp_88 = true := by decide +kernel
noncomputable def zb_88_0 (lay : zm_Lay) (σ : zm_Sig) (r0 : Nat) (i1 : Int32) (i2 : Int32) : Option (zm_St ⊕ zm_Out) :=
  (zm_is lay r0 9).bind fun _ =>
  zm_opt (σ.2.2 r0 0) (fun q1 =>
  (zm_is lay q1 5).bind fun _ => (zm_ai (zM 12 [.ref q1, .int i1] lay σ)).bind fun q2 =>
  if q2.1 = 0 then (some (.inr (some (.int (-1)), q2.2.1, q2.2.2)))
  else ((zm_is q2.2.1 r0 9).bind fun _ =>
   zm_opt (q2.2.2.2.2 r0 0) (fun q3 =>
   (zm_is q2.2.1 q3 5).bind fun _ => (zm_ai (zM 12 [.ref q3, .int i2] q2.2.1 q2.2.2)).bind fun q4 =>
   if ¬ q4.1 = 0 then ((zm_is q4.2.1 r0 9).bind fun _ =>
    zm_opt (q4.2.2.2.2 r0 0) (fun q5 =>
    (zm_is q4.2.1 q5 5).bind fun _ => (zm_ai (zM 16 [.ref q5, .int i1] q4.2.1 q4.2.2)).bind fun q6 =>
    if q6.1 = 0 then (some (.inl (43, [(0, .ref r0), (1, .int i1), (2, .int i2), (3, .int 0)], [], q6.2.1, q6.2.2, 0, 0)))
    else ((zm_is q6.2.1 r0 9).bind fun _ => (zm_ai (zM 13 [.ref r0, .int 1] q6.2.1 q6.2.2)).bind fun q7 =>
     some (.inr (some (.int q7.1), q7.2.1, q7.2.2)))) (none))
   else (some (.inr (some (.int (-1)), q4.2.1, q4.2.2)))) (none))) (none)
set_option maxRecDepth 100000 in
theorem zr_88_0 (lay : zm_Lay) (σ : zm_Sig) (r0 : Nat) (i1 : Int32) (i2 : Int32) : zm_blk zM zp_88 (some .int) 0 0 zc_88 83 (zp_88.drop 0) (0, [(0, .ref r0), (1, .int i1), (2, .int i2)], [], lay, σ, 0, 0) = zb_88_0 lay σ r0 i1 i2 := rfl
theorem ze_88 {lay : zm_Lay} {σ : zm_Sig} {r0 : Nat} {i1 : Int32} {i2 : Int32} {out : zm_Out} {r : zm_St ⊕ zm_Out} (h : zb_88_0 lay σ r0 i1 i2 = some r) (hg : zm_end zp_P 88 out r) : zM 88 [.ref r0, .int i1, .int i2] lay σ = some out :=
  zm_mean_go (M := zd_88) rfl (Nat.le_of_ble_eq_true rfl) (zm_blk_go (M := zd_88) rfl zs_88 83 (zp_88.drop 0) _ r (fun _ h => List.mem_of_mem_drop h) ((zr_88_0 lay σ r0 i1 i2).trans h) hg)
noncomputable def zb_88_43 (lay : zm_Lay) (σ : zm_Sig) (r0 : Nat) (i1 : Int32) (i2 : Int32) (i3 : Int32) : Option (zm_St ⊕ zm_Out) :=
  (zm_is lay r0 9).bind fun _ =>
  zm_opt (σ.2.2 r0 0) (fun q1 =>
  (zm_is lay q1 5).bind fun _ => (zm_ai (zM 28 [.ref q1, .int i1] lay σ)).bind fun q2 =>
  if q2.1 ≤ i3 then ((zm_is q2.2.1 r0 9).bind fun _ =>
   zm_opt (q2.2.2.2.2 r0 5) (fun q3 =>
   (zm_is q2.2.1 q3 8).bind fun _ => (zm_av (zM 65 [.ref q3] q2.2.1 q2.2.2)).bind fun q4 =>
   some (.inl (98, [(0, .ref r0), (1, .int i1), (2, .int i2), (3, .int 0)], [], q4.1, q4.2, 0, 0))) (none))
  else ((zm_is q2.2.1 r0 9).bind fun _ =>
   zm_opt (q2.2.2.2.2 r0 3) (fun q5 =>
   (zm_is q2.2.1 q5 0).bind fun _ =>
   zm_opt (q2.2.2.2.2 q5 0) (fun q6 =>
   (zm_is q2.2.1 r0 9).bind fun _ =>
   zm_opt (q2.2.2.2.2 r0 0) (fun q7 =>
   (zm_is q2.2.1 q7 5).bind fun _ => (zm_ai (zM 18 [.ref q7, .int i1, .int i3] q2.2.1 q2.2.2)).bind fun q8 =>
   (zm_is q8.2.1 q6 7).bind fun _ => (zm_ai (zM 89 [.ref q6, .int q8.1] q8.2.1 q8.2.2)).bind fun q9 =>
   if ¬ q9.1 = 0 then (some (.inl (43, [(0, .ref r0), (1, .int i1), (2, .int i2), (3, .int (i3 + 1))], [], q9.2.1, q9.2.2, 0, 0)))
   else ((zm_is q9.2.1 r0 9).bind fun _ => (zm_ai (zM 13 [.ref r0, .int (nI 3)] q9.2.1 q9.2.2)).bind fun q10 =>
    some (.inr (some (.int q10.1), q10.2.1, q10.2.2)))) (none)) (none)) (none))) (none)
set_option maxRecDepth 100000 in
theorem zr_88_43 (lay : zm_Lay) (σ : zm_Sig) (r0 : Nat) (i1 : Int32) (i2 : Int32) (i3 : Int32) : zm_blk zM zp_88 (some .int) 0 0 zc_88 83 (zp_88.drop 23) (43, [(0, .ref r0), (1, .int i1), (2, .int i2), (3, .int i3)], [], lay, σ, 0, 0) = zb_88_43 lay σ r0 i1 i2 i3 := rfl
theorem zg_88_43 {lay : zm_Lay} {σ : zm_Sig} {r0 : Nat} {i1 : Int32} {i2 : Int32} {i3 : Int32} {out : zm_Out} {r : zm_St ⊕ zm_Out} (h : zb_88_43 lay σ r0 i1 i2 i3 = some r) (hg : zm_end zp_P 88 out r) : zm_go zp_P 88 (43, [(0, .ref r0), (1, .int i1), (2, .int i2), (3, .int i3)], [], lay, σ, 0, 0) out :=
  zm_blk_go (M := zd_88) rfl zs_88 83 (zp_88.drop 23) _ r (fun _ h => List.mem_of_mem_drop h) ((zr_88_43 lay σ r0 i1 i2 i3).trans h) hg
noncomputable def zb_88_98 (lay : zm_Lay) (σ : zm_Sig) (r0 : Nat) (i1 : Int32) (i2 : Int32) (i3 : Int32) : Option (zm_St ⊕ zm_Out) :=
  (zm_is lay r0 9).bind fun _ =>
  zm_opt (σ.2.2 r0 0) (fun q1 =>
  (zm_is lay q1 5).bind fun _ => (zm_ai (zM 28 [.ref q1, .int i1] lay σ)).bind fun q2 =>
  if q2.1 ≤ i3 then ((zm_is q2.2.1 r0 9).bind fun _ =>
   zm_opt (q2.2.2.2.2 r0 5) (fun q3 =>
   (zm_is q2.2.1 q3 8).bind fun _ =>
   if (q2.2.2.1 q3 1) ≤ (nI 40) then ((zm_is q2.2.1 r0 9).bind fun _ => (zm_ai (zM 75 [.ref r0, .int i2] q2.2.1 q2.2.2)).bind fun q4 =>
    some (.inr (some (.int q4.1), q4.2.1, q4.2.2)))
   else (some (.inr (some (.int (-6)), q2.2.1, q2.2.2)))) (none))
  else ((zm_is q2.2.1 r0 9).bind fun _ =>
   zm_opt (q2.2.2.2.2 r0 3) (fun q5 =>
   (zm_is q2.2.1 q5 0).bind fun _ =>
   zm_opt (q2.2.2.2.2 q5 0) (fun q6 =>
   (zm_is q2.2.1 r0 9).bind fun _ =>
   zm_opt (q2.2.2.2.2 r0 11) (fun q7 =>
   (zm_is q2.2.1 r0 9).bind fun _ =>
   zm_opt (q2.2.2.2.2 r0 0) (fun q8 =>
   (zm_is q2.2.1 q8 5).bind fun _ => (zm_ai (zM 18 [.ref q8, .int i1, .int i3] q2.2.1 q2.2.2)).bind fun q9 =>
   (zm_is q9.2.1 r0 9).bind fun _ =>
   zm_opt (q9.2.2.2.2 r0 5) (fun q10 =>
   (zm_is q9.2.1 q6 7).bind fun _ => (zm_av (zM 90 [.ref q6, .ref q7, .int q9.1, .ref q10] q9.2.1 q9.2.2)).bind fun q11 =>
   some (.inl (98, [(0, .ref r0), (1, .int i1), (2, .int i2), (3, .int (i3 + 1))], [], q11.1, q11.2, 0, 0))) (none)) (none)) (none)) (none)) (none))) (none)
set_option maxRecDepth 100000 in
theorem zr_88_98 (lay : zm_Lay) (σ : zm_Sig) (r0 : Nat) (i1 : Int32) (i2 : Int32) (i3 : Int32) : zm_blk zM zp_88 (some .int) 0 0 zc_88 83 (zp_88.drop 50) (98, [(0, .ref r0), (1, .int i1), (2, .int i2), (3, .int i3)], [], lay, σ, 0, 0) = zb_88_98 lay σ r0 i1 i2 i3 := rfl
theorem zg_88_98 {lay : zm_Lay} {σ : zm_Sig} {r0 : Nat} {i1 : Int32} {i2 : Int32} {i3 : Int32} {out : zm_Out} {r : zm_St ⊕ zm_Out} (h : zb_88_98 lay σ r0 i1 i2 i3 = some r) (hg : zm_end zp_P 88 out r) : zm_go zp_P 88 (98, [(0, .ref r0), (1, .int i1), (2, .int i2), (3, .int i3)], [], lay, σ, 0, 0) out :=
  zm_blk_go (M := zd_88) rfl zs_88 83 (zp_88.drop 50) _ r (fun _ h => List.mem_of_mem_drop h) ((zr_88_98 lay σ r0 i1 i2 i3).trans h) hg
/-! SubgroupWriter$Tree.isSigned(I)Z -/
theorem zs_89 : zm_srt zp_89 = true := by decide +kernel
noncomputable def zb_89_0 (lay : zm_Lay) (σ : zm_Sig) (r0 : Nat) (i1 : Int32) : Option (zm_St ⊕ zm_Out) :=
  if i1 = 0 then (some (.inr (some (.int 0), lay, σ)))
  else ((zm_is lay r0 7).bind fun _ =>
   if i1 < (-(σ.1 r0 2)) then (some (.inr (some (.int 0), lay, σ)))
   else ((zm_is lay r0 7).bind fun _ =>
    if (σ.1 r0 2) < i1 then (some (.inr (some (.int 0), lay, σ)))
    else (some (.inr (some (.int 1), lay, σ)))))
set_option maxRecDepth 100000 in
theorem zr_89_0 (lay : zm_Lay) (σ : zm_Sig) (r0 : Nat) (i1 : Int32) : zm_blk zM zp_89 (some .boolean) 0 0 zc_89 16 (zp_89.drop 0) (0, [(0, .ref r0), (1, .int i1)], [], lay, σ, 0, 0) = zb_89_0 lay σ r0 i1 := rfl
theorem ze_89 {lay : zm_Lay} {σ : zm_Sig} {r0 : Nat} {i1 : Int32} {out : zm_Out} {r : zm_St ⊕ zm_Out} (h : zb_89_0 lay σ r0 i1 = some r) (hg : zm_end zp_P 89 out r) : zM 89 [.ref r0, .int i1] lay σ = some out :=
  zm_mean_go (M := zd_89) rfl (Nat.le_of_ble_eq_true rfl) (zm_blk_go (M := zd_89) rfl zs_89 16 (zp_89.drop 0) _ r (fun _ h => List.mem_of_mem_drop h) ((zr_89_0 lay σ r0 i1).trans h) hg)
/-! SubgroupWriter$Tree.addSpelling(LSubgroupWriter$Group;ILSubgroupWriter$Word;)V -/
theorem zs_90 : zm_srt zp_90 = true := by decide +kernel
noncomputable def zb_90_0 (lay : zm_Lay) (σ : zm_Sig) (r0 : Nat) (r1 : Nat) (i2 : Int32) (r3 : Nat) : Option (zm_St ⊕ zm_Out) :=
  (zm_is lay r0 7).bind fun _ => (zm_ai (zM 89 [.ref r0, .int i2] lay σ)).bind fun q1 =>
  if ¬ q1.1 = 0 then ((zm_is q1.2.1 r0 7).bind fun _ =>
   zm_opt (q1.2.2.2.2 r0 8) (fun q2 =>
   (zm_ai (zM 91 [.int i2] q1.2.1 q1.2.2)).bind fun q3 =>
   (zm_gI q3.2.1 q3.2.2 q2 q3.1).bind fun v4 =>
   (zm_is q3.2.1 r1 1).bind fun _ => (zm_ai (zM 82 [.ref r1, .int v4] q3.2.1 q3.2.2)).bind fun q5 =>
   if i2 ≤ 0 then ((zm_is q5.2.1 r1 1).bind fun _ => (zm_ai (zM 81 [.ref r1, .int v4] q5.2.1 q5.2.2)).bind fun q6 =>
    (zm_is q6.2.1 r0 7).bind fun _ => (zm_av (zM 73 [.ref r0, .int q6.1, .ref r3] q6.2.1 q6.2.2)).bind fun q7 =>
    if i2 ≤ 0 then ((zm_is q7.1 r3 8).bind fun _ => (zm_av (zM 66 [.ref r3, .int (-(q5.1 + 1))] q7.1 q7.2)).bind fun q8 =>
     if i2 ≤ 0 then ((zm_is q8.1 r1 1).bind fun _ => (zm_ai (zM 80 [.ref r1, .int v4] q8.1 q8.2)).bind fun q9 =>
      (zm_is q9.2.1 r0 7).bind fun _ => (zm_av (zM 92 [.ref r0, .int q9.1, .ref r3] q9.2.1 q9.2.2)).bind fun q10 =>
      some (.inr (none, q10.1, q10.2)))
     else ((zm_is q8.1 r1 1).bind fun _ => (zm_ai (zM 81 [.ref r1, .int v4] q8.1 q8.2)).bind fun q11 =>
      (zm_is q11.2.1 r0 7).bind fun _ => (zm_av (zM 92 [.ref r0, .int q11.1, .ref r3] q11.2.1 q11.2.2)).bind fun q12 =>
      some (.inr (none, q12.1, q12.2))))
    else ((zm_is q7.1 r3 8).bind fun _ => (zm_av (zM 66 [.ref r3, .int (q5.1 + 1)] q7.1 q7.2)).bind fun q13 =>
     if i2 ≤ 0 then ((zm_is q13.1 r1 1).bind fun _ => (zm_ai (zM 80 [.ref r1, .int v4] q13.1 q13.2)).bind fun q14 =>
      (zm_is q14.2.1 r0 7).bind fun _ => (zm_av (zM 92 [.ref r0, .int q14.1, .ref r3] q14.2.1 q14.2.2)).bind fun q15 =>
      some (.inr (none, q15.1, q15.2)))
     else ((zm_is q13.1 r1 1).bind fun _ => (zm_ai (zM 81 [.ref r1, .int v4] q13.1 q13.2)).bind fun q16 =>
      (zm_is q16.2.1 r0 7).bind fun _ => (zm_av (zM 92 [.ref r0, .int q16.1, .ref r3] q16.2.1 q16.2.2)).bind fun q17 =>
      some (.inr (none, q17.1, q17.2)))))
   else ((zm_is q5.2.1 r1 1).bind fun _ => (zm_ai (zM 80 [.ref r1, .int v4] q5.2.1 q5.2.2)).bind fun q18 =>
    (zm_is q18.2.1 r0 7).bind fun _ => (zm_av (zM 73 [.ref r0, .int q18.1, .ref r3] q18.2.1 q18.2.2)).bind fun q19 =>
    if i2 ≤ 0 then ((zm_is q19.1 r3 8).bind fun _ => (zm_av (zM 66 [.ref r3, .int (-(q5.1 + 1))] q19.1 q19.2)).bind fun q20 =>
     if i2 ≤ 0 then ((zm_is q20.1 r1 1).bind fun _ => (zm_ai (zM 80 [.ref r1, .int v4] q20.1 q20.2)).bind fun q21 =>
      (zm_is q21.2.1 r0 7).bind fun _ => (zm_av (zM 92 [.ref r0, .int q21.1, .ref r3] q21.2.1 q21.2.2)).bind fun q22 =>
      some (.inr (none, q22.1, q22.2)))
     else ((zm_is q20.1 r1 1).bind fun _ => (zm_ai (zM 81 [.ref r1, .int v4] q20.1 q20.2)).bind fun q23 =>
      (zm_is q23.2.1 r0 7).bind fun _ => (zm_av (zM 92 [.ref r0, .int q23.1, .ref r3] q23.2.1 q23.2.2)).bind fun q24 =>
      some (.inr (none, q24.1, q24.2))))
    else ((zm_is q19.1 r3 8).bind fun _ => (zm_av (zM 66 [.ref r3, .int (q5.1 + 1)] q19.1 q19.2)).bind fun q25 =>
     if i2 ≤ 0 then ((zm_is q25.1 r1 1).bind fun _ => (zm_ai (zM 80 [.ref r1, .int v4] q25.1 q25.2)).bind fun q26 =>
      (zm_is q26.2.1 r0 7).bind fun _ => (zm_av (zM 92 [.ref r0, .int q26.1, .ref r3] q26.2.1 q26.2.2)).bind fun q27 =>
      some (.inr (none, q27.1, q27.2)))
     else ((zm_is q25.1 r1 1).bind fun _ => (zm_ai (zM 81 [.ref r1, .int v4] q25.1 q25.2)).bind fun q28 =>
      (zm_is q28.2.1 r0 7).bind fun _ => (zm_av (zM 92 [.ref r0, .int q28.1, .ref r3] q28.2.1 q28.2.2)).bind fun q29 =>
      some (.inr (none, q29.1, q29.2)))))) (none))
  else (some (.inr (none, q1.2.1, q1.2.2)))
set_option maxRecDepth 100000 in
theorem zr_90_0 (lay : zm_Lay) (σ : zm_Sig) (r0 : Nat) (r1 : Nat) (i2 : Int32) (r3 : Nat) : zm_blk zM zp_90 none 0 0 zc_90 51 (zp_90.drop 0) (0, [(0, .ref r0), (1, .ref r1), (2, .int i2), (3, .ref r3)], [], lay, σ, 0, 0) = zb_90_0 lay σ r0 r1 i2 r3 := rfl
theorem ze_90 {lay : zm_Lay} {σ : zm_Sig} {r0 : Nat} {r1 : Nat} {i2 : Int32} {r3 : Nat} {out : zm_Out} {r : zm_St ⊕ zm_Out} (h : zb_90_0 lay σ r0 r1 i2 r3 = some r) (hg : zm_end zp_P 90 out r) : zM 90 [.ref r0, .ref r1, .int i2, .ref r3] lay σ = some out :=
  zm_mean_go (M := zd_90) rfl (Nat.le_of_ble_eq_true rfl) (zm_blk_go (M := zd_90) rfl zs_90 51 (zp_90.drop 0) _ r (fun _ h => List.mem_of_mem_drop h) ((zr_90_0 lay σ r0 r1 i2 r3).trans h) hg)
/-! java/lang/Math.abs(I)I -/
theorem zs_91 : zm_srt zp_91 = true := by decide +kernel
noncomputable def zb_91_0 (lay : zm_Lay) (σ : zm_Sig) (i0 : Int32) : Option (zm_St ⊕ zm_Out) :=
  if (0 : Int32) ≤ i0 then (some (.inr (some (.int i0), lay, σ)))
  else (some (.inr (some (.int (-i0)), lay, σ)))
set_option maxRecDepth 100000 in
theorem zr_91_0 (lay : zm_Lay) (σ : zm_Sig) (i0 : Int32) : zm_blk zM zp_91 (some .int) 0 0 zc_91 8 (zp_91.drop 0) (0, [(0, .int i0)], [], lay, σ, 0, 0) = zb_91_0 lay σ i0 := rfl
theorem ze_91 {lay : zm_Lay} {σ : zm_Sig} {i0 : Int32} {out : zm_Out} {r : zm_St ⊕ zm_Out} (h : zb_91_0 lay σ i0 = some r) (hg : zm_end zp_P 91 out r) : zM 91 [.int i0] lay σ = some out :=
  zm_mean_go (M := zd_91) rfl (Nat.le_of_ble_eq_true rfl) (zm_blk_go (M := zd_91) rfl zs_91 8 (zp_91.drop 0) _ r (fun _ h => List.mem_of_mem_drop h) ((zr_91_0 lay σ i0).trans h) hg)
/-! SubgroupWriter$Tree.addWayBack(ILSubgroupWriter$Word;)V -/
theorem zs_92 : zm_srt zp_92 = true := by decide +kernel
noncomputable def zb_92_0 (lay : zm_Lay) (σ : zm_Sig) (r0 : Nat) (i1 : Int32) (r2 : Nat) : Option (zm_St ⊕ zm_Out) :=
  (zm_is lay r0 7).bind fun _ => (zm_av (zM 74 [.ref r0, .int i1] lay σ)).bind fun q1 =>
  (zm_is q1.1 r0 7).bind fun _ =>
  zm_opt (q1.2.2.2 r0 5) (fun q2 =>
  (zm_gI q1.1 q1.2 q2 i1).bind fun v3 =>
  some (.inl (14, [(0, .ref r0), (2, .ref r2), (3, .int (v3 - 1))], [], q1.1, q1.2, 0, 0))) (none)
set_option maxRecDepth 100000 in
theorem zr_92_0 (lay : zm_Lay) (σ : zm_Sig) (r0 : Nat) (i1 : Int32) (r2 : Nat) : zm_blk zM zp_92 none 0 0 zc_92 23 (zp_92.drop 0) (0, [(0, .ref r0), (1, .int i1), (2, .ref r2)], [], lay, σ, 0, 0) = zb_92_0 lay σ r0 i1 r2 := rfl
theorem ze_92 {lay : zm_Lay} {σ : zm_Sig} {r0 : Nat} {i1 : Int32} {r2 : Nat} {out : zm_Out} {r : zm_St ⊕ zm_Out} (h : zb_92_0 lay σ r0 i1 r2 = some r) (hg : zm_end zp_P 92 out r) : zM 92 [.ref r0, .int i1, .ref r2] lay σ = some out :=
  zm_mean_go (M := zd_92) rfl (Nat.le_of_ble_eq_true rfl) (zm_blk_go (M := zd_92) rfl zs_92 23 (zp_92.drop 0) _ r (fun _ h => List.mem_of_mem_drop h) ((zr_92_0 lay σ r0 i1 r2).trans h) hg)
noncomputable def zb_92_14 (lay : zm_Lay) (σ : zm_Sig) (r0 : Nat) (r2 : Nat) (i3 : Int32) : Option (zm_St ⊕ zm_Out) :=
  if i3 < 0 then (some (.inr (none, lay, σ)))
  else ((zm_is lay r0 7).bind fun _ =>
   zm_opt (σ.2.2 r0 9) (fun q1 =>
   (zm_gI lay σ q1 i3).bind fun v2 =>
   (zm_is lay r2 8).bind fun _ => (zm_av (zM 66 [.ref r2, .int (-v2)] lay σ)).bind fun q3 =>
   some (.inl (14, [(0, .ref r0), (2, .ref r2), (3, .int (i3 + (-1)))], [], q3.1, q3.2, 0, 0))) (none))
set_option maxRecDepth 100000 in
theorem zr_92_14 (lay : zm_Lay) (σ : zm_Sig) (r0 : Nat) (r2 : Nat) (i3 : Int32) : zm_blk zM zp_92 none 0 0 zc_92 23 (zp_92.drop 10) (14, [(0, .ref r0), (2, .ref r2), (3, .int i3)], [], lay, σ, 0, 0) = zb_92_14 lay σ r0 r2 i3 := rfl
theorem zg_92_14 {lay : zm_Lay} {σ : zm_Sig} {r0 : Nat} {r2 : Nat} {i3 : Int32} {out : zm_Out} {r : zm_St ⊕ zm_Out} (h : zb_92_14 lay σ r0 r2 i3 = some r) (hg : zm_end zp_P 92 out r) : zm_go zp_P 92 (14, [(0, .ref r0), (2, .ref r2), (3, .int i3)], [], lay, σ, 0, 0) out :=
  zm_blk_go (M := zd_92) rfl zs_92 23 (zp_92.drop 10) _ r (fun _ h => List.mem_of_mem_drop h) ((zr_92_14 lay σ r0 r2 i3).trans h) hg
