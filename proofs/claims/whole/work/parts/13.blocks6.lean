/-! SubgroupWriterModel.bits(I)I -/
theorem zs_273 : zm_srt zp_273 = true := by decide +kernel
noncomputable def zb_273_0 (lay : zm_Lay) (σ : zm_Sig) (i0 : Int32) : Option (zm_St ⊕ zm_Out) :=
  some (.inl (4, [(1, .int 0), (2, .int i0)], [], lay, σ, 0, 0))
set_option maxRecDepth 100000 in
theorem zr_273_0 (lay : zm_Lay) (σ : zm_Sig) (i0 : Int32) : zm_blk zM zp_273 (some .int) 0 0 zc_273 17 (zp_273.drop 0) (0, [(0, .int i0)], [], lay, σ, 0, 0) = zb_273_0 lay σ i0 := rfl
theorem ze_273 {lay : zm_Lay} {σ : zm_Sig} {i0 : Int32} {out : zm_Out} {r : zm_St ⊕ zm_Out} (h : zb_273_0 lay σ i0 = some r) (hg : zm_end zp_P 273 out r) : zM 273 [.int i0] lay σ = some out :=
  zm_mean_go (M := zd_273) rfl (Nat.le_of_ble_eq_true rfl) (zm_blk_go (M := zd_273) rfl zs_273 17 (zp_273.drop 0) _ r (fun _ h => List.mem_of_mem_drop h) ((zr_273_0 lay σ i0).trans h) hg)
noncomputable def zb_273_4 (lay : zm_Lay) (σ : zm_Sig) (i1 : Int32) (i2 : Int32) : Option (zm_St ⊕ zm_Out) :=
  if i2 = 0 then (some (.inr (some (.int i1), lay, σ)))
  else (some (.inl (4, [(1, .int (i1 + 1)), (2, .int (i2 &&& (i2 - 1)))], [], lay, σ, 0, 0)))
set_option maxRecDepth 100000 in
theorem zr_273_4 (lay : zm_Lay) (σ : zm_Sig) (i1 : Int32) (i2 : Int32) : zm_blk zM zp_273 (some .int) 0 0 zc_273 17 (zp_273.drop 4) (4, [(1, .int i1), (2, .int i2)], [], lay, σ, 0, 0) = zb_273_4 lay σ i1 i2 := rfl
theorem zg_273_4 {lay : zm_Lay} {σ : zm_Sig} {i1 : Int32} {i2 : Int32} {out : zm_Out} {r : zm_St ⊕ zm_Out} (h : zb_273_4 lay σ i1 i2 = some r) (hg : zm_end zp_P 273 out r) : zm_go zp_P 273 (4, [(1, .int i1), (2, .int i2)], [], lay, σ, 0, 0) out :=
  zm_blk_go (M := zd_273) rfl zs_273 17 (zp_273.drop 4) _ r (fun _ h => List.mem_of_mem_drop h) ((zr_273_4 lay σ i1 i2).trans h) hg
/-! SubgroupWriterModel.ways(I)I -/
theorem zs_274 : zm_srt zp_274 = true := by decide +kernel
noncomputable def zb_274_0 (lay : zm_Lay) (σ : zm_Sig) (r0 : Nat) (i1 : Int32) : Option (zm_St ⊕ zm_Out) :=
  (zm_ai (zM 271 [.int i1] lay σ)).bind fun q1 =>
  if ¬ q1.1 = 0 then ((zm_is q1.2.1 r0 10).bind fun _ =>
   if ¬ (q1.2.2.1 r0 4) = 0 then (some (.inl (21, [(0, .ref r0), (1, .int i1), (2, .int 0)], [], q1.2.1, q1.2.2, 0, 0)))
   else (some (.inr (some (.int (-4)), q1.2.1, q1.2.2))))
  else (some (.inr (some (.int (-1)), q1.2.1, q1.2.2)))
set_option maxRecDepth 100000 in
theorem zr_274_0 (lay : zm_Lay) (σ : zm_Sig) (r0 : Nat) (i1 : Int32) : zm_blk zM zp_274 (some .int) 0 0 zc_274 114 (zp_274.drop 0) (0, [(0, .ref r0), (1, .int i1)], [], lay, σ, 0, 0) = zb_274_0 lay σ r0 i1 := rfl
theorem ze_274 {lay : zm_Lay} {σ : zm_Sig} {r0 : Nat} {i1 : Int32} {out : zm_Out} {r : zm_St ⊕ zm_Out} (h : zb_274_0 lay σ r0 i1 = some r) (hg : zm_end zp_P 274 out r) : zM 274 [.ref r0, .int i1] lay σ = some out :=
  zm_mean_go (M := zd_274) rfl (Nat.le_of_ble_eq_true rfl) (zm_blk_go (M := zd_274) rfl zs_274 114 (zp_274.drop 0) _ r (fun _ h => List.mem_of_mem_drop h) ((zr_274_0 lay σ r0 i1).trans h) hg)
noncomputable def zb_274_21 (lay : zm_Lay) (σ : zm_Sig) (r0 : Nat) (i1 : Int32) (i2 : Int32) : Option (zm_St ⊕ zm_Out) :=
  (zm_is lay r0 10).bind fun _ =>
  if (σ.1 r0 6) ≤ i2 then ((zm_is lay r0 10).bind fun _ =>
   (zm_is lay r0 10).bind fun _ =>
   (zm_is lay r0 10).bind fun _ =>
   (zm_is lay r0 10).bind fun _ => (zm_ai (zM 272 [.ref r0, .int (σ.1 r0 6), .int (σ.1 r0 5), .int i1] lay σ)).bind fun q1 =>
   some (.inl (162, [(0, .ref r0), (1, .int i1), (2, .int ((σ.1 r0 5) - q1.1)), (3, .long (Int64.ofNat 1)), (5, .int 0)], [], q1.2.1, q1.2.2, 0, 0)))
  else (some (.inl (31, [(0, .ref r0), (1, .int i1), (2, .int i2), (3, .int 0)], [], lay, σ, 0, 0)))
set_option maxRecDepth 100000 in
theorem zr_274_21 (lay : zm_Lay) (σ : zm_Sig) (r0 : Nat) (i1 : Int32) (i2 : Int32) : zm_blk zM zp_274 (some .int) 0 0 zc_274 114 (zp_274.drop 12) (21, [(0, .ref r0), (1, .int i1), (2, .int i2)], [], lay, σ, 0, 0) = zb_274_21 lay σ r0 i1 i2 := rfl
theorem zg_274_21 {lay : zm_Lay} {σ : zm_Sig} {r0 : Nat} {i1 : Int32} {i2 : Int32} {out : zm_Out} {r : zm_St ⊕ zm_Out} (h : zb_274_21 lay σ r0 i1 i2 = some r) (hg : zm_end zp_P 274 out r) : zm_go zp_P 274 (21, [(0, .ref r0), (1, .int i1), (2, .int i2)], [], lay, σ, 0, 0) out :=
  zm_blk_go (M := zd_274) rfl zs_274 114 (zp_274.drop 12) _ r (fun _ h => List.mem_of_mem_drop h) ((zr_274_21 lay σ r0 i1 i2).trans h) hg
noncomputable def zb_274_31 (lay : zm_Lay) (σ : zm_Sig) (r0 : Nat) (i1 : Int32) (i2 : Int32) (i3 : Int32) : Option (zm_St ⊕ zm_Out) :=
  (zm_is lay r0 10).bind fun _ =>
  if (σ.1 r0 5) ≤ i3 then (some (.inl (21, [(0, .ref r0), (1, .int i1), (2, .int (i2 + 1))], [], lay, σ, 0, 0)))
  else (some (.inl (45, [(0, .ref r0), (1, .int i1), (2, .int i2), (3, .int i3), (4, .int 0), (5, .int 0)], [], lay, σ, 0, 0)))
set_option maxRecDepth 100000 in
theorem zr_274_31 (lay : zm_Lay) (σ : zm_Sig) (r0 : Nat) (i1 : Int32) (i2 : Int32) (i3 : Int32) : zm_blk zM zp_274 (some .int) 0 0 zc_274 114 (zp_274.drop 18) (31, [(0, .ref r0), (1, .int i1), (2, .int i2), (3, .int i3)], [], lay, σ, 0, 0) = zb_274_31 lay σ r0 i1 i2 i3 := rfl
theorem zg_274_31 {lay : zm_Lay} {σ : zm_Sig} {r0 : Nat} {i1 : Int32} {i2 : Int32} {i3 : Int32} {out : zm_Out} {r : zm_St ⊕ zm_Out} (h : zb_274_31 lay σ r0 i1 i2 i3 = some r) (hg : zm_end zp_P 274 out r) : zm_go zp_P 274 (31, [(0, .ref r0), (1, .int i1), (2, .int i2), (3, .int i3)], [], lay, σ, 0, 0) out :=
  zm_blk_go (M := zd_274) rfl zs_274 114 (zp_274.drop 18) _ r (fun _ h => List.mem_of_mem_drop h) ((zr_274_31 lay σ r0 i1 i2 i3).trans h) hg
noncomputable def zb_274_162 (lay : zm_Lay) (σ : zm_Sig) (r0 : Nat) (i1 : Int32) (i2 : Int32) (l3 : Int64) (i5 : Int32) : Option (zm_St ⊕ zm_Out) :=
  if i2 ≤ i5 then ((zm_is lay r0 10).bind fun _ => (zm_ai (zM 275 [.ref r0, .long l3, .long (Int64.ofNat 1)] lay σ)).bind fun q1 =>
   some (.inr (some (.int i2), q1.2.1, q1.2.2)))
  else (some (.inl (162, [(0, .ref r0), (1, .int i1), (2, .int i2), (3, .long (l3 * (i1 : Int32).toInt64)), (5, .int (i5 + 1))], [], lay, σ, 0, 0)))
set_option maxRecDepth 100000 in
theorem zr_274_162 (lay : zm_Lay) (σ : zm_Sig) (r0 : Nat) (i1 : Int32) (i2 : Int32) (l3 : Int64) (i5 : Int32) : zm_blk zM zp_274 (some .int) 0 0 zc_274 114 (zp_274.drop 96) (162, [(0, .ref r0), (1, .int i1), (2, .int i2), (3, .long l3), (5, .int i5)], [], lay, σ, 0, 0) = zb_274_162 lay σ r0 i1 i2 l3 i5 := rfl
theorem zg_274_162 {lay : zm_Lay} {σ : zm_Sig} {r0 : Nat} {i1 : Int32} {i2 : Int32} {l3 : Int64} {i5 : Int32} {out : zm_Out} {r : zm_St ⊕ zm_Out} (h : zb_274_162 lay σ r0 i1 i2 l3 i5 = some r) (hg : zm_end zp_P 274 out r) : zm_go zp_P 274 (162, [(0, .ref r0), (1, .int i1), (2, .int i2), (3, .long l3), (5, .int i5)], [], lay, σ, 0, 0) out :=
  zm_blk_go (M := zd_274) rfl zs_274 114 (zp_274.drop 96) _ r (fun _ h => List.mem_of_mem_drop h) ((zr_274_162 lay σ r0 i1 i2 l3 i5).trans h) hg
noncomputable def zb_274_45 (lay : zm_Lay) (σ : zm_Sig) (r0 : Nat) (i1 : Int32) (i2 : Int32) (i3 : Int32) (i4 : Int32) (i5 : Int32) : Option (zm_St ⊕ zm_Out) :=
  (zm_is lay r0 10).bind fun _ =>
  zm_opt (σ.2.2 r0 9) (fun q1 =>
  (zm_gI lay σ q1 i2).bind fun v2 =>
  if v2 ≤ i5 then ((zm_is lay r0 10).bind fun _ =>
   zm_opt (σ.2.2 r0 44) (fun q3 =>
   if i1 = 0 then none
   else (if i1 = 0 then none
   else ((zm_sI lay σ q3 ((((nI 16) : Int32) * i2) + i3) (((i4 - i4 / i1 * i1) + i1) - ((i4 - i4 / i1 * i1) + i1) / i1 * i1)).bind fun s4 =>
   some (.inl (31, [(0, .ref r0), (1, .int i1), (2, .int i2), (3, .int (i3 + 1))], [], lay, s4, 0, 0))))) (none))
  else ((zm_is lay r0 10).bind fun _ =>
   zm_opt (σ.2.2 r0 10) (fun q5 =>
   (zm_gI lay σ q5 ((((nI 8) : Int32) * i2) + i5)).bind fun v6 =>
   if ¬ v6 = (i3 + 1) then (if ¬ v6 = ((-i3) - 1) then (some (.inl (45, [(0, .ref r0), (1, .int i1), (2, .int i2), (3, .int i3), (4, .int (i4 + 0)), (5, .int (i5 + 1))], [], lay, σ, 0, 0)))
    else (some (.inl (45, [(0, .ref r0), (1, .int i1), (2, .int i2), (3, .int i3), (4, .int (i4 + (-1))), (5, .int (i5 + 1))], [], lay, σ, 0, 0))))
   else (some (.inl (45, [(0, .ref r0), (1, .int i1), (2, .int i2), (3, .int i3), (4, .int (i4 + 1)), (5, .int (i5 + 1))], [], lay, σ, 0, 0)))) (none))) (none)
set_option maxRecDepth 100000 in
theorem zr_274_45 (lay : zm_Lay) (σ : zm_Sig) (r0 : Nat) (i1 : Int32) (i2 : Int32) (i3 : Int32) (i4 : Int32) (i5 : Int32) : zm_blk zM zp_274 (some .int) 0 0 zc_274 114 (zp_274.drop 26) (45, [(0, .ref r0), (1, .int i1), (2, .int i2), (3, .int i3), (4, .int i4), (5, .int i5)], [], lay, σ, 0, 0) = zb_274_45 lay σ r0 i1 i2 i3 i4 i5 := rfl
theorem zg_274_45 {lay : zm_Lay} {σ : zm_Sig} {r0 : Nat} {i1 : Int32} {i2 : Int32} {i3 : Int32} {i4 : Int32} {i5 : Int32} {out : zm_Out} {r : zm_St ⊕ zm_Out} (h : zb_274_45 lay σ r0 i1 i2 i3 i4 i5 = some r) (hg : zm_end zp_P 274 out r) : zm_go zp_P 274 (45, [(0, .ref r0), (1, .int i1), (2, .int i2), (3, .int i3), (4, .int i4), (5, .int i5)], [], lay, σ, 0, 0) out :=
  zm_blk_go (M := zd_274) rfl zs_274 114 (zp_274.drop 26) _ r (fun _ h => List.mem_of_mem_drop h) ((zr_274_45 lay σ r0 i1 i2 i3 i4 i5).trans h) hg
/-! SubgroupWriterModel.tellsPart(JJ)I -/
theorem zs_275 : zm_srt zp_275 = true := by decide +kernel
noncomputable def zb_275_0 (lay : zm_Lay) (σ : zm_Sig) (r0 : Nat) (l1 : Int64) (l3 : Int64) : Option (zm_St ⊕ zm_Out) :=
  some (.inl (6, [(0, .ref r0), (1, .long l1), (3, .long l3), (5, .long l1), (7, .long l3)], [], lay, σ, 0, 0))
set_option maxRecDepth 100000 in
theorem zr_275_0 (lay : zm_Lay) (σ : zm_Sig) (r0 : Nat) (l1 : Int64) (l3 : Int64) : zm_blk zM zp_275 (some .int) 0 0 zc_275 30 (zp_275.drop 0) (0, [(0, .ref r0), (1, .long l1), (3, .long l3)], [], lay, σ, 0, 0) = zb_275_0 lay σ r0 l1 l3 := rfl
theorem ze_275 {lay : zm_Lay} {σ : zm_Sig} {r0 : Nat} {l1 : Int64} {l3 : Int64} {out : zm_Out} {r : zm_St ⊕ zm_Out} (h : zb_275_0 lay σ r0 l1 l3 = some r) (hg : zm_end zp_P 275 out r) : zM 275 [.ref r0, .long l1, .long l3] lay σ = some out :=
  zm_mean_go (M := zd_275) rfl (Nat.le_of_ble_eq_true rfl) (zm_blk_go (M := zd_275) rfl zs_275 30 (zp_275.drop 0) _ r (fun _ h => List.mem_of_mem_drop h) ((zr_275_0 lay σ r0 l1 l3).trans h) hg)
noncomputable def zb_275_6 (lay : zm_Lay) (σ : zm_Sig) (r0 : Nat) (l1 : Int64) (l3 : Int64) (l5 : Int64) (l7 : Int64) : Option (zm_St ⊕ zm_Out) :=
  if (lg_cmp l7 (Int64.ofNat 0)) = 0 then (if l5 = 0 then none
   else ((zm_is lay r0 10).bind fun _ => (zm_fw σ r0 27 1 (.long (l1 / l5))).bind fun s1 =>
   if l5 = 0 then none
   else ((zm_is lay r0 10).bind fun _ => (zm_fw s1 r0 28 1 (.long (l3 / l5))).bind fun s2 =>
   some (.inr (some (.int 1), lay, s2)))))
  else (if l7 = 0 then none
   else (some (.inl (6, [(0, .ref r0), (1, .long l1), (3, .long l3), (5, .long l7), (7, .long (l5 - l5 / l7 * l7))], [], lay, σ, 0, 0))))
set_option maxRecDepth 100000 in
theorem zr_275_6 (lay : zm_Lay) (σ : zm_Sig) (r0 : Nat) (l1 : Int64) (l3 : Int64) (l5 : Int64) (l7 : Int64) : zm_blk zM zp_275 (some .int) 0 0 zc_275 30 (zp_275.drop 4) (6, [(0, .ref r0), (1, .long l1), (3, .long l3), (5, .long l5), (7, .long l7)], [], lay, σ, 0, 0) = zb_275_6 lay σ r0 l1 l3 l5 l7 := rfl
theorem zg_275_6 {lay : zm_Lay} {σ : zm_Sig} {r0 : Nat} {l1 : Int64} {l3 : Int64} {l5 : Int64} {l7 : Int64} {out : zm_Out} {r : zm_St ⊕ zm_Out} (h : zb_275_6 lay σ r0 l1 l3 l5 l7 = some r) (hg : zm_end zp_P 275 out r) : zm_go zp_P 275 (6, [(0, .ref r0), (1, .long l1), (3, .long l3), (5, .long l5), (7, .long l7)], [], lay, σ, 0, 0) out :=
  zm_blk_go (M := zd_275) rfl zs_275 30 (zp_275.drop 4) _ r (fun _ h => List.mem_of_mem_drop h) ((zr_275_6 lay σ r0 l1 l3 l5 l7).trans h) hg
/-! SubgroupWriterModel.odds(III)I -/
theorem zs_276 : zm_srt zp_276 = true := by decide +kernel
noncomputable def zb_276_0 (lay : zm_Lay) (σ : zm_Sig) (r0 : Nat) (i1 : Int32) (i2 : Int32) (i3 : Int32) : Option (zm_St ⊕ zm_Out) :=
  (zm_is lay r0 10).bind fun _ => (zm_ai (zM 216 [.ref r0, .int i1] lay σ)).bind fun q1 =>
  if q1.1 = 0 then (some (.inr (some (.int (-1)), q1.2.1, q1.2.2)))
  else ((zm_is q1.2.1 r0 10).bind fun _ => (zm_ai (zM 216 [.ref r0, .int i2] q1.2.1 q1.2.2)).bind fun q2 =>
   if q2.1 = 0 then (some (.inr (some (.int (-1)), q2.2.1, q2.2.2)))
   else ((zm_ai (zM 176 [.int i3, .int 0, .int (nI 8)] q2.2.1 q2.2.2)).bind fun q3 =>
    if ¬ q3.1 = 0 then (some (.inl (34, [(0, .ref r0), (1, .int i1), (2, .int i2), (3, .int i3), (4, .long (Int64.ofNat 1)), (6, .int 0)], [], q3.2.1, q3.2.2, 0, 0)))
    else (some (.inr (some (.int (-1)), q3.2.1, q3.2.2)))))
set_option maxRecDepth 100000 in
theorem zr_276_0 (lay : zm_Lay) (σ : zm_Sig) (r0 : Nat) (i1 : Int32) (i2 : Int32) (i3 : Int32) : zm_blk zM zp_276 (some .int) 0 0 zc_276 125 (zp_276.drop 0) (0, [(0, .ref r0), (1, .int i1), (2, .int i2), (3, .int i3)], [], lay, σ, 0, 0) = zb_276_0 lay σ r0 i1 i2 i3 := rfl
theorem ze_276 {lay : zm_Lay} {σ : zm_Sig} {r0 : Nat} {i1 : Int32} {i2 : Int32} {i3 : Int32} {out : zm_Out} {r : zm_St ⊕ zm_Out} (h : zb_276_0 lay σ r0 i1 i2 i3 = some r) (hg : zm_end zp_P 276 out r) : zM 276 [.ref r0, .int i1, .int i2, .int i3] lay σ = some out :=
  zm_mean_go (M := zd_276) rfl (Nat.le_of_ble_eq_true rfl) (zm_blk_go (M := zd_276) rfl zs_276 125 (zp_276.drop 0) _ r (fun _ h => List.mem_of_mem_drop h) ((zr_276_0 lay σ r0 i1 i2 i3).trans h) hg)
noncomputable def zb_276_34 (lay : zm_Lay) (σ : zm_Sig) (r0 : Nat) (i1 : Int32) (i2 : Int32) (i3 : Int32) (l4 : Int64) (i6 : Int32) : Option (zm_St ⊕ zm_Out) :=
  if ((nI 5) : Int32) ≤ i6 then (some (.inl (67, [(0, .ref r0), (2, .int i2), (3, .int i3), (4, .long l4), (6, .int 0)], [], lay, σ, 0, 0)))
  else ((zm_is lay r0 10).bind fun _ =>
   zm_opt (σ.2.2 r0 45) (fun q1 =>
   if ¬ i6 = i1 then ((zm_sL lay σ q1 i6 (Int64.ofNat 0)).bind fun s2 =>
    some (.inl (34, [(0, .ref r0), (1, .int i1), (2, .int i2), (3, .int i3), (4, .long l4), (6, .int (i6 + 1))], [], lay, s2, 0, 0)))
   else ((zm_sL lay σ q1 i6 (Int64.ofNat 1)).bind fun s3 =>
    some (.inl (34, [(0, .ref r0), (1, .int i1), (2, .int i2), (3, .int i3), (4, .long l4), (6, .int (i6 + 1))], [], lay, s3, 0, 0)))) (none))
set_option maxRecDepth 100000 in
theorem zr_276_34 (lay : zm_Lay) (σ : zm_Sig) (r0 : Nat) (i1 : Int32) (i2 : Int32) (i3 : Int32) (l4 : Int64) (i6 : Int32) : zm_blk zM zp_276 (some .int) 0 0 zc_276 125 (zp_276.drop 19) (34, [(0, .ref r0), (1, .int i1), (2, .int i2), (3, .int i3), (4, .long l4), (6, .int i6)], [], lay, σ, 0, 0) = zb_276_34 lay σ r0 i1 i2 i3 l4 i6 := rfl
theorem zg_276_34 {lay : zm_Lay} {σ : zm_Sig} {r0 : Nat} {i1 : Int32} {i2 : Int32} {i3 : Int32} {l4 : Int64} {i6 : Int32} {out : zm_Out} {r : zm_St ⊕ zm_Out} (h : zb_276_34 lay σ r0 i1 i2 i3 l4 i6 = some r) (hg : zm_end zp_P 276 out r) : zm_go zp_P 276 (34, [(0, .ref r0), (1, .int i1), (2, .int i2), (3, .int i3), (4, .long l4), (6, .int i6)], [], lay, σ, 0, 0) out :=
  zm_blk_go (M := zd_276) rfl zs_276 125 (zp_276.drop 19) _ r (fun _ h => List.mem_of_mem_drop h) ((zr_276_34 lay σ r0 i1 i2 i3 l4 i6).trans h) hg
noncomputable def zb_276_67 (lay : zm_Lay) (σ : zm_Sig) (r0 : Nat) (i2 : Int32) (i3 : Int32) (l4 : Int64) (i6 : Int32) : Option (zm_St ⊕ zm_Out) :=
  if i3 ≤ i6 then ((zm_is lay r0 10).bind fun _ =>
   zm_opt (σ.2.2 r0 45) (fun q1 =>
   (zm_gL lay σ q1 i2).bind fun v2 =>
   (zm_is lay r0 10).bind fun _ => (zm_ai (zM 275 [.ref r0, .long v2, .long l4] lay σ)).bind fun q3 =>
   some (.inr (some (.int q3.1), q3.2.1, q3.2.2))) (none))
  else ((zm_is lay r0 10).bind fun _ =>
   some (.inl (90, [(0, .ref r0), (2, .int i2), (3, .int i3), (4, .long (l4 * ((Int64.ofNat 2) * ((σ.1 r0 5) : Int32).toInt64))), (6, .int i6), (7, .int 0)], [], lay, σ, 0, 0)))
set_option maxRecDepth 100000 in
theorem zr_276_67 (lay : zm_Lay) (σ : zm_Sig) (r0 : Nat) (i2 : Int32) (i3 : Int32) (l4 : Int64) (i6 : Int32) : zm_blk zM zp_276 (some .int) 0 0 zc_276 125 (zp_276.drop 36) (67, [(0, .ref r0), (2, .int i2), (3, .int i3), (4, .long l4), (6, .int i6)], [], lay, σ, 0, 0) = zb_276_67 lay σ r0 i2 i3 l4 i6 := rfl
theorem zg_276_67 {lay : zm_Lay} {σ : zm_Sig} {r0 : Nat} {i2 : Int32} {i3 : Int32} {l4 : Int64} {i6 : Int32} {out : zm_Out} {r : zm_St ⊕ zm_Out} (h : zb_276_67 lay σ r0 i2 i3 l4 i6 = some r) (hg : zm_end zp_P 276 out r) : zm_go zp_P 276 (67, [(0, .ref r0), (2, .int i2), (3, .int i3), (4, .long l4), (6, .int i6)], [], lay, σ, 0, 0) out :=
  zm_blk_go (M := zd_276) rfl zs_276 125 (zp_276.drop 36) _ r (fun _ h => List.mem_of_mem_drop h) ((zr_276_67 lay σ r0 i2 i3 l4 i6).trans h) hg
noncomputable def zb_276_90 (lay : zm_Lay) (σ : zm_Sig) (r0 : Nat) (i2 : Int32) (i3 : Int32) (l4 : Int64) (i6 : Int32) (i7 : Int32) : Option (zm_St ⊕ zm_Out) :=
  (zm_is lay r0 10).bind fun _ =>
  if (σ.1 r0 4) ≤ i7 then (some (.inl (179, [(0, .ref r0), (2, .int i2), (3, .int i3), (4, .long l4), (6, .int i6), (7, .int 0)], [], lay, σ, 0, 0)))
  else ((zm_is lay r0 10).bind fun _ =>
   zm_opt (σ.2.2 r0 46) (fun q1 =>
   (zm_sL lay σ q1 i7 (Int64.ofNat 0)).bind fun s2 =>
   some (.inl (110, [(0, .ref r0), (2, .int i2), (3, .int i3), (4, .long l4), (6, .int i6), (7, .int i7), (8, .int 0)], [], lay, s2, 0, 0))) (none))
set_option maxRecDepth 100000 in
theorem zr_276_90 (lay : zm_Lay) (σ : zm_Sig) (r0 : Nat) (i2 : Int32) (i3 : Int32) (l4 : Int64) (i6 : Int32) (i7 : Int32) : zm_blk zM zp_276 (some .int) 0 0 zc_276 125 (zp_276.drop 49) (90, [(0, .ref r0), (2, .int i2), (3, .int i3), (4, .long l4), (6, .int i6), (7, .int i7)], [], lay, σ, 0, 0) = zb_276_90 lay σ r0 i2 i3 l4 i6 i7 := rfl
theorem zg_276_90 {lay : zm_Lay} {σ : zm_Sig} {r0 : Nat} {i2 : Int32} {i3 : Int32} {l4 : Int64} {i6 : Int32} {i7 : Int32} {out : zm_Out} {r : zm_St ⊕ zm_Out} (h : zb_276_90 lay σ r0 i2 i3 l4 i6 i7 = some r) (hg : zm_end zp_P 276 out r) : zm_go zp_P 276 (90, [(0, .ref r0), (2, .int i2), (3, .int i3), (4, .long l4), (6, .int i6), (7, .int i7)], [], lay, σ, 0, 0) out :=
  zm_blk_go (M := zd_276) rfl zs_276 125 (zp_276.drop 49) _ r (fun _ h => List.mem_of_mem_drop h) ((zr_276_90 lay σ r0 i2 i3 l4 i6 i7).trans h) hg
noncomputable def zb_276_110 (lay : zm_Lay) (σ : zm_Sig) (r0 : Nat) (i2 : Int32) (i3 : Int32) (l4 : Int64) (i6 : Int32) (i7 : Int32) (i8 : Int32) : Option (zm_St ⊕ zm_Out) :=
  (zm_is lay r0 10).bind fun _ =>
  if (σ.1 r0 5) ≤ i8 then (some (.inl (90, [(0, .ref r0), (2, .int i2), (3, .int i3), (4, .long l4), (6, .int i6), (7, .int (i7 + 1))], [], lay, σ, 0, 0)))
  else ((zm_is lay r0 10).bind fun _ =>
   zm_opt (σ.2.2 r0 46) (fun q1 =>
   (zm_gL lay σ q1 i7).bind fun v2 =>
   (zm_is lay r0 10).bind fun _ =>
   zm_opt (σ.2.2 r0 45) (fun q3 =>
   (zm_is lay r0 10).bind fun _ =>
   zm_opt (σ.2.2 r0 7) (fun q4 =>
   (zm_gI lay σ q4 ((((nI 5) : Int32) * i8) + i7)).bind fun v5 =>
   (zm_gL lay σ q3 v5).bind fun v6 =>
   (zm_is lay r0 10).bind fun _ =>
   zm_opt (σ.2.2 r0 45) (fun q7 =>
   (zm_is lay r0 10).bind fun _ =>
   zm_opt (σ.2.2 r0 8) (fun q8 =>
   (zm_gI lay σ q8 ((((nI 5) : Int32) * i8) + i7)).bind fun v9 =>
   (zm_gL lay σ q7 v9).bind fun v10 =>
   (zm_sL lay σ q1 i7 (v2 + (v6 + v10))).bind fun s11 =>
   some (.inl (110, [(0, .ref r0), (2, .int i2), (3, .int i3), (4, .long l4), (6, .int i6), (7, .int i7), (8, .int (i8 + 1))], [], lay, s11, 0, 0))) (none)) (none)) (none)) (none)) (none))
set_option maxRecDepth 100000 in
theorem zr_276_110 (lay : zm_Lay) (σ : zm_Sig) (r0 : Nat) (i2 : Int32) (i3 : Int32) (l4 : Int64) (i6 : Int32) (i7 : Int32) (i8 : Int32) : zm_blk zM zp_276 (some .int) 0 0 zc_276 125 (zp_276.drop 60) (110, [(0, .ref r0), (2, .int i2), (3, .int i3), (4, .long l4), (6, .int i6), (7, .int i7), (8, .int i8)], [], lay, σ, 0, 0) = zb_276_110 lay σ r0 i2 i3 l4 i6 i7 i8 := rfl
theorem zg_276_110 {lay : zm_Lay} {σ : zm_Sig} {r0 : Nat} {i2 : Int32} {i3 : Int32} {l4 : Int64} {i6 : Int32} {i7 : Int32} {i8 : Int32} {out : zm_Out} {r : zm_St ⊕ zm_Out} (h : zb_276_110 lay σ r0 i2 i3 l4 i6 i7 i8 = some r) (hg : zm_end zp_P 276 out r) : zm_go zp_P 276 (110, [(0, .ref r0), (2, .int i2), (3, .int i3), (4, .long l4), (6, .int i6), (7, .int i7), (8, .int i8)], [], lay, σ, 0, 0) out :=
  zm_blk_go (M := zd_276) rfl zs_276 125 (zp_276.drop 60) _ r (fun _ h => List.mem_of_mem_drop h) ((zr_276_110 lay σ r0 i2 i3 l4 i6 i7 i8).trans h) hg
noncomputable def zb_276_179 (lay : zm_Lay) (σ : zm_Sig) (r0 : Nat) (i2 : Int32) (i3 : Int32) (l4 : Int64) (i6 : Int32) (i7 : Int32) : Option (zm_St ⊕ zm_Out) :=
  (zm_is lay r0 10).bind fun _ =>
  if (σ.1 r0 4) ≤ i7 then (some (.inl (67, [(0, .ref r0), (2, .int i2), (3, .int i3), (4, .long l4), (6, .int (i6 + 1))], [], lay, σ, 0, 0)))
  else ((zm_is lay r0 10).bind fun _ =>
   zm_opt (σ.2.2 r0 45) (fun q1 =>
   (zm_is lay r0 10).bind fun _ =>
   zm_opt (σ.2.2 r0 46) (fun q2 =>
   (zm_gL lay σ q2 i7).bind fun v3 =>
   (zm_sL lay σ q1 i7 v3).bind fun s4 =>
   some (.inl (179, [(0, .ref r0), (2, .int i2), (3, .int i3), (4, .long l4), (6, .int i6), (7, .int (i7 + 1))], [], lay, s4, 0, 0))) (none)) (none))
set_option maxRecDepth 100000 in
theorem zr_276_179 (lay : zm_Lay) (σ : zm_Sig) (r0 : Nat) (i2 : Int32) (i3 : Int32) (l4 : Int64) (i6 : Int32) (i7 : Int32) : zm_blk zM zp_276 (some .int) 0 0 zc_276 125 (zp_276.drop 100) (179, [(0, .ref r0), (2, .int i2), (3, .int i3), (4, .long l4), (6, .int i6), (7, .int i7)], [], lay, σ, 0, 0) = zb_276_179 lay σ r0 i2 i3 l4 i6 i7 := rfl
theorem zg_276_179 {lay : zm_Lay} {σ : zm_Sig} {r0 : Nat} {i2 : Int32} {i3 : Int32} {l4 : Int64} {i6 : Int32} {i7 : Int32} {out : zm_Out} {r : zm_St ⊕ zm_Out} (h : zb_276_179 lay σ r0 i2 i3 l4 i6 i7 = some r) (hg : zm_end zp_P 276 out r) : zm_go zp_P 276 (179, [(0, .ref r0), (2, .int i2), (3, .int i3), (4, .long l4), (6, .int i6), (7, .int i7)], [], lay, σ, 0, 0) out :=
  zm_blk_go (M := zd_276) rfl zs_276 125 (zp_276.drop 100) _ r (fun _ h => List.mem_of_mem_drop h) ((zr_276_179 lay σ r0 i2 i3 l4 i6 i7).trans h) hg
/-! SubgroupWriterModel.mid(II)I -/
theorem zs_277 : zm_srt zp_277 = true := by decide +kernel
noncomputable def zb_277_0 (lay : zm_Lay) (σ : zm_Sig) (r0 : Nat) (i1 : Int32) (i2 : Int32) : Option (zm_St ⊕ zm_Out) :=
  (zm_is lay r0 10).bind fun _ => (zm_ai (zM 216 [.ref r0, .int i1] lay σ)).bind fun q1 =>
  if q1.1 = 0 then (some (.inr (some (.int (-1)), q1.2.1, q1.2.2)))
  else ((zm_ai (zM 176 [.int i2, .int 0, .int (nI 4)] q1.2.1 q1.2.2)).bind fun q2 =>
   if ¬ q2.1 = 0 then (some (.inl (24, [(0, .ref r0), (1, .int i1), (2, .int i2), (3, .int 1), (4, .int 0)], [], q2.2.1, q2.2.2, 0, 0)))
   else (some (.inr (some (.int (-1)), q2.2.1, q2.2.2))))
set_option maxRecDepth 100000 in
theorem zr_277_0 (lay : zm_Lay) (σ : zm_Sig) (r0 : Nat) (i1 : Int32) (i2 : Int32) : zm_blk zM zp_277 (some .int) 0 0 zc_277 89 (zp_277.drop 0) (0, [(0, .ref r0), (1, .int i1), (2, .int i2)], [], lay, σ, 0, 0) = zb_277_0 lay σ r0 i1 i2 := rfl
theorem ze_277 {lay : zm_Lay} {σ : zm_Sig} {r0 : Nat} {i1 : Int32} {i2 : Int32} {out : zm_Out} {r : zm_St ⊕ zm_Out} (h : zb_277_0 lay σ r0 i1 i2 = some r) (hg : zm_end zp_P 277 out r) : zM 277 [.ref r0, .int i1, .int i2] lay σ = some out :=
  zm_mean_go (M := zd_277) rfl (Nat.le_of_ble_eq_true rfl) (zm_blk_go (M := zd_277) rfl zs_277 89 (zp_277.drop 0) _ r (fun _ h => List.mem_of_mem_drop h) ((zr_277_0 lay σ r0 i1 i2).trans h) hg)
noncomputable def zb_277_24 (lay : zm_Lay) (σ : zm_Sig) (r0 : Nat) (i1 : Int32) (i2 : Int32) (i3 : Int32) (i4 : Int32) : Option (zm_St ⊕ zm_Out) :=
  if i2 ≤ i4 then (some (.inl (51, [(0, .ref r0), (1, .int i1), (2, .int i2), (3, .int i3), (4, .long (Int64.ofNat 0)), (6, .int 0)], [], lay, σ, 0, 0)))
  else ((zm_is lay r0 10).bind fun _ =>
   some (.inl (24, [(0, .ref r0), (1, .int i1), (2, .int i2), (3, .int (i3 * (((nI 2) : Int32) * (σ.1 r0 5)))), (4, .int (i4 + 1))], [], lay, σ, 0, 0)))
set_option maxRecDepth 100000 in
theorem zr_277_24 (lay : zm_Lay) (σ : zm_Sig) (r0 : Nat) (i1 : Int32) (i2 : Int32) (i3 : Int32) (i4 : Int32) : zm_blk zM zp_277 (some .int) 0 0 zc_277 89 (zp_277.drop 15) (24, [(0, .ref r0), (1, .int i1), (2, .int i2), (3, .int i3), (4, .int i4)], [], lay, σ, 0, 0) = zb_277_24 lay σ r0 i1 i2 i3 i4 := rfl
theorem zg_277_24 {lay : zm_Lay} {σ : zm_Sig} {r0 : Nat} {i1 : Int32} {i2 : Int32} {i3 : Int32} {i4 : Int32} {out : zm_Out} {r : zm_St ⊕ zm_Out} (h : zb_277_24 lay σ r0 i1 i2 i3 i4 = some r) (hg : zm_end zp_P 277 out r) : zm_go zp_P 277 (24, [(0, .ref r0), (1, .int i1), (2, .int i2), (3, .int i3), (4, .int i4)], [], lay, σ, 0, 0) out :=
  zm_blk_go (M := zd_277) rfl zs_277 89 (zp_277.drop 15) _ r (fun _ h => List.mem_of_mem_drop h) ((zr_277_24 lay σ r0 i1 i2 i3 i4).trans h) hg
noncomputable def zb_277_51 (lay : zm_Lay) (σ : zm_Sig) (r0 : Nat) (i1 : Int32) (i2 : Int32) (i3 : Int32) (l4 : Int64) (i6 : Int32) : Option (zm_St ⊕ zm_Out) :=
  if i3 ≤ i6 then ((zm_is lay r0 10).bind fun _ => (zm_ai (zM 275 [.ref r0, .long l4, .long (i3 : Int32).toInt64] lay σ)).bind fun q1 =>
   some (.inr (some (.int q1.1), q1.2.1, q1.2.2)))
  else ((zm_is lay r0 10).bind fun _ => (zm_fw σ r0 40 0 (.int 0)).bind fun s2 =>
   some (.inl (72, [(0, .ref r0), (1, .int i1), (2, .int i2), (3, .int i3), (4, .long l4), (6, .int i6), (7, .int i6), (8, .int i1), (9, .int 0)], [], lay, s2, 0, 0)))
set_option maxRecDepth 100000 in
theorem zr_277_51 (lay : zm_Lay) (σ : zm_Sig) (r0 : Nat) (i1 : Int32) (i2 : Int32) (i3 : Int32) (l4 : Int64) (i6 : Int32) : zm_blk zM zp_277 (some .int) 0 0 zc_277 89 (zp_277.drop 31) (51, [(0, .ref r0), (1, .int i1), (2, .int i2), (3, .int i3), (4, .long l4), (6, .int i6)], [], lay, σ, 0, 0) = zb_277_51 lay σ r0 i1 i2 i3 l4 i6 := rfl
theorem zg_277_51 {lay : zm_Lay} {σ : zm_Sig} {r0 : Nat} {i1 : Int32} {i2 : Int32} {i3 : Int32} {l4 : Int64} {i6 : Int32} {out : zm_Out} {r : zm_St ⊕ zm_Out} (h : zb_277_51 lay σ r0 i1 i2 i3 l4 i6 = some r) (hg : zm_end zp_P 277 out r) : zm_go zp_P 277 (51, [(0, .ref r0), (1, .int i1), (2, .int i2), (3, .int i3), (4, .long l4), (6, .int i6)], [], lay, σ, 0, 0) out :=
  zm_blk_go (M := zd_277) rfl zs_277 89 (zp_277.drop 31) _ r (fun _ h => List.mem_of_mem_drop h) ((zr_277_51 lay σ r0 i1 i2 i3 l4 i6).trans h) hg
noncomputable def zb_277_72 (lay : zm_Lay) (σ : zm_Sig) (r0 : Nat) (i1 : Int32) (i2 : Int32) (i3 : Int32) (l4 : Int64) (i6 : Int32) (i7 : Int32) (i8 : Int32) (i9 : Int32) : Option (zm_St ⊕ zm_Out) :=
  if i2 ≤ i9 then ((zm_is lay r0 10).bind fun _ =>
   some (.inl (51, [(0, .ref r0), (1, .int i1), (2, .int i2), (3, .int i3), (4, .long (l4 + ((σ.1 r0 40) : Int32).toInt64)), (6, .int (i6 + 1))], [], lay, σ, 0, 0)))
  else ((zm_is lay r0 10).bind fun _ =>
   if (((nI 2) : Int32) * (σ.1 r0 5)) = 0 then none
   else ((zm_is lay r0 10).bind fun _ => (zm_ai (zM 204 [.ref r0, .int (i7 - i7 / (((nI 2) : Int32) * (σ.1 r0 5)) * (((nI 2) : Int32) * (σ.1 r0 5))), .int 0] lay σ)).bind fun q1 =>
   (zm_is q1.2.1 r0 10).bind fun _ =>
   if (((nI 2) : Int32) * (q1.2.2.1 r0 5)) = 0 then none
   else ((zm_is q1.2.1 r0 10).bind fun _ => (zm_av (zM 212 [.ref r0, .int i8, .int q1.1] q1.2.1 q1.2.2)).bind fun q2 =>
   (zm_is q2.1 r0 10).bind fun _ => (zm_ai (zM 205 [.ref r0, .int i8, .int q1.1] q2.1 q2.2)).bind fun q3 =>
   some (.inl (72, [(0, .ref r0), (1, .int i1), (2, .int i2), (3, .int i3), (4, .long l4), (6, .int i6), (7, .int (i7 / (((nI 2) : Int32) * (q1.2.2.1 r0 5)))), (8, .int q3.1), (9, .int (i9 + 1))], [], q3.2.1, q3.2.2, 0, 0)))))
set_option maxRecDepth 100000 in
theorem zr_277_72 (lay : zm_Lay) (σ : zm_Sig) (r0 : Nat) (i1 : Int32) (i2 : Int32) (i3 : Int32) (l4 : Int64) (i6 : Int32) (i7 : Int32) (i8 : Int32) (i9 : Int32) : zm_blk zM zp_277 (some .int) 0 0 zc_277 89 (zp_277.drop 43) (72, [(0, .ref r0), (1, .int i1), (2, .int i2), (3, .int i3), (4, .long l4), (6, .int i6), (7, .int i7), (8, .int i8), (9, .int i9)], [], lay, σ, 0, 0) = zb_277_72 lay σ r0 i1 i2 i3 l4 i6 i7 i8 i9 := rfl
theorem zg_277_72 {lay : zm_Lay} {σ : zm_Sig} {r0 : Nat} {i1 : Int32} {i2 : Int32} {i3 : Int32} {l4 : Int64} {i6 : Int32} {i7 : Int32} {i8 : Int32} {i9 : Int32} {out : zm_Out} {r : zm_St ⊕ zm_Out} (h : zb_277_72 lay σ r0 i1 i2 i3 l4 i6 i7 i8 i9 = some r) (hg : zm_end zp_P 277 out r) : zm_go zp_P 277 (72, [(0, .ref r0), (1, .int i1), (2, .int i2), (3, .int i3), (4, .long l4), (6, .int i6), (7, .int i7), (8, .int i8), (9, .int i9)], [], lay, σ, 0, 0) out :=
  zm_blk_go (M := zd_277) rfl zs_277 89 (zp_277.drop 43) _ r (fun _ h => List.mem_of_mem_drop h) ((zr_277_72 lay σ r0 i1 i2 i3 l4 i6 i7 i8 i9).trans h) hg
/-! SubgroupWriterModel.asked()I -/
theorem zs_278 : zm_srt zp_278 = true := by decide +kernel
noncomputable def zb_278_0 (lay : zm_Lay) (σ : zm_Sig) (r0 : Nat) : Option (zm_St ⊕ zm_Out) :=
  (zm_is lay r0 10).bind fun _ =>
  some (.inr (some (.int (σ.1 r0 26)), lay, σ))
set_option maxRecDepth 100000 in
theorem zr_278_0 (lay : zm_Lay) (σ : zm_Sig) (r0 : Nat) : zm_blk zM zp_278 (some .int) 0 0 zc_278 4 (zp_278.drop 0) (0, [(0, .ref r0)], [], lay, σ, 0, 0) = zb_278_0 lay σ r0 := rfl
theorem ze_278 {lay : zm_Lay} {σ : zm_Sig} {r0 : Nat} {out : zm_Out} {r : zm_St ⊕ zm_Out} (h : zb_278_0 lay σ r0 = some r) (hg : zm_end zp_P 278 out r) : zM 278 [.ref r0] lay σ = some out :=
  zm_mean_go (M := zd_278) rfl (Nat.le_of_ble_eq_true rfl) (zm_blk_go (M := zd_278) rfl zs_278 4 (zp_278.drop 0) _ r (fun _ h => List.mem_of_mem_drop h) ((zr_278_0 lay σ r0).trans h) hg)
/-! SubgroupWriterModel.upper()J -/
theorem zs_279 : zm_srt zp_279 = true := by decide +kernel
noncomputable def zb_279_0 (lay : zm_Lay) (σ : zm_Sig) (r0 : Nat) : Option (zm_St ⊕ zm_Out) :=
  (zm_is lay r0 10).bind fun _ =>
  some (.inr (some (.long (σ.2.1 r0 27)), lay, σ))
set_option maxRecDepth 100000 in
theorem zr_279_0 (lay : zm_Lay) (σ : zm_Sig) (r0 : Nat) : zm_blk zM zp_279 (some .long) 0 0 zc_279 4 (zp_279.drop 0) (0, [(0, .ref r0)], [], lay, σ, 0, 0) = zb_279_0 lay σ r0 := rfl
theorem ze_279 {lay : zm_Lay} {σ : zm_Sig} {r0 : Nat} {out : zm_Out} {r : zm_St ⊕ zm_Out} (h : zb_279_0 lay σ r0 = some r) (hg : zm_end zp_P 279 out r) : zM 279 [.ref r0] lay σ = some out :=
  zm_mean_go (M := zd_279) rfl (Nat.le_of_ble_eq_true rfl) (zm_blk_go (M := zd_279) rfl zs_279 4 (zp_279.drop 0) _ r (fun _ h => List.mem_of_mem_drop h) ((zr_279_0 lay σ r0).trans h) hg)
/-! SubgroupWriterModel.lower()J -/
theorem zs_280 : zm_srt zp_280 = true := by decide +kernel
noncomputable def zb_280_0 (lay : zm_Lay) (σ : zm_Sig) (r0 : Nat) : Option (zm_St ⊕ zm_Out) :=
  (zm_is lay r0 10).bind fun _ =>
  some (.inr (some (.long (σ.2.1 r0 28)), lay, σ))
set_option maxRecDepth 100000 in
theorem zr_280_0 (lay : zm_Lay) (σ : zm_Sig) (r0 : Nat) : zm_blk zM zp_280 (some .long) 0 0 zc_280 4 (zp_280.drop 0) (0, [(0, .ref r0)], [], lay, σ, 0, 0) = zb_280_0 lay σ r0 := rfl
theorem ze_280 {lay : zm_Lay} {σ : zm_Sig} {r0 : Nat} {out : zm_Out} {r : zm_St ⊕ zm_Out} (h : zb_280_0 lay σ r0 = some r) (hg : zm_end zp_P 280 out r) : zM 280 [.ref r0] lay σ = some out :=
  zm_mean_go (M := zd_280) rfl (Nat.le_of_ble_eq_true rfl) (zm_blk_go (M := zd_280) rfl zs_280 4 (zp_280.drop 0) _ r (fun _ h => List.mem_of_mem_drop h) ((zr_280_0 lay σ r0).trans h) hg)
/-! SubgroupWriterModel.count(I)I -/
theorem zs_281 : zm_srt zp_281 = true := by decide +kernel
noncomputable def zb_281_0 (lay : zm_Lay) (σ : zm_Sig) (r0 : Nat) (i1 : Int32) : Option (zm_St ⊕ zm_Out) :=
  if i1 = 0 then ((zm_is lay r0 10).bind fun _ =>
   some (.inr (some (.int (σ.1 r0 4)), lay, σ)))
  else if i1 = 1 then ((zm_is lay r0 10).bind fun _ =>
   some (.inr (some (.int (σ.1 r0 5)), lay, σ)))
  else if i1 = (nI 2) then ((zm_is lay r0 10).bind fun _ =>
   some (.inr (some (.int (σ.1 r0 6)), lay, σ)))
  else if i1 = (nI 3) then ((zm_is lay r0 10).bind fun _ =>
   zm_opt (σ.2.2 r0 21) (fun q1 =>
   (zm_gI lay σ q1 0).bind fun v2 =>
   some (.inr (some (.int v2), lay, σ))) (none))
  else if i1 = (nI 4) then ((zm_is lay r0 10).bind fun _ =>
   some (.inr (some (.int (σ.1 r0 20)), lay, σ)))
  else if i1 = (nI 5) then ((zm_is lay r0 10).bind fun _ =>
   zm_opt (σ.2.2 r0 21) (fun q3 =>
   (zm_gI lay σ q3 (nI 2)).bind fun v4 =>
   some (.inr (some (.int v4), lay, σ))) (none))
  else if i1 = (nI 6) then ((zm_is lay r0 10).bind fun _ =>
   zm_opt (σ.2.2 r0 21) (fun q5 =>
   (zm_gI lay σ q5 1).bind fun v6 =>
   some (.inr (some (.int v6), lay, σ))) (none))
  else if i1 = (nI 7) then ((zm_is lay r0 10).bind fun _ => (zm_ai (zM 282 [.ref r0] lay σ)).bind fun q7 =>
   some (.inr (some (.int q7.1), q7.2.1, q7.2.2)))
  else if i1 = (nI 8) then ((zm_is lay r0 10).bind fun _ =>
   some (.inr (some (.int (σ.1 r0 23)), lay, σ)))
  else if i1 = (nI 9) then ((zm_is lay r0 10).bind fun _ => (zm_ai (zM 283 [.ref r0, .int (nI 3)] lay σ)).bind fun q8 =>
   some (.inr (some (.int q8.1), q8.2.1, q8.2.2)))
  else if i1 = (nI 10) then ((zm_is lay r0 10).bind fun _ => (zm_ai (zM 283 [.ref r0, .int (nI 4)] lay σ)).bind fun q9 =>
   some (.inr (some (.int q9.1), q9.2.1, q9.2.2)))
  else if i1 = (nI 11) then ((zm_is lay r0 10).bind fun _ =>
   zm_opt (σ.2.2 r0 0) (fun q10 =>
   (zm_ai (zM 284 [.ref q10] lay σ)).bind fun q11 =>
   some (.inr (some (.int q11.1), q11.2.1, q11.2.2))) (none))
  else if i1 = (nI 12) then ((zm_is lay r0 10).bind fun _ =>
   zm_opt (σ.2.2 r0 2) (fun q12 =>
   (zm_ai (zM 284 [.ref q12] lay σ)).bind fun q13 =>
   some (.inr (some (.int q13.1), q13.2.1, q13.2.2))) (none))
  else if i1 = (nI 13) then ((zm_is lay r0 10).bind fun _ => (zm_ai (zM 285 [.ref r0] lay σ)).bind fun q14 =>
   some (.inr (some (.int q14.1), q14.2.1, q14.2.2)))
  else (some (.inr (some (.int (-1)), lay, σ)))
set_option maxRecDepth 100000 in
theorem zr_281_0 (lay : zm_Lay) (σ : zm_Sig) (r0 : Nat) (i1 : Int32) : zm_blk zM zp_281 (some .int) 0 0 zc_281 57 (zp_281.drop 0) (0, [(0, .ref r0), (1, .int i1)], [], lay, σ, 0, 0) = zb_281_0 lay σ r0 i1 := rfl
theorem ze_281 {lay : zm_Lay} {σ : zm_Sig} {r0 : Nat} {i1 : Int32} {out : zm_Out} {r : zm_St ⊕ zm_Out} (h : zb_281_0 lay σ r0 i1 = some r) (hg : zm_end zp_P 281 out r) : zM 281 [.ref r0, .int i1] lay σ = some out :=
  zm_mean_go (M := zd_281) rfl (Nat.le_of_ble_eq_true rfl) (zm_blk_go (M := zd_281) rfl zs_281 57 (zp_281.drop 0) _ r (fun _ h => List.mem_of_mem_drop h) ((zr_281_0 lay σ r0 i1).trans h) hg)
/-! SubgroupWriterModel.allSigns()I -/
theorem zs_282 : zm_srt zp_282 = true := by decide +kernel
noncomputable def zb_282_0 (lay : zm_Lay) (σ : zm_Sig) (r0 : Nat) : Option (zm_St ⊕ zm_Out) :=
  some (.inl (4, [(0, .ref r0), (1, .int 0), (2, .int 0)], [], lay, σ, 0, 0))
set_option maxRecDepth 100000 in
theorem zr_282_0 (lay : zm_Lay) (σ : zm_Sig) (r0 : Nat) : zm_blk zM zp_282 (some .int) 0 0 zc_282 24 (zp_282.drop 0) (0, [(0, .ref r0)], [], lay, σ, 0, 0) = zb_282_0 lay σ r0 := rfl
theorem ze_282 {lay : zm_Lay} {σ : zm_Sig} {r0 : Nat} {out : zm_Out} {r : zm_St ⊕ zm_Out} (h : zb_282_0 lay σ r0 = some r) (hg : zm_end zp_P 282 out r) : zM 282 [.ref r0] lay σ = some out :=
  zm_mean_go (M := zd_282) rfl (Nat.le_of_ble_eq_true rfl) (zm_blk_go (M := zd_282) rfl zs_282 24 (zp_282.drop 0) _ r (fun _ h => List.mem_of_mem_drop h) ((zr_282_0 lay σ r0).trans h) hg)
noncomputable def zb_282_4 (lay : zm_Lay) (σ : zm_Sig) (r0 : Nat) (i1 : Int32) (i2 : Int32) : Option (zm_St ⊕ zm_Out) :=
  (zm_is lay r0 10).bind fun _ =>
  zm_opt (σ.2.2 r0 21) (fun q1 =>
  (zm_gI lay σ q1 1).bind fun v2 =>
  if v2 ≤ i2 then (some (.inr (some (.int i1), lay, σ)))
  else ((zm_is lay r0 10).bind fun _ =>
   zm_opt (σ.2.2 r0 21) (fun q3 =>
   (zm_gI lay σ q3 (((nI 3) : Int32) + i2)).bind fun v4 =>
   some (.inl (4, [(0, .ref r0), (1, .int (i1 + v4)), (2, .int (i2 + 1))], [], lay, σ, 0, 0))) (none))) (none)
set_option maxRecDepth 100000 in
theorem zr_282_4 (lay : zm_Lay) (σ : zm_Sig) (r0 : Nat) (i1 : Int32) (i2 : Int32) : zm_blk zM zp_282 (some .int) 0 0 zc_282 24 (zp_282.drop 4) (4, [(0, .ref r0), (1, .int i1), (2, .int i2)], [], lay, σ, 0, 0) = zb_282_4 lay σ r0 i1 i2 := rfl
theorem zg_282_4 {lay : zm_Lay} {σ : zm_Sig} {r0 : Nat} {i1 : Int32} {i2 : Int32} {out : zm_Out} {r : zm_St ⊕ zm_Out} (h : zb_282_4 lay σ r0 i1 i2 = some r) (hg : zm_end zp_P 282 out r) : zm_go zp_P 282 (4, [(0, .ref r0), (1, .int i1), (2, .int i2)], [], lay, σ, 0, 0) out :=
  zm_blk_go (M := zd_282) rfl zs_282 24 (zp_282.drop 4) _ r (fun _ h => List.mem_of_mem_drop h) ((zr_282_4 lay σ r0 i1 i2).trans h) hg
/-! SubgroupWriterModel.those(I)I -/
theorem zs_283 : zm_srt zp_283 = true := by decide +kernel
noncomputable def zb_283_0 (lay : zm_Lay) (σ : zm_Sig) (r0 : Nat) (i1 : Int32) : Option (zm_St ⊕ zm_Out) :=
  some (.inl (4, [(0, .ref r0), (1, .int i1), (2, .int 0), (3, .int 0)], [], lay, σ, 0, 0))
set_option maxRecDepth 100000 in
theorem zr_283_0 (lay : zm_Lay) (σ : zm_Sig) (r0 : Nat) (i1 : Int32) : zm_blk zM zp_283 (some .int) 0 0 zc_283 28 (zp_283.drop 0) (0, [(0, .ref r0), (1, .int i1)], [], lay, σ, 0, 0) = zb_283_0 lay σ r0 i1 := rfl
theorem ze_283 {lay : zm_Lay} {σ : zm_Sig} {r0 : Nat} {i1 : Int32} {out : zm_Out} {r : zm_St ⊕ zm_Out} (h : zb_283_0 lay σ r0 i1 = some r) (hg : zm_end zp_P 283 out r) : zM 283 [.ref r0, .int i1] lay σ = some out :=
  zm_mean_go (M := zd_283) rfl (Nat.le_of_ble_eq_true rfl) (zm_blk_go (M := zd_283) rfl zs_283 28 (zp_283.drop 0) _ r (fun _ h => List.mem_of_mem_drop h) ((zr_283_0 lay σ r0 i1).trans h) hg)
noncomputable def zb_283_4 (lay : zm_Lay) (σ : zm_Sig) (r0 : Nat) (i1 : Int32) (i2 : Int32) (i3 : Int32) : Option (zm_St ⊕ zm_Out) :=
  (zm_is lay r0 10).bind fun _ =>
  (zm_is lay r0 10).bind fun _ =>
  if ((σ.1 r0 4) * (σ.1 r0 5)) ≤ i3 then (some (.inr (some (.int i2), lay, σ)))
  else ((zm_is lay r0 10).bind fun _ =>
   zm_opt (σ.2.2 r0 17) (fun q1 =>
   (zm_gI lay σ q1 i3).bind fun v2 =>
   if ¬ v2 = i1 then (some (.inl (4, [(0, .ref r0), (1, .int i1), (2, .int (i2 + 0)), (3, .int (i3 + 1))], [], lay, σ, 0, 0)))
   else (some (.inl (4, [(0, .ref r0), (1, .int i1), (2, .int (i2 + 1)), (3, .int (i3 + 1))], [], lay, σ, 0, 0)))) (none))
set_option maxRecDepth 100000 in
theorem zr_283_4 (lay : zm_Lay) (σ : zm_Sig) (r0 : Nat) (i1 : Int32) (i2 : Int32) (i3 : Int32) : zm_blk zM zp_283 (some .int) 0 0 zc_283 28 (zp_283.drop 4) (4, [(0, .ref r0), (1, .int i1), (2, .int i2), (3, .int i3)], [], lay, σ, 0, 0) = zb_283_4 lay σ r0 i1 i2 i3 := rfl
theorem zg_283_4 {lay : zm_Lay} {σ : zm_Sig} {r0 : Nat} {i1 : Int32} {i2 : Int32} {i3 : Int32} {out : zm_Out} {r : zm_St ⊕ zm_Out} (h : zb_283_4 lay σ r0 i1 i2 i3 = some r) (hg : zm_end zp_P 283 out r) : zm_go zp_P 283 (4, [(0, .ref r0), (1, .int i1), (2, .int i2), (3, .int i3)], [], lay, σ, 0, 0) out :=
  zm_blk_go (M := zd_283) rfl zs_283 28 (zp_283.drop 4) _ r (fun _ h => List.mem_of_mem_drop h) ((zr_283_4 lay σ r0 i1 i2 i3).trans h) hg
/-! SubgroupWriterModel.there([I)I -/
theorem zs_284 : zm_srt zp_284 = true := by decide +kernel
noncomputable def zb_284_0 (lay : zm_Lay) (σ : zm_Sig) (r0 : Nat) : Option (zm_St ⊕ zm_Out) :=
  some (.inl (4, [(0, .ref r0), (1, .int 0), (2, .int 0)], [], lay, σ, 0, 0))
set_option maxRecDepth 100000 in
theorem zr_284_0 (lay : zm_Lay) (σ : zm_Sig) (r0 : Nat) : zm_blk zM zp_284 (some .int) 0 0 zc_284 23 (zp_284.drop 0) (0, [(0, .ref r0)], [], lay, σ, 0, 0) = zb_284_0 lay σ r0 := rfl
theorem ze_284 {lay : zm_Lay} {σ : zm_Sig} {r0 : Nat} {out : zm_Out} {r : zm_St ⊕ zm_Out} (h : zb_284_0 lay σ r0 = some r) (hg : zm_end zp_P 284 out r) : zM 284 [.ref r0] lay σ = some out :=
  zm_mean_go (M := zd_284) rfl (Nat.le_of_ble_eq_true rfl) (zm_blk_go (M := zd_284) rfl zs_284 23 (zp_284.drop 0) _ r (fun _ h => List.mem_of_mem_drop h) ((zr_284_0 lay σ r0).trans h) hg)
noncomputable def zb_284_4 (lay : zm_Lay) (σ : zm_Sig) (r0 : Nat) (i1 : Int32) (i2 : Int32) : Option (zm_St ⊕ zm_Out) :=
  (zm_len lay r0).bind fun v1 =>
  if v1 ≤ i2 then (some (.inr (some (.int i1), lay, σ)))
  else ((zm_gI lay σ r0 i2).bind fun v2 =>
   if (0 : Int32) ≤ v2 then (some (.inl (4, [(0, .ref r0), (1, .int (i1 + 1)), (2, .int (i2 + 1))], [], lay, σ, 0, 0)))
   else (some (.inl (4, [(0, .ref r0), (1, .int (i1 + 0)), (2, .int (i2 + 1))], [], lay, σ, 0, 0))))
set_option maxRecDepth 100000 in
theorem zr_284_4 (lay : zm_Lay) (σ : zm_Sig) (r0 : Nat) (i1 : Int32) (i2 : Int32) : zm_blk zM zp_284 (some .int) 0 0 zc_284 23 (zp_284.drop 4) (4, [(0, .ref r0), (1, .int i1), (2, .int i2)], [], lay, σ, 0, 0) = zb_284_4 lay σ r0 i1 i2 := rfl
theorem zg_284_4 {lay : zm_Lay} {σ : zm_Sig} {r0 : Nat} {i1 : Int32} {i2 : Int32} {out : zm_Out} {r : zm_St ⊕ zm_Out} (h : zb_284_4 lay σ r0 i1 i2 = some r) (hg : zm_end zp_P 284 out r) : zm_go zp_P 284 (4, [(0, .ref r0), (1, .int i1), (2, .int i2)], [], lay, σ, 0, 0) out :=
  zm_blk_go (M := zd_284) rfl zs_284 23 (zp_284.drop 4) _ r (fun _ h => List.mem_of_mem_drop h) ((zr_284_4 lay σ r0 i1 i2).trans h) hg
/-! SubgroupWriterModel.keptMany()I -/
theorem zs_285 : zm_srt zp_285 = true := by decide +kernel
noncomputable def zb_285_0 (lay : zm_Lay) (σ : zm_Sig) (r0 : Nat) : Option (zm_St ⊕ zm_Out) :=
  some (.inl (4, [(0, .ref r0), (1, .int 0), (2, .int 0)], [], lay, σ, 0, 0))
set_option maxRecDepth 100000 in
theorem zr_285_0 (lay : zm_Lay) (σ : zm_Sig) (r0 : Nat) : zm_blk zM zp_285 (some .int) 0 0 zc_285 23 (zp_285.drop 0) (0, [(0, .ref r0)], [], lay, σ, 0, 0) = zb_285_0 lay σ r0 := rfl
theorem ze_285 {lay : zm_Lay} {σ : zm_Sig} {r0 : Nat} {out : zm_Out} {r : zm_St ⊕ zm_Out} (h : zb_285_0 lay σ r0 = some r) (hg : zm_end zp_P 285 out r) : zM 285 [.ref r0] lay σ = some out :=
  zm_mean_go (M := zd_285) rfl (Nat.le_of_ble_eq_true rfl) (zm_blk_go (M := zd_285) rfl zs_285 23 (zp_285.drop 0) _ r (fun _ h => List.mem_of_mem_drop h) ((zr_285_0 lay σ r0).trans h) hg)
noncomputable def zb_285_4 (lay : zm_Lay) (σ : zm_Sig) (r0 : Nat) (i1 : Int32) (i2 : Int32) : Option (zm_St ⊕ zm_Out) :=
  if ((nI 3) : Int32) ≤ i2 then (some (.inr (some (.int i1), lay, σ)))
  else ((zm_is lay r0 10).bind fun _ =>
   zm_opt (σ.2.2 r0 25) (fun q1 =>
   (zm_gZ lay σ q1 i2).bind fun v2 =>
   if v2 = 0 then (some (.inl (4, [(0, .ref r0), (1, .int (i1 + 0)), (2, .int (i2 + 1))], [], lay, σ, 0, 0)))
   else (some (.inl (4, [(0, .ref r0), (1, .int (i1 + 1)), (2, .int (i2 + 1))], [], lay, σ, 0, 0)))) (none))
set_option maxRecDepth 100000 in
theorem zr_285_4 (lay : zm_Lay) (σ : zm_Sig) (r0 : Nat) (i1 : Int32) (i2 : Int32) : zm_blk zM zp_285 (some .int) 0 0 zc_285 23 (zp_285.drop 4) (4, [(0, .ref r0), (1, .int i1), (2, .int i2)], [], lay, σ, 0, 0) = zb_285_4 lay σ r0 i1 i2 := rfl
theorem zg_285_4 {lay : zm_Lay} {σ : zm_Sig} {r0 : Nat} {i1 : Int32} {i2 : Int32} {out : zm_Out} {r : zm_St ⊕ zm_Out} (h : zb_285_4 lay σ r0 i1 i2 = some r) (hg : zm_end zp_P 285 out r) : zm_go zp_P 285 (4, [(0, .ref r0), (1, .int i1), (2, .int i2)], [], lay, σ, 0, 0) out :=
  zm_blk_go (M := zd_285) rfl zs_285 23 (zp_285.drop 4) _ r (fun _ h => List.mem_of_mem_drop h) ((zr_285_4 lay σ r0 i1 i2).trans h) hg
/-! SubgroupWriterModel.finding()I -/
theorem zs_286 : zm_srt zp_286 = true := by decide +kernel
noncomputable def zb_286_0 (lay : zm_Lay) (σ : zm_Sig) (r0 : Nat) : Option (zm_St ⊕ zm_Out) :=
  (zm_is lay r0 10).bind fun _ =>
  some (.inr (some (.int (σ.1 r0 29)), lay, σ))
set_option maxRecDepth 100000 in
theorem zr_286_0 (lay : zm_Lay) (σ : zm_Sig) (r0 : Nat) : zm_blk zM zp_286 (some .int) 0 0 zc_286 4 (zp_286.drop 0) (0, [(0, .ref r0)], [], lay, σ, 0, 0) = zb_286_0 lay σ r0 := rfl
theorem ze_286 {lay : zm_Lay} {σ : zm_Sig} {r0 : Nat} {out : zm_Out} {r : zm_St ⊕ zm_Out} (h : zb_286_0 lay σ r0 = some r) (hg : zm_end zp_P 286 out r) : zM 286 [.ref r0] lay σ = some out :=
  zm_mean_go (M := zd_286) rfl (Nat.le_of_ble_eq_true rfl) (zm_blk_go (M := zd_286) rfl zs_286 4 (zp_286.drop 0) _ r (fun _ h => List.mem_of_mem_drop h) ((zr_286_0 lay σ r0).trans h) hg)
/-! SubgroupWriterModel.findings(I)I -/
theorem zs_287 : zm_srt zp_287 = true := by decide +kernel
noncomputable def zb_287_0 (lay : zm_Lay) (σ : zm_Sig) (r0 : Nat) (i1 : Int32) : Option (zm_St ⊕ zm_Out) :=
  (zm_ai (zM 176 [.int i1, .int 1, .int (nI 5)] lay σ)).bind fun q1 =>
  if q1.1 = 0 then (some (.inr (some (.int (-1)), q1.2.1, q1.2.2)))
  else ((zm_is q1.2.1 r0 10).bind fun _ =>
   zm_opt (q1.2.2.2.2 r0 30) (fun q2 =>
   (zm_gI q1.2.1 q1.2.2 q2 i1).bind fun v3 =>
   some (.inr (some (.int v3), q1.2.1, q1.2.2))) (none))
set_option maxRecDepth 100000 in
theorem zr_287_0 (lay : zm_Lay) (σ : zm_Sig) (r0 : Nat) (i1 : Int32) : zm_blk zM zp_287 (some .int) 0 0 zc_287 13 (zp_287.drop 0) (0, [(0, .ref r0), (1, .int i1)], [], lay, σ, 0, 0) = zb_287_0 lay σ r0 i1 := rfl
theorem ze_287 {lay : zm_Lay} {σ : zm_Sig} {r0 : Nat} {i1 : Int32} {out : zm_Out} {r : zm_St ⊕ zm_Out} (h : zb_287_0 lay σ r0 i1 = some r) (hg : zm_end zp_P 287 out r) : zM 287 [.ref r0, .int i1] lay σ = some out :=
  zm_mean_go (M := zd_287) rfl (Nat.le_of_ble_eq_true rfl) (zm_blk_go (M := zd_287) rfl zs_287 13 (zp_287.drop 0) _ r (fun _ h => List.mem_of_mem_drop h) ((zr_287_0 lay σ r0 i1).trans h) hg)
/-! SubgroupWriterModel.digest()J -/
theorem zs_288 : zm_srt zp_288 = true := by decide +kernel
noncomputable def zb_288_0 (lay : zm_Lay) (σ : zm_Sig) (r0 : Nat) : Option (zm_St ⊕ zm_Out) :=
  some (.inl (6, [(0, .ref r0), (1, .long (Int64.ofNat 17)), (3, .int 0)], [], lay, σ, 0, 0))
set_option maxRecDepth 100000 in
theorem zr_288_0 (lay : zm_Lay) (σ : zm_Sig) (r0 : Nat) : zm_blk zM zp_288 (some .long) 0 0 zc_288 224 (zp_288.drop 0) (0, [(0, .ref r0)], [], lay, σ, 0, 0) = zb_288_0 lay σ r0 := rfl
theorem ze_288 {lay : zm_Lay} {σ : zm_Sig} {r0 : Nat} {out : zm_Out} {r : zm_St ⊕ zm_Out} (h : zb_288_0 lay σ r0 = some r) (hg : zm_end zp_P 288 out r) : zM 288 [.ref r0] lay σ = some out :=
  zm_mean_go (M := zd_288) rfl (Nat.le_of_ble_eq_true rfl) (zm_blk_go (M := zd_288) rfl zs_288 224 (zp_288.drop 0) _ r (fun _ h => List.mem_of_mem_drop h) ((zr_288_0 lay σ r0).trans h) hg)
noncomputable def zb_288_6 (lay : zm_Lay) (σ : zm_Sig) (r0 : Nat) (l1 : Int64) (i3 : Int32) : Option (zm_St ⊕ zm_Out) :=
  if ((nI 14) : Int32) ≤ i3 then (some (.inl (33, [(0, .ref r0), (1, .long l1), (3, .int 0)], [], lay, σ, 0, 0)))
  else ((zm_is lay r0 10).bind fun _ => (zm_ai (zM 281 [.ref r0, .int i3] lay σ)).bind fun q1 =>
   some (.inl (6, [(0, .ref r0), (1, .long (((Int64.ofNat 31) * l1) + (q1.1 : Int32).toInt64)), (3, .int (i3 + 1))], [], q1.2.1, q1.2.2, 0, 0)))
set_option maxRecDepth 100000 in
theorem zr_288_6 (lay : zm_Lay) (σ : zm_Sig) (r0 : Nat) (l1 : Int64) (i3 : Int32) : zm_blk zM zp_288 (some .long) 0 0 zc_288 224 (zp_288.drop 4) (6, [(0, .ref r0), (1, .long l1), (3, .int i3)], [], lay, σ, 0, 0) = zb_288_6 lay σ r0 l1 i3 := rfl
theorem zg_288_6 {lay : zm_Lay} {σ : zm_Sig} {r0 : Nat} {l1 : Int64} {i3 : Int32} {out : zm_Out} {r : zm_St ⊕ zm_Out} (h : zb_288_6 lay σ r0 l1 i3 = some r) (hg : zm_end zp_P 288 out r) : zm_go zp_P 288 (6, [(0, .ref r0), (1, .long l1), (3, .int i3)], [], lay, σ, 0, 0) out :=
  zm_blk_go (M := zd_288) rfl zs_288 224 (zp_288.drop 4) _ r (fun _ h => List.mem_of_mem_drop h) ((zr_288_6 lay σ r0 l1 i3).trans h) hg
noncomputable def zb_288_33 (lay : zm_Lay) (σ : zm_Sig) (r0 : Nat) (l1 : Int64) (i3 : Int32) : Option (zm_St ⊕ zm_Out) :=
  (zm_is lay r0 10).bind fun _ =>
  if (((nI 4) : Int32) * (σ.1 r0 4)) ≤ i3 then (some (.inl (69, [(0, .ref r0), (1, .long l1), (3, .int 0)], [], lay, σ, 0, 0)))
  else ((zm_is lay r0 10).bind fun _ => (zm_ai (zM 219 [.ref r0, .int (i3 / (nI 4)), .int (i3 - i3 / (nI 4) * (nI 4))] lay σ)).bind fun q1 =>
   some (.inl (33, [(0, .ref r0), (1, .long (((Int64.ofNat 31) * l1) + (q1.1 : Int32).toInt64)), (3, .int (i3 + 1))], [], q1.2.1, q1.2.2, 0, 0)))
set_option maxRecDepth 100000 in
theorem zr_288_33 (lay : zm_Lay) (σ : zm_Sig) (r0 : Nat) (l1 : Int64) (i3 : Int32) : zm_blk zM zp_288 (some .long) 0 0 zc_288 224 (zp_288.drop 20) (33, [(0, .ref r0), (1, .long l1), (3, .int i3)], [], lay, σ, 0, 0) = zb_288_33 lay σ r0 l1 i3 := rfl
theorem zg_288_33 {lay : zm_Lay} {σ : zm_Sig} {r0 : Nat} {l1 : Int64} {i3 : Int32} {out : zm_Out} {r : zm_St ⊕ zm_Out} (h : zb_288_33 lay σ r0 l1 i3 = some r) (hg : zm_end zp_P 288 out r) : zm_go zp_P 288 (33, [(0, .ref r0), (1, .long l1), (3, .int i3)], [], lay, σ, 0, 0) out :=
  zm_blk_go (M := zd_288) rfl zs_288 224 (zp_288.drop 20) _ r (fun _ h => List.mem_of_mem_drop h) ((zr_288_33 lay σ r0 l1 i3).trans h) hg
noncomputable def zb_288_69 (lay : zm_Lay) (σ : zm_Sig) (r0 : Nat) (l1 : Int64) (i3 : Int32) : Option (zm_St ⊕ zm_Out) :=
  (zm_is lay r0 10).bind fun _ =>
  (zm_is lay r0 10).bind fun _ =>
  if ((((nI 5) : Int32) * (σ.1 r0 4)) * (σ.1 r0 5)) ≤ i3 then (some (.inl (110, [(0, .ref r0), (1, .long l1), (3, .int 0)], [], lay, σ, 0, 0)))
  else ((zm_is lay r0 10).bind fun _ => (zm_ai (zM 223 [.ref r0, .int (i3 / (nI 5)), .int (i3 - i3 / (nI 5) * (nI 5))] lay σ)).bind fun q1 =>
   some (.inl (69, [(0, .ref r0), (1, .long (((Int64.ofNat 31) * l1) + (q1.1 : Int32).toInt64)), (3, .int (i3 + 1))], [], q1.2.1, q1.2.2, 0, 0)))
set_option maxRecDepth 100000 in
theorem zr_288_69 (lay : zm_Lay) (σ : zm_Sig) (r0 : Nat) (l1 : Int64) (i3 : Int32) : zm_blk zM zp_288 (some .long) 0 0 zc_288 224 (zp_288.drop 44) (69, [(0, .ref r0), (1, .long l1), (3, .int i3)], [], lay, σ, 0, 0) = zb_288_69 lay σ r0 l1 i3 := rfl
theorem zg_288_69 {lay : zm_Lay} {σ : zm_Sig} {r0 : Nat} {l1 : Int64} {i3 : Int32} {out : zm_Out} {r : zm_St ⊕ zm_Out} (h : zb_288_69 lay σ r0 l1 i3 = some r) (hg : zm_end zp_P 288 out r) : zm_go zp_P 288 (69, [(0, .ref r0), (1, .long l1), (3, .int i3)], [], lay, σ, 0, 0) out :=
  zm_blk_go (M := zd_288) rfl zs_288 224 (zp_288.drop 44) _ r (fun _ h => List.mem_of_mem_drop h) ((zr_288_69 lay σ r0 l1 i3).trans h) hg
noncomputable def zb_288_110 (lay : zm_Lay) (σ : zm_Sig) (r0 : Nat) (l1 : Int64) (i3 : Int32) : Option (zm_St ⊕ zm_Out) :=
  (zm_is lay r0 10).bind fun _ =>
  zm_opt (σ.2.2 r0 21) (fun q1 =>
  (zm_gI lay σ q1 1).bind fun v2 =>
  if v2 ≤ i3 then (some (.inl (181, [(0, .ref r0), (1, .long l1), (3, .int 0)], [], lay, σ, 0, 0)))
  else ((zm_is lay r0 10).bind fun _ =>
   zm_opt (σ.2.2 r0 21) (fun q3 =>
   (zm_gI lay σ q3 (((nI 3) : Int32) + i3)).bind fun v4 =>
   some (.inl (139, [(0, .ref r0), (1, .long (((Int64.ofNat 31) * l1) + (v4 : Int32).toInt64)), (3, .int i3), (4, .int 0)], [], lay, σ, 0, 0))) (none))) (none)
set_option maxRecDepth 100000 in
theorem zr_288_110 (lay : zm_Lay) (σ : zm_Sig) (r0 : Nat) (l1 : Int64) (i3 : Int32) : zm_blk zM zp_288 (some .long) 0 0 zc_288 224 (zp_288.drop 71) (110, [(0, .ref r0), (1, .long l1), (3, .int i3)], [], lay, σ, 0, 0) = zb_288_110 lay σ r0 l1 i3 := rfl
theorem zg_288_110 {lay : zm_Lay} {σ : zm_Sig} {r0 : Nat} {l1 : Int64} {i3 : Int32} {out : zm_Out} {r : zm_St ⊕ zm_Out} (h : zb_288_110 lay σ r0 l1 i3 = some r) (hg : zm_end zp_P 288 out r) : zm_go zp_P 288 (110, [(0, .ref r0), (1, .long l1), (3, .int i3)], [], lay, σ, 0, 0) out :=
  zm_blk_go (M := zd_288) rfl zs_288 224 (zp_288.drop 71) _ r (fun _ h => List.mem_of_mem_drop h) ((zr_288_110 lay σ r0 l1 i3).trans h) hg
noncomputable def zb_288_139 (lay : zm_Lay) (σ : zm_Sig) (r0 : Nat) (l1 : Int64) (i3 : Int32) (i4 : Int32) : Option (zm_St ⊕ zm_Out) :=
  (zm_is lay r0 10).bind fun _ =>
  zm_opt (σ.2.2 r0 21) (fun q1 =>
  (zm_gI lay σ q1 (((nI 3) : Int32) + i3)).bind fun v2 =>
  if v2 ≤ i4 then (some (.inl (110, [(0, .ref r0), (1, .long l1), (3, .int (i3 + 1))], [], lay, σ, 0, 0)))
  else ((zm_is lay r0 10).bind fun _ => (zm_ai (zM 238 [.ref r0, .int i3, .int i4] lay σ)).bind fun q3 =>
   some (.inl (139, [(0, .ref r0), (1, .long (((Int64.ofNat 31) * l1) + (q3.1 : Int32).toInt64)), (3, .int i3), (4, .int (i4 + 1))], [], q3.2.1, q3.2.2, 0, 0)))) (none)
set_option maxRecDepth 100000 in
theorem zr_288_139 (lay : zm_Lay) (σ : zm_Sig) (r0 : Nat) (l1 : Int64) (i3 : Int32) (i4 : Int32) : zm_blk zM zp_288 (some .long) 0 0 zc_288 224 (zp_288.drop 91) (139, [(0, .ref r0), (1, .long l1), (3, .int i3), (4, .int i4)], [], lay, σ, 0, 0) = zb_288_139 lay σ r0 l1 i3 i4 := rfl
theorem zg_288_139 {lay : zm_Lay} {σ : zm_Sig} {r0 : Nat} {l1 : Int64} {i3 : Int32} {i4 : Int32} {out : zm_Out} {r : zm_St ⊕ zm_Out} (h : zb_288_139 lay σ r0 l1 i3 i4 = some r) (hg : zm_end zp_P 288 out r) : zm_go zp_P 288 (139, [(0, .ref r0), (1, .long l1), (3, .int i3), (4, .int i4)], [], lay, σ, 0, 0) out :=
  zm_blk_go (M := zd_288) rfl zs_288 224 (zp_288.drop 91) _ r (fun _ h => List.mem_of_mem_drop h) ((zr_288_139 lay σ r0 l1 i3 i4).trans h) hg
noncomputable def zb_288_181 (lay : zm_Lay) (σ : zm_Sig) (r0 : Nat) (l1 : Int64) (i3 : Int32) : Option (zm_St ⊕ zm_Out) :=
  if ((nI 3) : Int32) ≤ i3 then (some (.inl (225, [(0, .ref r0), (1, .long l1), (3, .int 0)], [], lay, σ, 0, 0)))
  else ((zm_is lay r0 10).bind fun _ =>
   zm_opt (σ.2.2 r0 25) (fun q1 =>
   (zm_gZ lay σ q1 i3).bind fun v2 =>
   if v2 = 0 then (some (.inl (181, [(0, .ref r0), (1, .long (((Int64.ofNat 31) * l1) + ((-1) : Int32).toInt64)), (3, .int (i3 + 1))], [], lay, σ, 0, 0)))
   else ((zm_is lay r0 10).bind fun _ =>
    zm_opt (σ.2.2 r0 24) (fun q3 =>
    (zm_gI lay σ q3 (((nI 5419) : Int32) * i3)).bind fun v4 =>
    some (.inl (181, [(0, .ref r0), (1, .long (((Int64.ofNat 31) * l1) + (v4 : Int32).toInt64)), (3, .int (i3 + 1))], [], lay, σ, 0, 0))) (none))) (none))
set_option maxRecDepth 100000 in
theorem zr_288_181 (lay : zm_Lay) (σ : zm_Sig) (r0 : Nat) (l1 : Int64) (i3 : Int32) : zm_blk zM zp_288 (some .long) 0 0 zc_288 224 (zp_288.drop 115) (181, [(0, .ref r0), (1, .long l1), (3, .int i3)], [], lay, σ, 0, 0) = zb_288_181 lay σ r0 l1 i3 := rfl
theorem zg_288_181 {lay : zm_Lay} {σ : zm_Sig} {r0 : Nat} {l1 : Int64} {i3 : Int32} {out : zm_Out} {r : zm_St ⊕ zm_Out} (h : zb_288_181 lay σ r0 l1 i3 = some r) (hg : zm_end zp_P 288 out r) : zm_go zp_P 288 (181, [(0, .ref r0), (1, .long l1), (3, .int i3)], [], lay, σ, 0, 0) out :=
  zm_blk_go (M := zd_288) rfl zs_288 224 (zp_288.drop 115) _ r (fun _ h => List.mem_of_mem_drop h) ((zr_288_181 lay σ r0 l1 i3).trans h) hg
noncomputable def zb_288_225 (lay : zm_Lay) (σ : zm_Sig) (r0 : Nat) (l1 : Int64) (i3 : Int32) : Option (zm_St ⊕ zm_Out) :=
  if ((nI 6) : Int32) ≤ i3 then (some (.inl (293, [(0, .ref r0), (1, .long l1), (3, .int 0)], [], lay, σ, 0, 0)))
  else ((zm_is lay r0 10).bind fun _ =>
   zm_opt (σ.2.2 r0 0) (fun q1 =>
   (zm_gI lay σ q1 i3).bind fun v2 =>
   some (.inl (248, [(0, .ref r0), (1, .long (((Int64.ofNat 31) * l1) + (v2 : Int32).toInt64)), (3, .int i3), (4, .int 0)], [], lay, σ, 0, 0))) (none))
set_option maxRecDepth 100000 in
theorem zr_288_225 (lay : zm_Lay) (σ : zm_Sig) (r0 : Nat) (l1 : Int64) (i3 : Int32) : zm_blk zM zp_288 (some .long) 0 0 zc_288 224 (zp_288.drop 141) (225, [(0, .ref r0), (1, .long l1), (3, .int i3)], [], lay, σ, 0, 0) = zb_288_225 lay σ r0 l1 i3 := rfl
theorem zg_288_225 {lay : zm_Lay} {σ : zm_Sig} {r0 : Nat} {l1 : Int64} {i3 : Int32} {out : zm_Out} {r : zm_St ⊕ zm_Out} (h : zb_288_225 lay σ r0 l1 i3 = some r) (hg : zm_end zp_P 288 out r) : zm_go zp_P 288 (225, [(0, .ref r0), (1, .long l1), (3, .int i3)], [], lay, σ, 0, 0) out :=
  zm_blk_go (M := zd_288) rfl zs_288 224 (zp_288.drop 141) _ r (fun _ h => List.mem_of_mem_drop h) ((zr_288_225 lay σ r0 l1 i3).trans h) hg
noncomputable def zb_288_248 (lay : zm_Lay) (σ : zm_Sig) (r0 : Nat) (l1 : Int64) (i3 : Int32) (i4 : Int32) : Option (zm_St ⊕ zm_Out) :=
  (zm_is lay r0 10).bind fun _ =>
  zm_opt (σ.2.2 r0 0) (fun q1 =>
  (zm_gI lay σ q1 i3).bind fun v2 =>
  if v2 ≤ i4 then (some (.inl (225, [(0, .ref r0), (1, .long l1), (3, .int (i3 + 1))], [], lay, σ, 0, 0)))
  else ((zm_is lay r0 10).bind fun _ =>
   zm_opt (σ.2.2 r0 1) (fun q3 =>
   (zm_gI lay σ q3 ((((nI 40) : Int32) * i3) + i4)).bind fun v4 =>
   some (.inl (248, [(0, .ref r0), (1, .long (((Int64.ofNat 31) * l1) + (v4 : Int32).toInt64)), (3, .int i3), (4, .int (i4 + 1))], [], lay, σ, 0, 0))) (none))) (none)
set_option maxRecDepth 100000 in
theorem zr_288_248 (lay : zm_Lay) (σ : zm_Sig) (r0 : Nat) (l1 : Int64) (i3 : Int32) (i4 : Int32) : zm_blk zM zp_288 (some .long) 0 0 zc_288 224 (zp_288.drop 156) (248, [(0, .ref r0), (1, .long l1), (3, .int i3), (4, .int i4)], [], lay, σ, 0, 0) = zb_288_248 lay σ r0 l1 i3 i4 := rfl
theorem zg_288_248 {lay : zm_Lay} {σ : zm_Sig} {r0 : Nat} {l1 : Int64} {i3 : Int32} {i4 : Int32} {out : zm_Out} {r : zm_St ⊕ zm_Out} (h : zb_288_248 lay σ r0 l1 i3 i4 = some r) (hg : zm_end zp_P 288 out r) : zm_go zp_P 288 (248, [(0, .ref r0), (1, .long l1), (3, .int i3), (4, .int i4)], [], lay, σ, 0, 0) out :=
  zm_blk_go (M := zd_288) rfl zs_288 224 (zp_288.drop 156) _ r (fun _ h => List.mem_of_mem_drop h) ((zr_288_248 lay σ r0 l1 i3 i4).trans h) hg
noncomputable def zb_288_293 (lay : zm_Lay) (σ : zm_Sig) (r0 : Nat) (l1 : Int64) (i3 : Int32) : Option (zm_St ⊕ zm_Out) :=
  if ((nI 4) : Int32) ≤ i3 then (some (.inr (some (.long l1), lay, σ)))
  else ((zm_is lay r0 10).bind fun _ =>
   zm_opt (σ.2.2 r0 2) (fun q1 =>
   (zm_gI lay σ q1 i3).bind fun v2 =>
   some (.inl (315, [(0, .ref r0), (1, .long (((Int64.ofNat 31) * l1) + (v2 : Int32).toInt64)), (3, .int i3), (4, .int 0)], [], lay, σ, 0, 0))) (none))
set_option maxRecDepth 100000 in
theorem zr_288_293 (lay : zm_Lay) (σ : zm_Sig) (r0 : Nat) (l1 : Int64) (i3 : Int32) : zm_blk zM zp_288 (some .long) 0 0 zc_288 224 (zp_288.drop 182) (293, [(0, .ref r0), (1, .long l1), (3, .int i3)], [], lay, σ, 0, 0) = zb_288_293 lay σ r0 l1 i3 := rfl
theorem zg_288_293 {lay : zm_Lay} {σ : zm_Sig} {r0 : Nat} {l1 : Int64} {i3 : Int32} {out : zm_Out} {r : zm_St ⊕ zm_Out} (h : zb_288_293 lay σ r0 l1 i3 = some r) (hg : zm_end zp_P 288 out r) : zm_go zp_P 288 (293, [(0, .ref r0), (1, .long l1), (3, .int i3)], [], lay, σ, 0, 0) out :=
  zm_blk_go (M := zd_288) rfl zs_288 224 (zp_288.drop 182) _ r (fun _ h => List.mem_of_mem_drop h) ((zr_288_293 lay σ r0 l1 i3).trans h) hg
noncomputable def zb_288_315 (lay : zm_Lay) (σ : zm_Sig) (r0 : Nat) (l1 : Int64) (i3 : Int32) (i4 : Int32) : Option (zm_St ⊕ zm_Out) :=
  (zm_is lay r0 10).bind fun _ =>
  zm_opt (σ.2.2 r0 2) (fun q1 =>
  (zm_gI lay σ q1 i3).bind fun v2 =>
  if v2 ≤ i4 then (some (.inl (293, [(0, .ref r0), (1, .long l1), (3, .int (i3 + 1))], [], lay, σ, 0, 0)))
  else ((zm_is lay r0 10).bind fun _ =>
   zm_opt (σ.2.2 r0 3) (fun q3 =>
   (zm_gI lay σ q3 ((((nI 60) : Int32) * i3) + i4)).bind fun v4 =>
   some (.inl (315, [(0, .ref r0), (1, .long (((Int64.ofNat 31) * l1) + (v4 : Int32).toInt64)), (3, .int i3), (4, .int (i4 + 1))], [], lay, σ, 0, 0))) (none))) (none)
set_option maxRecDepth 100000 in
theorem zr_288_315 (lay : zm_Lay) (σ : zm_Sig) (r0 : Nat) (l1 : Int64) (i3 : Int32) (i4 : Int32) : zm_blk zM zp_288 (some .long) 0 0 zc_288 224 (zp_288.drop 197) (315, [(0, .ref r0), (1, .long l1), (3, .int i3), (4, .int i4)], [], lay, σ, 0, 0) = zb_288_315 lay σ r0 l1 i3 i4 := rfl
theorem zg_288_315 {lay : zm_Lay} {σ : zm_Sig} {r0 : Nat} {l1 : Int64} {i3 : Int32} {i4 : Int32} {out : zm_Out} {r : zm_St ⊕ zm_Out} (h : zb_288_315 lay σ r0 l1 i3 i4 = some r) (hg : zm_end zp_P 288 out r) : zm_go zp_P 288 (315, [(0, .ref r0), (1, .long l1), (3, .int i3), (4, .int i4)], [], lay, σ, 0, 0) out :=
  zm_blk_go (M := zd_288) rfl zs_288 224 (zp_288.drop 197) _ r (fun _ h => List.mem_of_mem_drop h) ((zr_288_315 lay σ r0 l1 i3 i4).trans h) hg
