/-! SubgroupWriterModel.digest()J -/
theorem zs_288 : zm_srt zp_288 = true := by decide +kernel
noncomputable def zb_288_0 (lay : zm_Lay) (σ : zm_Sig) (r0 : Nat) : Option (zm_St ⊕ zm_Out) :=
  some (.inl (6, [(0, .ref r0), (1, .long (Int64.ofNat 17)), (3, .int 0)], [], lay, σ, 0, 0))
set_option maxRecDepth 100000 in
theorem zr_288_0 (lay : zm_Lay) (σ : zm_Sig) (r0 : Nat) : zm_blk zM zp_288 (some .long) 0 0 zc_288 224 (zp_288.drop 0) (0, [(0, .ref r0)], [], lay, σ, 0, 0) = zb_288_0 lay σ r0 := rfl
theorem ze_288 {lay : zm_Lay} {σ : zm_Sig} {r0 : Nat} {out : zm_Out} {r : zm_St ⊕ zm_Out} (h : zb_288_0 lay σ r0 = some r) (hg : zm_end zp_P 288 out r) : zM 288 [.ref r0] lay σ = some out :=
  zm_mean_go (M := zd_288) rfl (Nat.le_of_ble_eq_true rfl) (zm_blk_go (M := zd_288) rfl zs_288 224 (zp_288.drop 0) _ r (fun _ h => List.mem_of_mem_drop h) ((zr_288_0 lay σ r0).trans h) hg)
noncomputable def zb_288_6 (lay : zm_Lay) (σ : zm_Sig) (r0 : Nat) (l1 : Int64) (i3 : Int32) : Option (zm_St ⊕ zm_Out) :=
  if ((nI 14) : Int32) ≤ i3 then (some (.inl (33, [(0, .ref r0), (1, .long l1), (3, .int 0)], [], lay, σ, 0, 0)))
  else ((zm_is lay r0 10).bind fun _ => (zm_ai (zM 281 [.ref r0, .int i3] lay σ)).bind fun q1 =>
   some (.inl (6, [(0, .ref r0), (1, .long (((Int64.ofNat 31) * l1) + (q1.1 : Int32).toInt64)), (3, .int (i3 + 1))], [], q1.2.1, q1.2.2, 0, 0)))
set_option maxRecDepth 100000 in
theorem zr_288_6 (lay : zm_Lay) (σ : zm_Sig) (r0 : Nat) (l1 : Int64) (i3 : Int32) : zm_blk zM zp_288 (some .long) 0 0 zc_288 224 (zp_288.drop 4) (6, [(0, .ref r0), (1, .long l1), (3, .int i3)], [], lay, σ, 0, 0) = zb_288_6 lay σ r0 l1 i3 := rfl
theorem zg_288_6 {lay : zm_Lay} {σ : zm_Sig} {r0 : Nat} {l1 : Int64} {i3 : Int32} {out : zm_Out} {r : zm_St ⊕ zm_Out} (h : zb_288_6 lay σ r0 l1 i3 = some r) (hg : zm_end zp_P 288 out r) : zm_go zp_P 288 (6, [(0, .ref r0), (1, .long l1), (3, .int i3)], [], lay, σ, 0, 0) out :=
  zm_blk_go (M := zd_288) rfl zs_288 224 (zp_288.drop 4) _ r (fun _ h => List.mem_of_mem_drop h) ((zr_288_6 lay σ r0 l1 i3).trans h) hg
noncomputable def zb_288_33 (lay : zm_Lay) (σ : zm_Sig) (r0 : Nat) (l1 : Int64) (i3 : Int32) : Option (zm_St ⊕ zm_Out) :=
  (zm_is lay r0 10).bind fun _ =>
  if (((nI 4) : Int32) * (σ.1 r0 4)) ≤ i3 then (some (.inl (69, [(0, .ref r0), (1, .long l1), (3, .int 0)], [], lay, σ, 0, 0)))
  else ((zm_is lay r0 10).bind fun _ => (zm_ai (zM 219 [.ref r0, .int (i3 / (nI 4)), .int (i3 - i3 / (nI 4) * (nI 4))] lay σ)).bind fun q1 =>
   some (.inl (33, [(0, .ref r0), (1, .long (((Int64.ofNat 31) * l1) + (q1.1 : Int32).toInt64)), (3, .int (i3 + 1))], [], q1.2.1, q1.2.2, 0, 0)))
set_option maxRecDepth 100000 in
theorem zr_288_33 (lay : zm_Lay) (σ : zm_Sig) (r0 : Nat) (l1 : Int64) (i3 : Int32) : zm_blk zM zp_288 (some .long) 0 0 zc_288 224 (zp_288.drop 20) (33, [(0, .ref r0), (1, .long l1), (3, .int i3)], [], lay, σ, 0, 0) = zb_288_33 lay σ r0 l1 i3 := rfl
theorem zg_288_33 {lay : zm_Lay} {σ : zm_Sig} {r0 : Nat} {l1 : Int64} {i3 : Int32} {out : zm_Out} {r : zm_St ⊕ zm_Out} (h : zb_288_33 lay σ r0 l1 i3 = some r) (hg : zm_end zp_P 288 out r) : zm_go zp_P 288 (33, [(0, .ref r0), (1, .long l1), (3, .int i3)], [], lay, σ, 0, 0) out :=
  zm_blk_go (M := zd_288) rfl zs_288 224 (zp_288.drop 20) _ r (fun _ h => List.mem_of_mem_drop h) ((zr_288_33 lay σ r0 l1 i3).trans h) hg
noncomputable def zb_288_69 (lay : zm_Lay) (σ : zm_Sig) (r0 : Nat) (l1 : Int64) (i3 : Int32) : Option (zm_St ⊕ zm_Out) :=
  (zm_is lay r0 10).bind fun _ =>
  (zm_is lay r0 10).bind fun _ =>
  if ((((nI 5) : Int32) * (σ.1 r0 4)) * (σ.1 r0 5)) ≤ i3 then (some (.inl (110, [(0, .ref r0), (1, .long l1), (3, .int 0)], [], lay, σ, 0, 0)))
  else ((zm_is lay r0 10).bind fun _ => (zm_ai (zM 223 [.ref r0, .int (i3 / (nI 5)), .int (i3 - i3 / (nI 5) * (nI 5))] lay σ)).bind fun q1 =>
   some (.inl (69, [(0, .ref r0), (1, .long (((Int64.ofNat 31) * l1) + (q1.1 : Int32).toInt64)), (3, .int (i3 + 1))], [], q1.2.1, q1.2.2, 0, 0)))
set_option maxRecDepth 100000 in
theorem zr_288_69 (lay : zm_Lay) (σ : zm_Sig) (r0 : Nat) (l1 : Int64) (i3 : Int32) : zm_blk zM zp_288 (some .long) 0 0 zc_288 224 (zp_288.drop 44) (69, [(0, .ref r0), (1, .long l1), (3, .int i3)], [], lay, σ, 0, 0) = zb_288_69 lay σ r0 l1 i3 := rfl
theorem zg_288_69 {lay : zm_Lay} {σ : zm_Sig} {r0 : Nat} {l1 : Int64} {i3 : Int32} {out : zm_Out} {r : zm_St ⊕ zm_Out} (h : zb_288_69 lay σ r0 l1 i3 = some r) (hg : zm_end zp_P 288 out r) : zm_go zp_P 288 (69, [(0, .ref r0), (1, .long l1), (3, .int i3)], [], lay, σ, 0, 0) out :=
  zm_blk_go (M := zd_288) rfl zs_288 224 (zp_288.drop 44) _ r (fun _ h => List.mem_of_mem_drop h) ((zr_288_69 lay σ r0 l1 i3).trans h) hg
noncomputable def zb_288_110 (lay : zm_Lay) (σ : zm_Sig) (r0 : Nat) (l1 : Int64) (i3 : Int32) : Option (zm_St ⊕ zm_Out) :=
  (zm_is lay r0 10).bind fun _ =>
  zm_opt (σ.2.2 r0 21) (fun q1 =>
  (zm_gI lay σ q1 1).bind fun v2 =>
  if v2 ≤ i3 then (some (.inl (181, [(0, .ref r0), (1, .long l1), (3, .int 0)], [], lay, σ, 0, 0)))
  else ((zm_is lay r0 10).bind fun _ =>
   zm_opt (σ.2.2 r0 21) (fun q3 =>
   (zm_gI lay σ q3 (((nI 3) : Int32) + i3)).bind fun v4 =>
   some (.inl (139, [(0, .ref r0), (1, .long (((Int64.ofNat 31) * l1) + (v4 : Int32).toInt64)), (3, .int i3), (4, .int 0)], [], lay, σ, 0, 0))) (none))) (none)
set_option maxRecDepth 100000 in
theorem zr_288_110 (lay : zm_Lay) (σ : zm_Sig) (r0 : Nat) (l1 : Int64) (i3 : Int32) : zm_blk zM zp_288 (some .long) 0 0 zc_288 224 (zp_288.drop 71) (110, [(0, .ref r0), (1, .long l1), (3, .int i3)], [], lay, σ, 0, 0) = zb_288_110 lay σ r0 l1 i3 := rfl
theorem zg_288_110 {lay : zm_Lay} {σ : zm_Sig} {r0 : Nat} {l1 : Int64} {i3 : Int32} {out : zm_Out} {r : zm_St ⊕ zm_Out} (h : zb_288_110 lay σ r0 l1 i3 = some r) (hg : zm_end zp_P 288 out r) : zm_go zp_P 288 (110, [(0, .ref r0), (1, .long l1), (3, .int i3)], [], lay, σ, 0, 0) out :=
  zm_blk_go (M := zd_288) rfl zs_288 224 (zp_288.drop 71) _ r (fun _ h => List.mem_of_mem_drop h) ((zr_288_110 lay σ r0 l1 i3).trans h) hg
noncomputable def zb_288_139 (lay : zm_Lay) (σ : zm_Sig) (r0 : Nat) (l1 : Int64) (i3 : Int32) (i4 : Int32) : Option (zm_St ⊕ zm_Out) :=
  (zm_is lay r0 10).bind fun _ =>
  zm_opt (σ.2.2 r0 21) (fun q1 =>
  (zm_gI lay σ q1 (((nI 3) : Int32) + i3)).bind fun v2 =>
  if v2 ≤ i4 then (some (.inl (110, [(0, .ref r0), (1, .long l1), (3, .int (i3 + 1))], [], lay, σ, 0, 0)))
  else ((zm_is lay r0 10).bind fun _ => (zm_ai (zM 238 [.ref r0, .int i3, .int i4] lay σ)).bind fun q3 =>
   some (.inl (139, [(0, .ref r0), (1, .long (((Int64.ofNat 31) * l1) + (q3.1 : Int32).toInt64)), (3, .int i3), (4, .int (i4 + 1))], [], q3.2.1, q3.2.2, 0, 0)))) (none)
set_option maxRecDepth 100000 in
theorem zr_288_139 (lay : zm_Lay) (σ : zm_Sig) (r0 : Nat) (l1 : Int64) (i3 : Int32) (i4 : Int32) : zm_blk zM zp_288 (some .long) 0 0 zc_288 224 (zp_288.drop 91) (139, [(0, .ref r0), (1, .long l1), (3, .int i3), (4, .int i4)], [], lay, σ, 0, 0) = zb_288_139 lay σ r0 l1 i3 i4 := rfl
theorem zg_288_139 {lay : zm_Lay} {σ : zm_Sig} {r0 : Nat} {l1 : Int64} {i3 : Int32} {i4 : Int32} {out : zm_Out} {r : zm_St ⊕ zm_Out} (h : zb_288_139 lay σ r0 l1 i3 i4 = some r) (hg : zm_end zp_P 288 out r) : zm_go zp_P 288 (139, [(0, .ref r0), (1, .long l1), (3, .int i3), (4, .int i4)], [], lay, σ, 0, 0) out :=
  zm_blk_go (M := zd_288) rfl zs_288 224 (zp_288.drop 91) _ r (fun _ h => List.mem_of_mem_drop h) ((zr_288_139 lay σ r0 l1 i3 i4).trans h) hg
noncomputable def zb_288_181 (lay : zm_Lay) (σ : zm_Sig) (r0 : Nat) (l1 : Int64) (i3 : Int32) : Option (zm_St ⊕ zm_Out) :=
  if ((nI 3) : Int32) ≤ i3 then (some (.inl (225, [(0, .ref r0), (1, .long l1), (3, .int 0)], [], lay, σ, 0, 0)))
  else ((zm_is lay r0 10).bind fun _ =>
   zm_opt (σ.2.2 r0 25) (fun q1 =>
   (zm_gZ lay σ q1 i3).bind fun v2 =>
   if v2 = 0 then (some (.inl (181, [(0, .ref r0), (1, .long (((Int64.ofNat 31) * l1) + ((-1) : Int32).toInt64)), (3, .int (i3 + 1))], [], lay, σ, 0, 0)))
   else ((zm_is lay r0 10).bind fun _ =>
    zm_opt (σ.2.2 r0 24) (fun q3 =>
    (zm_gI lay σ q3 (((nI 5419) : Int32) * i3)).bind fun v4 =>
    some (.inl (181, [(0, .ref r0), (1, .long (((Int64.ofNat 31) * l1) + (v4 : Int32).toInt64)), (3, .int (i3 + 1))], [], lay, σ, 0, 0))) (none))) (none))
set_option maxRecDepth 100000 in
theorem zr_288_181 (lay : zm_Lay) (σ : zm_Sig) (r0 : Nat) (l1 : Int64) (i3 : Int32) : zm_blk zM zp_288 (some .long) 0 0 zc_288 224 (zp_288.drop 115) (181, [(0, .ref r0), (1, .long l1), (3, .int i3)], [], lay, σ, 0, 0) = zb_288_181 lay σ r0 l1 i3 := rfl
theorem zg_288_181 {lay : zm_Lay} {σ : zm_Sig} {r0 : Nat} {l1 : Int64} {i3 : Int32} {out : zm_Out} {r : zm_St ⊕ zm_Out} (h : zb_288_181 lay σ r0 l1 i3 = some r) (hg : zm_end zp_P 288 out r) : zm_go zp_P 288 (181, [(0, .ref r0), (1, .long l1), (3, .int i3)], [], lay, σ, 0, 0) out :=
  zm_blk_go (M := zd_288) rfl zs_288 224 (zp_288.drop 115) _ r (fun _ h => List.mem_of_mem_drop h) ((zr_288_181 lay σ r0 l1 i3).trans h) hg
noncomputable def zb_288_225 (lay : zm_Lay) (σ : zm_Sig) (r0 : Nat) (l1 : Int64) (i3 : Int32) : Option (zm_St ⊕ zm_Out) :=
  if ((nI 6) : Int32) ≤ i3 then (some (.inl (293, [(0, .ref r0), (1, .long l1), (3, .int 0)], [], lay, σ, 0, 0)))
  else ((zm_is lay r0 10).bind fun _ =>
   zm_opt (σ.2.2 r0 0) (fun q1 =>
   (zm_gI lay σ q1 i3).bind fun v2 =>
   some (.inl (248, [(0, .ref r0), (1, .long (((Int64.ofNat 31) * l1) + (v2 : Int32).toInt64)), (3, .int i3), (4, .int 0)], [], lay, σ, 0, 0))) (none))
set_option maxRecDepth 100000 in
theorem zr_288_225 (lay : zm_Lay) (σ : zm_Sig) (r0 : Nat) (l1 : Int64) (i3 : Int32) : zm_blk zM zp_288 (some .long) 0 0 zc_288 224 (zp_288.drop 141) (225, [(0, .ref r0), (1, .long l1), (3, .int i3)], [], lay, σ, 0, 0) = zb_288_225 lay σ r0 l1 i3 := rfl
theorem zg_288_225 {lay : zm_Lay} {σ : zm_Sig} {r0 : Nat} {l1 : Int64} {i3 : Int32} {out : zm_Out} {r : zm_St ⊕ zm_Out} (h : zb_288_225 lay σ r0 l1 i3 = some r) (hg : zm_end zp_P 288 out r) : zm_go zp_P 288 (225, [(0, .ref r0), (1, .long l1), (3, .int i3)], [], lay, σ, 0, 0) out :=
  zm_blk_go (M := zd_288) rfl zs_288 224 (zp_288.drop 141) _ r (fun _ h => List.mem_of_mem_drop h) ((zr_288_225 lay σ r0 l1 i3).trans h) hg
noncomputable def zb_288_248 (lay : zm_Lay) (σ : zm_Sig) (r0 : Nat) (l1 : Int64) (i3 : Int32) (i4 : Int32) : Option (zm_St ⊕ zm_Out) :=
  (zm_is lay r0 10).bind fun _ =>
  zm_opt (σ.2.2 r0 0) (fun q1 =>
  (zm_gI lay σ q1 i3).bind fun v2 =>
  if v2 ≤ i4 then (some (.inl (225, [(0, .ref r0), (1, .long l1), (3, .int (i3 + 1))], [], lay, σ, 0, 0)))
  else ((zm_is lay r0 10).bind fun _ =>
   zm_opt (σ.2.2 r0 1) (fun q3 =>
   (zm_gI lay σ q3 ((((nI 40) : Int32) * i3) + i4)).bind fun v4 =>
   some (.inl (248, [(0, .ref r0), (1, .long (((Int64.ofNat 31) * l1) + (v4 : Int32).toInt64)), (3, .int i3), (4, .int (i4 + 1))], [], lay, σ, 0, 0))) (none))) (none)
set_option maxRecDepth 100000 in
theorem zr_288_248 (lay : zm_Lay) (σ : zm_Sig) (r0 : Nat) (l1 : Int64) (i3 : Int32) (i4 : Int32) : zm_blk zM zp_288 (some .long) 0 0 zc_288 224 (zp_288.drop 156) (248, [(0, .ref r0), (1, .long l1), (3, .int i3), (4, .int i4)], [], lay, σ, 0, 0) = zb_288_248 lay σ r0 l1 i3 i4 := rfl
theorem zg_288_248 {lay : zm_Lay} {σ : zm_Sig} {r0 : Nat} {l1 : Int64} {i3 : Int32} {i4 : Int32} {out : zm_Out} {r : zm_St ⊕ zm_Out} (h : zb_288_248 lay σ r0 l1 i3 i4 = some r) (hg : zm_end zp_P 288 out r) : zm_go zp_P 288 (248, [(0, .ref r0), (1, .long l1), (3, .int i3), (4, .int i4)], [], lay, σ, 0, 0) out :=
  zm_blk_go (M := zd_288) rfl zs_288 224 (zp_288.drop 156) _ r (fun _ h => List.mem_of_mem_drop h) ((zr_288_248 lay σ r0 l1 i3 i4).trans h) hg
noncomputable def zb_288_293 (lay : zm_Lay) (σ : zm_Sig) (r0 : Nat) (l1 : Int64) (i3 : Int32) : Option (zm_St ⊕ zm_Out) :=
  if ((nI 4) : Int32) ≤ i3 then (some (.inr (some (.long l1), lay, σ)))
  else ((zm_is lay r0 10).bind fun _ =>
   zm_opt (σ.2.2 r0 2) (fun q1 =>
   (zm_gI lay σ q1 i3).bind fun v2 =>
   some (.inl (315, [(0, .ref r0), (1, .long (((Int64.ofNat 31) * l1) + (v2 : Int32).toInt64)), (3, .int i3), (4, .int 0)], [], lay, σ, 0, 0))) (none))
set_option maxRecDepth 100000 in
theorem zr_288_293 (lay : zm_Lay) (σ : zm_Sig) (r0 : Nat) (l1 : Int64) (i3 : Int32) : zm_blk zM zp_288 (some .long) 0 0 zc_288 224 (zp_288.drop 182) (293, [(0, .ref r0), (1, .long l1), (3, .int i3)], [], lay, σ, 0, 0) = zb_288_293 lay σ r0 l1 i3 := rfl
theorem zg_288_293 {lay : zm_Lay} {σ : zm_Sig} {r0 : Nat} {l1 : Int64} {i3 : Int32} {out : zm_Out} {r : zm_St ⊕ zm_Out} (h : zb_288_293 lay σ r0 l1 i3 = some r) (hg : zm_end zp_P 288 out r) : zm_go zp_P 288 (293, [(0, .ref r0), (1, .long l1), (3, .int i3)], [], lay, σ, 0, 0) out :=
  zm_blk_go (M := zd_288) rfl zs_288 224 (zp_288.drop 182) _ r (fun _ h => List.mem_of_mem_drop h) ((zr_288_293 lay σ r0 l1 i3).trans h) hg
noncomputable def zb_288_315 (lay : zm_Lay) (σ : zm_Sig) (r0 : Nat) (l1 : Int64) (i3 : Int32) (i4 : Int32) : Option (zm_St ⊕ zm_Out) :=
  (zm_is lay r0 10).bind fun _ =>
  zm_opt (σ.2.2 r0 2) (fun q1 =>
  (zm_gI lay σ q1 i3).bind fun v2 =>
  if v2 ≤ i4 then (some (.inl (293, [(0, .ref r0), (1, .long l1), (3, .int (i3 + 1))], [], lay, σ, 0, 0)))
  else ((zm_is lay r0 10).bind fun _ =>
   zm_opt (σ.2.2 r0 3) (fun q3 =>
   (zm_gI lay σ q3 ((((nI 60) : Int32) * i3) + i4)).bind fun v4 =>
   some (.inl (315, [(0, .ref r0), (1, .long (((Int64.ofNat 31) * l1) + (v4 : Int32).toInt64)), (3, .int i3), (4, .int (i4 + 1))], [], lay, σ, 0, 0))) (none))) (none)
set_option maxRecDepth 100000 in
theorem zr_288_315 (lay : zm_Lay) (σ : zm_Sig) (r0 : Nat) (l1 : Int64) (i3 : Int32) (i4 : Int32) : zm_blk zM zp_288 (some .long) 0 0 zc_288 224 (zp_288.drop 197) (315, [(0, .ref r0), (1, .long l1), (3, .int i3), (4, .int i4)], [], lay, σ, 0, 0) = zb_288_315 lay σ r0 l1 i3 i4 := rfl
theorem zg_288_315 {lay : zm_Lay} {σ : zm_Sig} {r0 : Nat} {l1 : Int64} {i3 : Int32} {i4 : Int32} {out : zm_Out} {r : zm_St ⊕ zm_Out} (h : zb_288_315 lay σ r0 l1 i3 i4 = some r) (hg : zm_end zp_P 288 out r) : zm_go zp_P 288 (315, [(0, .ref r0), (1, .long l1), (3, .int i3), (4, .int i4)], [], lay, σ, 0, 0) out :=
  zm_blk_go (M := zd_288) rfl zs_288 224 (zp_288.drop 197) _ r (fun _ h => List.mem_of_mem_drop h) ((zr_288_315 lay σ r0 l1 i3 i4).trans h) hg
