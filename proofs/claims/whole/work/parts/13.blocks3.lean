/-! SubgroupWriter$Tree.countKind(LSubgroupWriter$Group;I)I -/
theorem zs_165 : zm_srt zp_165 = true := by decide +kernel
noncomputable def zb_165_0 (lay : zm_Lay) (σ : zm_Sig) (r0 : Nat) (r1 : Nat) (i2 : Int32) : Option (zm_St ⊕ zm_Out) :=
  some (.inl (5, [(0, .ref r0), (1, .ref r1), (2, .int i2), (3, .int 0), (4, .int 0)], [], lay, σ, 0, 0))
set_option maxRecDepth 100000 in
theorem zr_165_0 (lay : zm_Lay) (σ : zm_Sig) (r0 : Nat) (r1 : Nat) (i2 : Int32) : zm_blk zM zp_165 (some .int) 0 0 zc_165 20 (zp_165.drop 0) (0, [(0, .ref r0), (1, .ref r1), (2, .int i2)], [], lay, σ, 0, 0) = zb_165_0 lay σ r0 r1 i2 := rfl
theorem ze_165 {lay : zm_Lay} {σ : zm_Sig} {r0 : Nat} {r1 : Nat} {i2 : Int32} {out : zm_Out} {r : zm_St ⊕ zm_Out} (h : zb_165_0 lay σ r0 r1 i2 = some r) (hg : zm_end zp_P 165 out r) : zM 165 [.ref r0, .ref r1, .int i2] lay σ = some out :=
  zm_mean_go (M := zd_165) rfl (Nat.le_of_ble_eq_true rfl) (zm_blk_go (M := zd_165) rfl zs_165 20 (zp_165.drop 0) _ r (fun _ h => List.mem_of_mem_drop h) ((zr_165_0 lay σ r0 r1 i2).trans h) hg)
noncomputable def zb_165_5 (lay : zm_Lay) (σ : zm_Sig) (r0 : Nat) (r1 : Nat) (i2 : Int32) (i3 : Int32) (i4 : Int32) : Option (zm_St ⊕ zm_Out) :=
  (zm_is lay r1 1).bind fun _ => (zm_ai (zM 78 [.ref r1] lay σ)).bind fun q1 =>
  if q1.1 ≤ i4 then (some (.inr (some (.int i3), q1.2.1, q1.2.2)))
  else ((zm_is q1.2.1 r0 7).bind fun _ =>
   zm_opt (q1.2.2.2.2 r0 0) (fun q2 =>
   (zm_gI q1.2.1 q1.2.2 q2 i4).bind fun v3 =>
   if ¬ v3 = i2 then (some (.inl (5, [(0, .ref r0), (1, .ref r1), (2, .int i2), (3, .int i3), (4, .int (i4 + 1))], [], q1.2.1, q1.2.2, 0, 0)))
   else (some (.inl (5, [(0, .ref r0), (1, .ref r1), (2, .int i2), (3, .int (i3 + 1)), (4, .int (i4 + 1))], [], q1.2.1, q1.2.2, 0, 0)))) (none))
set_option maxRecDepth 100000 in
theorem zr_165_5 (lay : zm_Lay) (σ : zm_Sig) (r0 : Nat) (r1 : Nat) (i2 : Int32) (i3 : Int32) (i4 : Int32) : zm_blk zM zp_165 (some .int) 0 0 zc_165 20 (zp_165.drop 4) (5, [(0, .ref r0), (1, .ref r1), (2, .int i2), (3, .int i3), (4, .int i4)], [], lay, σ, 0, 0) = zb_165_5 lay σ r0 r1 i2 i3 i4 := rfl
theorem zg_165_5 {lay : zm_Lay} {σ : zm_Sig} {r0 : Nat} {r1 : Nat} {i2 : Int32} {i3 : Int32} {i4 : Int32} {out : zm_Out} {r : zm_St ⊕ zm_Out} (h : zb_165_5 lay σ r0 r1 i2 i3 i4 = some r) (hg : zm_end zp_P 165 out r) : zm_go zp_P 165 (5, [(0, .ref r0), (1, .ref r1), (2, .int i2), (3, .int i3), (4, .int i4)], [], lay, σ, 0, 0) out :=
  zm_blk_go (M := zd_165) rfl zs_165 20 (zp_165.drop 4) _ r (fun _ h => List.mem_of_mem_drop h) ((zr_165_5 lay σ r0 r1 i2 i3 i4).trans h) hg
/-! SubgroupWriter$Shelf.there()I -/
theorem zs_166 : zm_srt zp_166 = true := by decide +kernel
noncomputable def zb_166_0 (lay : zm_Lay) (σ : zm_Sig) (r0 : Nat) : Option (zm_St ⊕ zm_Out) :=
  some (.inl (4, [(0, .ref r0), (1, .int 0), (2, .int 0)], [], lay, σ, 0, 0))
set_option maxRecDepth 100000 in
theorem zr_166_0 (lay : zm_Lay) (σ : zm_Sig) (r0 : Nat) : zm_blk zM zp_166 (some .int) 0 0 zc_166 21 (zp_166.drop 0) (0, [(0, .ref r0)], [], lay, σ, 0, 0) = zb_166_0 lay σ r0 := rfl
theorem ze_166 {lay : zm_Lay} {σ : zm_Sig} {r0 : Nat} {out : zm_Out} {r : zm_St ⊕ zm_Out} (h : zb_166_0 lay σ r0 = some r) (hg : zm_end zp_P 166 out r) : zM 166 [.ref r0] lay σ = some out :=
  zm_mean_go (M := zd_166) rfl (Nat.le_of_ble_eq_true rfl) (zm_blk_go (M := zd_166) rfl zs_166 21 (zp_166.drop 0) _ r (fun _ h => List.mem_of_mem_drop h) ((zr_166_0 lay σ r0).trans h) hg)
noncomputable def zb_166_4 (lay : zm_Lay) (σ : zm_Sig) (r0 : Nat) (i1 : Int32) (i2 : Int32) : Option (zm_St ⊕ zm_Out) :=
  (zm_is lay r0 5).bind fun _ =>
  zm_opt (σ.2.2 r0 1) (fun q1 =>
  (zm_len lay q1).bind fun v2 =>
  if v2 ≤ i2 then (some (.inr (some (.int i1), lay, σ)))
  else ((zm_is lay r0 5).bind fun _ =>
   zm_opt (σ.2.2 r0 1) (fun q3 =>
   (zm_gI lay σ q3 i2).bind fun v4 =>
   if v4 = (-1) then (some (.inl (4, [(0, .ref r0), (1, .int i1), (2, .int (i2 + 1))], [], lay, σ, 0, 0)))
   else (some (.inl (4, [(0, .ref r0), (1, .int (i1 + 1)), (2, .int (i2 + 1))], [], lay, σ, 0, 0)))) (none))) (none)
set_option maxRecDepth 100000 in
theorem zr_166_4 (lay : zm_Lay) (σ : zm_Sig) (r0 : Nat) (i1 : Int32) (i2 : Int32) : zm_blk zM zp_166 (some .int) 0 0 zc_166 21 (zp_166.drop 4) (4, [(0, .ref r0), (1, .int i1), (2, .int i2)], [], lay, σ, 0, 0) = zb_166_4 lay σ r0 i1 i2 := rfl
theorem zg_166_4 {lay : zm_Lay} {σ : zm_Sig} {r0 : Nat} {i1 : Int32} {i2 : Int32} {out : zm_Out} {r : zm_St ⊕ zm_Out} (h : zb_166_4 lay σ r0 i1 i2 = some r) (hg : zm_end zp_P 166 out r) : zm_go zp_P 166 (4, [(0, .ref r0), (1, .int i1), (2, .int i2)], [], lay, σ, 0, 0) out :=
  zm_blk_go (M := zd_166) rfl zs_166 21 (zp_166.drop 4) _ r (fun _ h => List.mem_of_mem_drop h) ((zr_166_4 lay σ r0 i1 i2).trans h) hg
/-! SubgroupWriter.keptBooks()I -/
theorem zs_167 : zm_srt zp_167 = true := by decide +kernel
noncomputable def zb_167_0 (lay : zm_Lay) (σ : zm_Sig) (r0 : Nat) : Option (zm_St ⊕ zm_Out) :=
  some (.inl (4, [(0, .ref r0), (1, .int 0), (2, .int 0)], [], lay, σ, 0, 0))
set_option maxRecDepth 100000 in
theorem zr_167_0 (lay : zm_Lay) (σ : zm_Sig) (r0 : Nat) : zm_blk zM zp_167 (some .int) 0 0 zc_167 20 (zp_167.drop 0) (0, [(0, .ref r0)], [], lay, σ, 0, 0) = zb_167_0 lay σ r0 := rfl
theorem ze_167 {lay : zm_Lay} {σ : zm_Sig} {r0 : Nat} {out : zm_Out} {r : zm_St ⊕ zm_Out} (h : zb_167_0 lay σ r0 = some r) (hg : zm_end zp_P 167 out r) : zM 167 [.ref r0] lay σ = some out :=
  zm_mean_go (M := zd_167) rfl (Nat.le_of_ble_eq_true rfl) (zm_blk_go (M := zd_167) rfl zs_167 20 (zp_167.drop 0) _ r (fun _ h => List.mem_of_mem_drop h) ((zr_167_0 lay σ r0).trans h) hg)
noncomputable def zb_167_4 (lay : zm_Lay) (σ : zm_Sig) (r0 : Nat) (i1 : Int32) (i2 : Int32) : Option (zm_St ⊕ zm_Out) :=
  if ((nI 3) : Int32) ≤ i2 then (some (.inr (some (.int i1), lay, σ)))
  else ((zm_is lay r0 9).bind fun _ =>
   zm_opt (σ.2.2 r0 4) (fun q1 =>
   (zm_gR lay σ q1 i2).bind fun o2 => zm_opt o2 (fun q3 =>
   (zm_is lay q3 6).bind fun _ =>
   if (σ.1 q3 3) = (-1) then (some (.inl (4, [(0, .ref r0), (1, .int i1), (2, .int (i2 + 1))], [], lay, σ, 0, 0)))
   else (some (.inl (4, [(0, .ref r0), (1, .int (i1 + 1)), (2, .int (i2 + 1))], [], lay, σ, 0, 0)))) none) (none))
set_option maxRecDepth 100000 in
theorem zr_167_4 (lay : zm_Lay) (σ : zm_Sig) (r0 : Nat) (i1 : Int32) (i2 : Int32) : zm_blk zM zp_167 (some .int) 0 0 zc_167 20 (zp_167.drop 4) (4, [(0, .ref r0), (1, .int i1), (2, .int i2)], [], lay, σ, 0, 0) = zb_167_4 lay σ r0 i1 i2 := rfl
theorem zg_167_4 {lay : zm_Lay} {σ : zm_Sig} {r0 : Nat} {i1 : Int32} {i2 : Int32} {out : zm_Out} {r : zm_St ⊕ zm_Out} (h : zb_167_4 lay σ r0 i1 i2 = some r) (hg : zm_end zp_P 167 out r) : zm_go zp_P 167 (4, [(0, .ref r0), (1, .int i1), (2, .int i2)], [], lay, σ, 0, 0) out :=
  zm_blk_go (M := zd_167) rfl zs_167 20 (zp_167.drop 4) _ r (fun _ h => List.mem_of_mem_drop h) ((zr_167_4 lay σ r0 i1 i2).trans h) hg
/-! SubgroupWriter.finding()I -/
theorem zs_168 : zm_srt zp_168 = true := by decide +kernel
noncomputable def zb_168_0 (lay : zm_Lay) (σ : zm_Sig) (r0 : Nat) : Option (zm_St ⊕ zm_Out) :=
  (zm_is lay r0 9).bind fun _ =>
  some (.inr (some (.int (σ.1 r0 16)), lay, σ))
set_option maxRecDepth 100000 in
theorem zr_168_0 (lay : zm_Lay) (σ : zm_Sig) (r0 : Nat) : zm_blk zM zp_168 (some .int) 0 0 zc_168 4 (zp_168.drop 0) (0, [(0, .ref r0)], [], lay, σ, 0, 0) = zb_168_0 lay σ r0 := rfl
theorem ze_168 {lay : zm_Lay} {σ : zm_Sig} {r0 : Nat} {out : zm_Out} {r : zm_St ⊕ zm_Out} (h : zb_168_0 lay σ r0 = some r) (hg : zm_end zp_P 168 out r) : zM 168 [.ref r0] lay σ = some out :=
  zm_mean_go (M := zd_168) rfl (Nat.le_of_ble_eq_true rfl) (zm_blk_go (M := zd_168) rfl zs_168 4 (zp_168.drop 0) _ r (fun _ h => List.mem_of_mem_drop h) ((zr_168_0 lay σ r0).trans h) hg)
/-! SubgroupWriter.findings(I)I -/
theorem zs_169 : zm_srt zp_169 = true := by decide +kernel
noncomputable def zb_169_0 (lay : zm_Lay) (σ : zm_Sig) (r0 : Nat) (i1 : Int32) : Option (zm_St ⊕ zm_Out) :=
  if i1 < 1 then (some (.inr (some (.int (-1)), lay, σ)))
  else (if i1 ≤ (nI 5) then ((zm_is lay r0 9).bind fun _ =>
    zm_opt (σ.2.2 r0 7) (fun q1 =>
    (zm_gI lay σ q1 i1).bind fun v2 =>
    some (.inr (some (.int v2), lay, σ))) (none))
   else (some (.inr (some (.int (-1)), lay, σ))))
set_option maxRecDepth 100000 in
theorem zr_169_0 (lay : zm_Lay) (σ : zm_Sig) (r0 : Nat) (i1 : Int32) : zm_blk zM zp_169 (some .int) 0 0 zc_169 14 (zp_169.drop 0) (0, [(0, .ref r0), (1, .int i1)], [], lay, σ, 0, 0) = zb_169_0 lay σ r0 i1 := rfl
theorem ze_169 {lay : zm_Lay} {σ : zm_Sig} {r0 : Nat} {i1 : Int32} {out : zm_Out} {r : zm_St ⊕ zm_Out} (h : zb_169_0 lay σ r0 i1 = some r) (hg : zm_end zp_P 169 out r) : zM 169 [.ref r0, .int i1] lay σ = some out :=
  zm_mean_go (M := zd_169) rfl (Nat.le_of_ble_eq_true rfl) (zm_blk_go (M := zd_169) rfl zs_169 14 (zp_169.drop 0) _ r (fun _ h => List.mem_of_mem_drop h) ((zr_169_0 lay σ r0 i1).trans h) hg)
/-! SubgroupWriter.digest()J -/
theorem zs_170 : zm_srt zp_170 = true := by decide +kernel
noncomputable def zb_170_0 (lay : zm_Lay) (σ : zm_Sig) (r0 : Nat) : Option (zm_St ⊕ zm_Out) :=
  some (.inl (6, [(0, .ref r0), (1, .long (Int64.ofNat 17)), (3, .int 0)], [], lay, σ, 0, 0))
set_option maxRecDepth 100000 in
theorem zr_170_0 (lay : zm_Lay) (σ : zm_Sig) (r0 : Nat) : zm_blk zM zp_170 (some .long) 0 0 zc_170 105 (zp_170.drop 0) (0, [(0, .ref r0)], [], lay, σ, 0, 0) = zb_170_0 lay σ r0 := rfl
theorem ze_170 {lay : zm_Lay} {σ : zm_Sig} {r0 : Nat} {out : zm_Out} {r : zm_St ⊕ zm_Out} (h : zb_170_0 lay σ r0 = some r) (hg : zm_end zp_P 170 out r) : zM 170 [.ref r0] lay σ = some out :=
  zm_mean_go (M := zd_170) rfl (Nat.le_of_ble_eq_true rfl) (zm_blk_go (M := zd_170) rfl zs_170 105 (zp_170.drop 0) _ r (fun _ h => List.mem_of_mem_drop h) ((zr_170_0 lay σ r0).trans h) hg)
noncomputable def zb_170_6 (lay : zm_Lay) (σ : zm_Sig) (r0 : Nat) (l1 : Int64) (i3 : Int32) : Option (zm_St ⊕ zm_Out) :=
  if ((nI 13) : Int32) < i3 then (some (.inl (33, [(0, .ref r0), (1, .long l1), (3, .int 0)], [], lay, σ, 0, 0)))
  else ((zm_is lay r0 9).bind fun _ => (zm_ai (zM 163 [.ref r0, .int i3] lay σ)).bind fun q1 =>
   some (.inl (6, [(0, .ref r0), (1, .long (((Int64.ofNat 31) * l1) + (q1.1 : Int32).toInt64)), (3, .int (i3 + 1))], [], q1.2.1, q1.2.2, 0, 0)))
set_option maxRecDepth 100000 in
theorem zr_170_6 (lay : zm_Lay) (σ : zm_Sig) (r0 : Nat) (l1 : Int64) (i3 : Int32) : zm_blk zM zp_170 (some .long) 0 0 zc_170 105 (zp_170.drop 4) (6, [(0, .ref r0), (1, .long l1), (3, .int i3)], [], lay, σ, 0, 0) = zb_170_6 lay σ r0 l1 i3 := rfl
theorem zg_170_6 {lay : zm_Lay} {σ : zm_Sig} {r0 : Nat} {l1 : Int64} {i3 : Int32} {out : zm_Out} {r : zm_St ⊕ zm_Out} (h : zb_170_6 lay σ r0 l1 i3 = some r) (hg : zm_end zp_P 170 out r) : zm_go zp_P 170 (6, [(0, .ref r0), (1, .long l1), (3, .int i3)], [], lay, σ, 0, 0) out :=
  zm_blk_go (M := zd_170) rfl zs_170 105 (zp_170.drop 4) _ r (fun _ h => List.mem_of_mem_drop h) ((zr_170_6 lay σ r0 l1 i3).trans h) hg
noncomputable def zb_170_33 (lay : zm_Lay) (σ : zm_Sig) (r0 : Nat) (l1 : Int64) (i3 : Int32) : Option (zm_St ⊕ zm_Out) :=
  (zm_is lay r0 9).bind fun _ =>
  zm_opt (σ.2.2 r0 11) (fun q1 =>
  (zm_is lay q1 1).bind fun _ =>
  if (σ.1 q1 0) ≤ i3 then (some (.inl (88, [(0, .ref r0), (1, .long l1), (3, .int 0)], [], lay, σ, 0, 0)))
  else (some (.inl (47, [(0, .ref r0), (1, .long l1), (3, .int i3), (4, .int 0)], [], lay, σ, 0, 0)))) (none)
set_option maxRecDepth 100000 in
theorem zr_170_33 (lay : zm_Lay) (σ : zm_Sig) (r0 : Nat) (l1 : Int64) (i3 : Int32) : zm_blk zM zp_170 (some .long) 0 0 zc_170 105 (zp_170.drop 20) (33, [(0, .ref r0), (1, .long l1), (3, .int i3)], [], lay, σ, 0, 0) = zb_170_33 lay σ r0 l1 i3 := rfl
theorem zg_170_33 {lay : zm_Lay} {σ : zm_Sig} {r0 : Nat} {l1 : Int64} {i3 : Int32} {out : zm_Out} {r : zm_St ⊕ zm_Out} (h : zb_170_33 lay σ r0 l1 i3 = some r) (hg : zm_end zp_P 170 out r) : zm_go zp_P 170 (33, [(0, .ref r0), (1, .long l1), (3, .int i3)], [], lay, σ, 0, 0) out :=
  zm_blk_go (M := zd_170) rfl zs_170 105 (zp_170.drop 20) _ r (fun _ h => List.mem_of_mem_drop h) ((zr_170_33 lay σ r0 l1 i3).trans h) hg
noncomputable def zb_170_47 (lay : zm_Lay) (σ : zm_Sig) (r0 : Nat) (l1 : Int64) (i3 : Int32) (i4 : Int32) : Option (zm_St ⊕ zm_Out) :=
  if ((nI 3) : Int32) < i4 then (some (.inl (33, [(0, .ref r0), (1, .long l1), (3, .int (i3 + 1))], [], lay, σ, 0, 0)))
  else ((zm_is lay r0 9).bind fun _ =>
   zm_opt (σ.2.2 r0 3) (fun q1 =>
   (zm_is lay q1 0).bind fun _ =>
   zm_opt (σ.2.2 q1 0) (fun q2 =>
   (zm_is lay q2 7).bind fun _ => (zm_ai (zM 71 [.ref q2, .int i3, .int i4] lay σ)).bind fun q3 =>
   some (.inl (47, [(0, .ref r0), (1, .long (((Int64.ofNat 31) * l1) + (q3.1 : Int32).toInt64)), (3, .int i3), (4, .int (i4 + 1))], [], q3.2.1, q3.2.2, 0, 0))) (none)) (none))
set_option maxRecDepth 100000 in
theorem zr_170_47 (lay : zm_Lay) (σ : zm_Sig) (r0 : Nat) (l1 : Int64) (i3 : Int32) (i4 : Int32) : zm_blk zM zp_170 (some .long) 0 0 zc_170 105 (zp_170.drop 27) (47, [(0, .ref r0), (1, .long l1), (3, .int i3), (4, .int i4)], [], lay, σ, 0, 0) = zb_170_47 lay σ r0 l1 i3 i4 := rfl
theorem zg_170_47 {lay : zm_Lay} {σ : zm_Sig} {r0 : Nat} {l1 : Int64} {i3 : Int32} {i4 : Int32} {out : zm_Out} {r : zm_St ⊕ zm_Out} (h : zb_170_47 lay σ r0 l1 i3 i4 = some r) (hg : zm_end zp_P 170 out r) : zm_go zp_P 170 (47, [(0, .ref r0), (1, .long l1), (3, .int i3), (4, .int i4)], [], lay, σ, 0, 0) out :=
  zm_blk_go (M := zd_170) rfl zs_170 105 (zp_170.drop 27) _ r (fun _ h => List.mem_of_mem_drop h) ((zr_170_47 lay σ r0 l1 i3 i4).trans h) hg
noncomputable def zb_170_88 (lay : zm_Lay) (σ : zm_Sig) (r0 : Nat) (l1 : Int64) (i3 : Int32) : Option (zm_St ⊕ zm_Out) :=
  (zm_is lay r0 9).bind fun _ =>
  zm_opt (σ.2.2 r0 11) (fun q1 =>
  (zm_is lay q1 1).bind fun _ => (zm_ai (zM 78 [.ref q1] lay σ)).bind fun q2 =>
  if q2.1 ≤ i3 then ((zm_is q2.2.1 r0 9).bind fun _ =>
   zm_opt (q2.2.2.2.2 r0 3) (fun q3 =>
   (zm_is q2.2.1 q3 0).bind fun _ =>
   zm_opt (q2.2.2.2.2 q3 1) (fun q4 =>
   (zm_is q2.2.1 q4 4).bind fun _ => (zm_al (zM 171 [.ref q4, .long l1] q2.2.1 q2.2.2)).bind fun q5 =>
   some (.inl (149, [(0, .ref r0), (1, .long q5.1), (3, .int 0)], [], q5.2.1, q5.2.2, 0, 0))) (none)) (none))
  else (some (.inl (102, [(0, .ref r0), (1, .long l1), (3, .int i3), (4, .int 0)], [], q2.2.1, q2.2.2, 0, 0)))) (none)
set_option maxRecDepth 100000 in
theorem zr_170_88 (lay : zm_Lay) (σ : zm_Sig) (r0 : Nat) (l1 : Int64) (i3 : Int32) : zm_blk zM zp_170 (some .long) 0 0 zc_170 105 (zp_170.drop 48) (88, [(0, .ref r0), (1, .long l1), (3, .int i3)], [], lay, σ, 0, 0) = zb_170_88 lay σ r0 l1 i3 := rfl
theorem zg_170_88 {lay : zm_Lay} {σ : zm_Sig} {r0 : Nat} {l1 : Int64} {i3 : Int32} {out : zm_Out} {r : zm_St ⊕ zm_Out} (h : zb_170_88 lay σ r0 l1 i3 = some r) (hg : zm_end zp_P 170 out r) : zm_go zp_P 170 (88, [(0, .ref r0), (1, .long l1), (3, .int i3)], [], lay, σ, 0, 0) out :=
  zm_blk_go (M := zd_170) rfl zs_170 105 (zp_170.drop 48) _ r (fun _ h => List.mem_of_mem_drop h) ((zr_170_88 lay σ r0 l1 i3).trans h) hg
noncomputable def zb_170_102 (lay : zm_Lay) (σ : zm_Sig) (r0 : Nat) (l1 : Int64) (i3 : Int32) (i4 : Int32) : Option (zm_St ⊕ zm_Out) :=
  if ((nI 4) : Int32) < i4 then (some (.inl (88, [(0, .ref r0), (1, .long l1), (3, .int (i3 + 1))], [], lay, σ, 0, 0)))
  else ((zm_is lay r0 9).bind fun _ => (zm_ai (zM 79 [.ref r0, .int i3, .int i4] lay σ)).bind fun q1 =>
   some (.inl (102, [(0, .ref r0), (1, .long (((Int64.ofNat 31) * l1) + (q1.1 : Int32).toInt64)), (3, .int i3), (4, .int (i4 + 1))], [], q1.2.1, q1.2.2, 0, 0)))
set_option maxRecDepth 100000 in
theorem zr_170_102 (lay : zm_Lay) (σ : zm_Sig) (r0 : Nat) (l1 : Int64) (i3 : Int32) (i4 : Int32) : zm_blk zM zp_170 (some .long) 0 0 zc_170 105 (zp_170.drop 55) (102, [(0, .ref r0), (1, .long l1), (3, .int i3), (4, .int i4)], [], lay, σ, 0, 0) = zb_170_102 lay σ r0 l1 i3 i4 := rfl
theorem zg_170_102 {lay : zm_Lay} {σ : zm_Sig} {r0 : Nat} {l1 : Int64} {i3 : Int32} {i4 : Int32} {out : zm_Out} {r : zm_St ⊕ zm_Out} (h : zb_170_102 lay σ r0 l1 i3 i4 = some r) (hg : zm_end zp_P 170 out r) : zm_go zp_P 170 (102, [(0, .ref r0), (1, .long l1), (3, .int i3), (4, .int i4)], [], lay, σ, 0, 0) out :=
  zm_blk_go (M := zd_170) rfl zs_170 105 (zp_170.drop 55) _ r (fun _ h => List.mem_of_mem_drop h) ((zr_170_102 lay σ r0 l1 i3 i4).trans h) hg
noncomputable def zb_170_149 (lay : zm_Lay) (σ : zm_Sig) (r0 : Nat) (l1 : Int64) (i3 : Int32) : Option (zm_St ⊕ zm_Out) :=
  if ((nI 3) : Int32) ≤ i3 then ((zm_is lay r0 9).bind fun _ =>
   zm_opt (σ.2.2 r0 1) (fun q1 =>
   (zm_is lay r0 9).bind fun _ =>
   zm_opt (σ.2.2 r0 0) (fun q2 =>
   (zm_is lay q2 5).bind fun _ => (zm_al (zM 172 [.ref q2, .long l1] lay σ)).bind fun q3 =>
   (zm_is q3.2.1 q1 5).bind fun _ => (zm_al (zM 172 [.ref q1, .long q3.1] q3.2.1 q3.2.2)).bind fun q4 =>
   some (.inr (some (.long q4.1), q4.2.1, q4.2.2))) (none)) (none))
  else ((zm_is lay r0 9).bind fun _ =>
   zm_opt (σ.2.2 r0 4) (fun q5 =>
   (zm_gR lay σ q5 i3).bind fun o6 => zm_opt o6 (fun q7 =>
   (zm_is lay q7 6).bind fun _ =>
   some (.inl (149, [(0, .ref r0), (1, .long (((Int64.ofNat 31) * l1) + ((σ.1 q7 3) : Int32).toInt64)), (3, .int (i3 + 1))], [], lay, σ, 0, 0))) none) (none))
set_option maxRecDepth 100000 in
theorem zr_170_149 (lay : zm_Lay) (σ : zm_Sig) (r0 : Nat) (l1 : Int64) (i3 : Int32) : zm_blk zM zp_170 (some .long) 0 0 zc_170 105 (zp_170.drop 80) (149, [(0, .ref r0), (1, .long l1), (3, .int i3)], [], lay, σ, 0, 0) = zb_170_149 lay σ r0 l1 i3 := rfl
theorem zg_170_149 {lay : zm_Lay} {σ : zm_Sig} {r0 : Nat} {l1 : Int64} {i3 : Int32} {out : zm_Out} {r : zm_St ⊕ zm_Out} (h : zb_170_149 lay σ r0 l1 i3 = some r) (hg : zm_end zp_P 170 out r) : zm_go zp_P 170 (149, [(0, .ref r0), (1, .long l1), (3, .int i3)], [], lay, σ, 0, 0) out :=
  zm_blk_go (M := zd_170) rfl zs_170 105 (zp_170.drop 80) _ r (fun _ h => List.mem_of_mem_drop h) ((zr_170_149 lay σ r0 l1 i3).trans h) hg
/-! SubgroupWriter$Rules.digestOn(J)J -/
theorem zs_171 : zm_srt zp_171 = true := by decide +kernel
noncomputable def zb_171_0 (lay : zm_Lay) (σ : zm_Sig) (r0 : Nat) (l1 : Int64) : Option (zm_St ⊕ zm_Out) :=
  some (.inl (5, [(0, .ref r0), (3, .long l1), (5, .int 0)], [], lay, σ, 0, 0))
set_option maxRecDepth 100000 in
theorem zr_171_0 (lay : zm_Lay) (σ : zm_Sig) (r0 : Nat) (l1 : Int64) : zm_blk zM zp_171 (some .long) 0 0 zc_171 45 (zp_171.drop 0) (0, [(0, .ref r0), (1, .long l1)], [], lay, σ, 0, 0) = zb_171_0 lay σ r0 l1 := rfl
theorem ze_171 {lay : zm_Lay} {σ : zm_Sig} {r0 : Nat} {l1 : Int64} {out : zm_Out} {r : zm_St ⊕ zm_Out} (h : zb_171_0 lay σ r0 l1 = some r) (hg : zm_end zp_P 171 out r) : zM 171 [.ref r0, .long l1] lay σ = some out :=
  zm_mean_go (M := zd_171) rfl (Nat.le_of_ble_eq_true rfl) (zm_blk_go (M := zd_171) rfl zs_171 45 (zp_171.drop 0) _ r (fun _ h => List.mem_of_mem_drop h) ((zr_171_0 lay σ r0 l1).trans h) hg)
noncomputable def zb_171_5 (lay : zm_Lay) (σ : zm_Sig) (r0 : Nat) (l3 : Int64) (i5 : Int32) : Option (zm_St ⊕ zm_Out) :=
  (zm_is lay r0 4).bind fun _ =>
  if (σ.1 r0 2) ≤ i5 then (some (.inr (some (.long l3), lay, σ)))
  else ((zm_is lay r0 4).bind fun _ =>
   zm_opt (σ.2.2 r0 1) (fun q1 =>
   (zm_gI lay σ q1 i5).bind fun v2 =>
   some (.inl (32, [(0, .ref r0), (3, .long (((Int64.ofNat 31) * l3) + (v2 : Int32).toInt64)), (5, .int i5), (6, .int 0)], [], lay, σ, 0, 0))) (none))
set_option maxRecDepth 100000 in
theorem zr_171_5 (lay : zm_Lay) (σ : zm_Sig) (r0 : Nat) (l3 : Int64) (i5 : Int32) : zm_blk zM zp_171 (some .long) 0 0 zc_171 45 (zp_171.drop 4) (5, [(0, .ref r0), (3, .long l3), (5, .int i5)], [], lay, σ, 0, 0) = zb_171_5 lay σ r0 l3 i5 := rfl
theorem zg_171_5 {lay : zm_Lay} {σ : zm_Sig} {r0 : Nat} {l3 : Int64} {i5 : Int32} {out : zm_Out} {r : zm_St ⊕ zm_Out} (h : zb_171_5 lay σ r0 l3 i5 = some r) (hg : zm_end zp_P 171 out r) : zm_go zp_P 171 (5, [(0, .ref r0), (3, .long l3), (5, .int i5)], [], lay, σ, 0, 0) out :=
  zm_blk_go (M := zd_171) rfl zs_171 45 (zp_171.drop 4) _ r (fun _ h => List.mem_of_mem_drop h) ((zr_171_5 lay σ r0 l3 i5).trans h) hg
noncomputable def zb_171_32 (lay : zm_Lay) (σ : zm_Sig) (r0 : Nat) (l3 : Int64) (i5 : Int32) (i6 : Int32) : Option (zm_St ⊕ zm_Out) :=
  (zm_is lay r0 4).bind fun _ =>
  zm_opt (σ.2.2 r0 1) (fun q1 =>
  (zm_gI lay σ q1 i5).bind fun v2 =>
  if v2 ≤ i6 then (some (.inl (5, [(0, .ref r0), (3, .long l3), (5, .int (i5 + 1))], [], lay, σ, 0, 0)))
  else ((zm_is lay r0 4).bind fun _ =>
   zm_opt (σ.2.2 r0 0) (fun q3 =>
   (zm_gR lay σ q3 i5).bind fun o4 => zm_opt o4 (fun q5 =>
   (zm_gI lay σ q5 i6).bind fun v6 =>
   some (.inl (32, [(0, .ref r0), (3, .long (((Int64.ofNat 31) * l3) + (v6 : Int32).toInt64)), (5, .int i5), (6, .int (i6 + 1))], [], lay, σ, 0, 0))) none) (none))) (none)
set_option maxRecDepth 100000 in
theorem zr_171_32 (lay : zm_Lay) (σ : zm_Sig) (r0 : Nat) (l3 : Int64) (i5 : Int32) (i6 : Int32) : zm_blk zM zp_171 (some .long) 0 0 zc_171 45 (zp_171.drop 20) (32, [(0, .ref r0), (3, .long l3), (5, .int i5), (6, .int i6)], [], lay, σ, 0, 0) = zb_171_32 lay σ r0 l3 i5 i6 := rfl
theorem zg_171_32 {lay : zm_Lay} {σ : zm_Sig} {r0 : Nat} {l3 : Int64} {i5 : Int32} {i6 : Int32} {out : zm_Out} {r : zm_St ⊕ zm_Out} (h : zb_171_32 lay σ r0 l3 i5 i6 = some r) (hg : zm_end zp_P 171 out r) : zm_go zp_P 171 (32, [(0, .ref r0), (3, .long l3), (5, .int i5), (6, .int i6)], [], lay, σ, 0, 0) out :=
  zm_blk_go (M := zd_171) rfl zs_171 45 (zp_171.drop 20) _ r (fun _ h => List.mem_of_mem_drop h) ((zr_171_32 lay σ r0 l3 i5 i6).trans h) hg
/-! SubgroupWriter$Shelf.digestOn(J)J -/
theorem zs_172 : zm_srt zp_172 = true := by decide +kernel
noncomputable def zb_172_0 (lay : zm_Lay) (σ : zm_Sig) (r0 : Nat) (l1 : Int64) : Option (zm_St ⊕ zm_Out) :=
  some (.inl (5, [(0, .ref r0), (3, .long l1), (5, .int 0)], [], lay, σ, 0, 0))
set_option maxRecDepth 100000 in
theorem zr_172_0 (lay : zm_Lay) (σ : zm_Sig) (r0 : Nat) (l1 : Int64) : zm_blk zM zp_172 (some .long) 0 0 zc_172 46 (zp_172.drop 0) (0, [(0, .ref r0), (1, .long l1)], [], lay, σ, 0, 0) = zb_172_0 lay σ r0 l1 := rfl
theorem ze_172 {lay : zm_Lay} {σ : zm_Sig} {r0 : Nat} {l1 : Int64} {out : zm_Out} {r : zm_St ⊕ zm_Out} (h : zb_172_0 lay σ r0 l1 = some r) (hg : zm_end zp_P 172 out r) : zM 172 [.ref r0, .long l1] lay σ = some out :=
  zm_mean_go (M := zd_172) rfl (Nat.le_of_ble_eq_true rfl) (zm_blk_go (M := zd_172) rfl zs_172 46 (zp_172.drop 0) _ r (fun _ h => List.mem_of_mem_drop h) ((zr_172_0 lay σ r0 l1).trans h) hg)
noncomputable def zb_172_5 (lay : zm_Lay) (σ : zm_Sig) (r0 : Nat) (l3 : Int64) (i5 : Int32) : Option (zm_St ⊕ zm_Out) :=
  (zm_is lay r0 5).bind fun _ =>
  zm_opt (σ.2.2 r0 1) (fun q1 =>
  (zm_len lay q1).bind fun v2 =>
  if v2 ≤ i5 then (some (.inr (some (.long l3), lay, σ)))
  else ((zm_is lay r0 5).bind fun _ =>
   zm_opt (σ.2.2 r0 1) (fun q3 =>
   (zm_gI lay σ q3 i5).bind fun v4 =>
   some (.inl (33, [(0, .ref r0), (3, .long (((Int64.ofNat 31) * l3) + (v4 : Int32).toInt64)), (5, .int i5), (6, .int 0)], [], lay, σ, 0, 0))) (none))) (none)
set_option maxRecDepth 100000 in
theorem zr_172_5 (lay : zm_Lay) (σ : zm_Sig) (r0 : Nat) (l3 : Int64) (i5 : Int32) : zm_blk zM zp_172 (some .long) 0 0 zc_172 46 (zp_172.drop 4) (5, [(0, .ref r0), (3, .long l3), (5, .int i5)], [], lay, σ, 0, 0) = zb_172_5 lay σ r0 l3 i5 := rfl
theorem zg_172_5 {lay : zm_Lay} {σ : zm_Sig} {r0 : Nat} {l3 : Int64} {i5 : Int32} {out : zm_Out} {r : zm_St ⊕ zm_Out} (h : zb_172_5 lay σ r0 l3 i5 = some r) (hg : zm_end zp_P 172 out r) : zm_go zp_P 172 (5, [(0, .ref r0), (3, .long l3), (5, .int i5)], [], lay, σ, 0, 0) out :=
  zm_blk_go (M := zd_172) rfl zs_172 46 (zp_172.drop 4) _ r (fun _ h => List.mem_of_mem_drop h) ((zr_172_5 lay σ r0 l3 i5).trans h) hg
noncomputable def zb_172_33 (lay : zm_Lay) (σ : zm_Sig) (r0 : Nat) (l3 : Int64) (i5 : Int32) (i6 : Int32) : Option (zm_St ⊕ zm_Out) :=
  (zm_is lay r0 5).bind fun _ =>
  zm_opt (σ.2.2 r0 1) (fun q1 =>
  (zm_gI lay σ q1 i5).bind fun v2 =>
  if v2 ≤ i6 then (some (.inl (5, [(0, .ref r0), (3, .long l3), (5, .int (i5 + 1))], [], lay, σ, 0, 0)))
  else ((zm_is lay r0 5).bind fun _ =>
   zm_opt (σ.2.2 r0 0) (fun q3 =>
   (zm_gR lay σ q3 i5).bind fun o4 => zm_opt o4 (fun q5 =>
   (zm_gI lay σ q5 i6).bind fun v6 =>
   some (.inl (33, [(0, .ref r0), (3, .long (((Int64.ofNat 31) * l3) + (v6 : Int32).toInt64)), (5, .int i5), (6, .int (i6 + 1))], [], lay, σ, 0, 0))) none) (none))) (none)
set_option maxRecDepth 100000 in
theorem zr_172_33 (lay : zm_Lay) (σ : zm_Sig) (r0 : Nat) (l3 : Int64) (i5 : Int32) (i6 : Int32) : zm_blk zM zp_172 (some .long) 0 0 zc_172 46 (zp_172.drop 21) (33, [(0, .ref r0), (3, .long l3), (5, .int i5), (6, .int i6)], [], lay, σ, 0, 0) = zb_172_33 lay σ r0 l3 i5 i6 := rfl
theorem zg_172_33 {lay : zm_Lay} {σ : zm_Sig} {r0 : Nat} {l3 : Int64} {i5 : Int32} {i6 : Int32} {out : zm_Out} {r : zm_St ⊕ zm_Out} (h : zb_172_33 lay σ r0 l3 i5 i6 = some r) (hg : zm_end zp_P 172 out r) : zm_go zp_P 172 (33, [(0, .ref r0), (3, .long l3), (5, .int i5), (6, .int i6)], [], lay, σ, 0, 0) out :=
  zm_blk_go (M := zd_172) rfl zs_172 46 (zp_172.drop 21) _ r (fun _ h => List.mem_of_mem_drop h) ((zr_172_33 lay σ r0 l3 i5 i6).trans h) hg
/-! SubgroupWriterModel.row(II)I -/
theorem zs_174 : zm_srt zp_174 = true := by decide +kernel
noncomputable def zb_174_0 (lay : zm_Lay) (σ : zm_Sig) (r0 : Nat) (i1 : Int32) (i2 : Int32) : Option (zm_St ⊕ zm_Out) :=
  (zm_ai (zM 175 [.int i1] lay σ)).bind fun q1 =>
  if q1.1 = 0 then (some (.inr (some (.int (-1)), q1.2.1, q1.2.2)))
  else (if i2 ≤ (nI 40) then (if (0 : Int32) ≤ i2 then ((zm_is q1.2.1 r0 10).bind fun _ => (zm_av (zM 178 [.ref r0, .int i1, .int i2] q1.2.1 q1.2.2)).bind fun q2 =>
     some (.inr (some (.int i2), q2.1, q2.2)))
    else ((zm_is q1.2.1 r0 10).bind fun _ => (zm_ai (zM 177 [.ref r0, .int (nI 5)] q1.2.1 q1.2.2)).bind fun q3 =>
     some (.inr (some (.int q3.1), q3.2.1, q3.2.2))))
   else (some (.inr (some (.int (-1)), q1.2.1, q1.2.2))))
set_option maxRecDepth 100000 in
theorem zr_174_0 (lay : zm_Lay) (σ : zm_Sig) (r0 : Nat) (i1 : Int32) (i2 : Int32) : zm_blk zM zp_174 (some .int) 0 0 zc_174 21 (zp_174.drop 0) (0, [(0, .ref r0), (1, .int i1), (2, .int i2)], [], lay, σ, 0, 0) = zb_174_0 lay σ r0 i1 i2 := rfl
theorem ze_174 {lay : zm_Lay} {σ : zm_Sig} {r0 : Nat} {i1 : Int32} {i2 : Int32} {out : zm_Out} {r : zm_St ⊕ zm_Out} (h : zb_174_0 lay σ r0 i1 i2 = some r) (hg : zm_end zp_P 174 out r) : zM 174 [.ref r0, .int i1, .int i2] lay σ = some out :=
  zm_mean_go (M := zd_174) rfl (Nat.le_of_ble_eq_true rfl) (zm_blk_go (M := zd_174) rfl zs_174 21 (zp_174.drop 0) _ r (fun _ h => List.mem_of_mem_drop h) ((zr_174_0 lay σ r0 i1 i2).trans h) hg)
/-! SubgroupWriterModel.isRow(I)Z -/
theorem zs_175 : zm_srt zp_175 = true := by decide +kernel
noncomputable def zb_175_0 (lay : zm_Lay) (σ : zm_Sig) (i0 : Int32) : Option (zm_St ⊕ zm_Out) :=
  (zm_ai (zM 176 [.int i0, .int 0, .int (nI 5)] lay σ)).bind fun q1 =>
  if q1.1 = 0 ∨ q1.1 = 1 then some (.inr (some (.int q1.1), q1.2.1, q1.2.2)) else none
set_option maxRecDepth 100000 in
theorem zr_175_0 (lay : zm_Lay) (σ : zm_Sig) (i0 : Int32) : zm_blk zM zp_175 (some .boolean) 0 0 zc_175 6 (zp_175.drop 0) (0, [(0, .int i0)], [], lay, σ, 0, 0) = zb_175_0 lay σ i0 := rfl
theorem ze_175 {lay : zm_Lay} {σ : zm_Sig} {i0 : Int32} {out : zm_Out} {r : zm_St ⊕ zm_Out} (h : zb_175_0 lay σ i0 = some r) (hg : zm_end zp_P 175 out r) : zM 175 [.int i0] lay σ = some out :=
  zm_mean_go (M := zd_175) rfl (Nat.le_of_ble_eq_true rfl) (zm_blk_go (M := zd_175) rfl zs_175 6 (zp_175.drop 0) _ r (fun _ h => List.mem_of_mem_drop h) ((zr_175_0 lay σ i0).trans h) hg)
/-! SubgroupWriterModel.in(III)Z -/
theorem zs_176 : zm_srt zp_176 = true := by decide +kernel
noncomputable def zb_176_0 (lay : zm_Lay) (σ : zm_Sig) (i0 : Int32) (i1 : Int32) (i2 : Int32) : Option (zm_St ⊕ zm_Out) :=
  if i0 < i1 then (some (.inr (some (.int 0), lay, σ)))
  else (if i2 < i0 then (some (.inr (some (.int 0), lay, σ)))
   else (some (.inr (some (.int 1), lay, σ))))
set_option maxRecDepth 100000 in
theorem zr_176_0 (lay : zm_Lay) (σ : zm_Sig) (i0 : Int32) (i1 : Int32) (i2 : Int32) : zm_blk zM zp_176 (some .boolean) 0 0 zc_176 11 (zp_176.drop 0) (0, [(0, .int i0), (1, .int i1), (2, .int i2)], [], lay, σ, 0, 0) = zb_176_0 lay σ i0 i1 i2 := rfl
theorem ze_176 {lay : zm_Lay} {σ : zm_Sig} {i0 : Int32} {i1 : Int32} {i2 : Int32} {out : zm_Out} {r : zm_St ⊕ zm_Out} (h : zb_176_0 lay σ i0 i1 i2 = some r) (hg : zm_end zp_P 176 out r) : zM 176 [.int i0, .int i1, .int i2] lay σ = some out :=
  zm_mean_go (M := zd_176) rfl (Nat.le_of_ble_eq_true rfl) (zm_blk_go (M := zd_176) rfl zs_176 11 (zp_176.drop 0) _ r (fun _ h => List.mem_of_mem_drop h) ((zr_176_0 lay σ i0 i1 i2).trans h) hg)
/-! SubgroupWriterModel.found(I)I -/
theorem zs_177 : zm_srt zp_177 = true := by decide +kernel
noncomputable def zb_177_0 (lay : zm_Lay) (σ : zm_Sig) (r0 : Nat) (i1 : Int32) : Option (zm_St ⊕ zm_Out) :=
  (zm_is lay r0 10).bind fun _ => (zm_fw σ r0 29 0 (.int i1)).bind fun s1 =>
  (zm_is lay r0 10).bind fun _ =>
  zm_opt (s1.2.2 r0 30) (fun q2 =>
  (zm_gI lay s1 q2 i1).bind fun v3 =>
  (zm_sI lay s1 q2 i1 (v3 + 1)).bind fun s4 =>
  some (.inr (some (.int (-3)), lay, s4))) (none)
set_option maxRecDepth 100000 in
theorem zr_177_0 (lay : zm_Lay) (σ : zm_Sig) (r0 : Nat) (i1 : Int32) : zm_blk zM zp_177 (some .int) 0 0 zc_177 14 (zp_177.drop 0) (0, [(0, .ref r0), (1, .int i1)], [], lay, σ, 0, 0) = zb_177_0 lay σ r0 i1 := rfl
theorem ze_177 {lay : zm_Lay} {σ : zm_Sig} {r0 : Nat} {i1 : Int32} {out : zm_Out} {r : zm_St ⊕ zm_Out} (h : zb_177_0 lay σ r0 i1 = some r) (hg : zm_end zp_P 177 out r) : zM 177 [.ref r0, .int i1] lay σ = some out :=
  zm_mean_go (M := zd_177) rfl (Nat.le_of_ble_eq_true rfl) (zm_blk_go (M := zd_177) rfl zs_177 14 (zp_177.drop 0) _ r (fun _ h => List.mem_of_mem_drop h) ((zr_177_0 lay σ r0 i1).trans h) hg)
/-! SubgroupWriterModel.makesRow(II)V -/
theorem zs_178 : zm_srt zp_178 = true := by decide +kernel
noncomputable def zb_178_0 (lay : zm_Lay) (σ : zm_Sig) (r0 : Nat) (i1 : Int32) (i2 : Int32) : Option (zm_St ⊕ zm_Out) :=
  (zm_is lay r0 10).bind fun _ =>
  zm_opt (σ.2.2 r0 0) (fun q1 =>
  (zm_sI lay σ q1 i1 i2).bind fun s2 =>
  some (.inl (9, [(0, .ref r0), (1, .int i1), (2, .int i2), (3, .int 0)], [], lay, s2, 0, 0))) (none)
set_option maxRecDepth 100000 in
theorem zr_178_0 (lay : zm_Lay) (σ : zm_Sig) (r0 : Nat) (i1 : Int32) (i2 : Int32) : zm_blk zM zp_178 none 0 0 zc_178 23 (zp_178.drop 0) (0, [(0, .ref r0), (1, .int i1), (2, .int i2)], [], lay, σ, 0, 0) = zb_178_0 lay σ r0 i1 i2 := rfl
theorem ze_178 {lay : zm_Lay} {σ : zm_Sig} {r0 : Nat} {i1 : Int32} {i2 : Int32} {out : zm_Out} {r : zm_St ⊕ zm_Out} (h : zb_178_0 lay σ r0 i1 i2 = some r) (hg : zm_end zp_P 178 out r) : zM 178 [.ref r0, .int i1, .int i2] lay σ = some out :=
  zm_mean_go (M := zd_178) rfl (Nat.le_of_ble_eq_true rfl) (zm_blk_go (M := zd_178) rfl zs_178 23 (zp_178.drop 0) _ r (fun _ h => List.mem_of_mem_drop h) ((zr_178_0 lay σ r0 i1 i2).trans h) hg)
noncomputable def zb_178_9 (lay : zm_Lay) (σ : zm_Sig) (r0 : Nat) (i1 : Int32) (i2 : Int32) (i3 : Int32) : Option (zm_St ⊕ zm_Out) :=
  if i2 ≤ i3 then (some (.inr (none, lay, σ)))
  else ((zm_is lay r0 10).bind fun _ =>
   zm_opt (σ.2.2 r0 1) (fun q1 =>
   (zm_sI lay σ q1 ((((nI 40) : Int32) * i1) + i3) 0).bind fun s2 =>
   some (.inl (9, [(0, .ref r0), (1, .int i1), (2, .int i2), (3, .int (i3 + 1))], [], lay, s2, 0, 0))) (none))
set_option maxRecDepth 100000 in
theorem zr_178_9 (lay : zm_Lay) (σ : zm_Sig) (r0 : Nat) (i1 : Int32) (i2 : Int32) (i3 : Int32) : zm_blk zM zp_178 none 0 0 zc_178 23 (zp_178.drop 7) (9, [(0, .ref r0), (1, .int i1), (2, .int i2), (3, .int i3)], [], lay, σ, 0, 0) = zb_178_9 lay σ r0 i1 i2 i3 := rfl
theorem zg_178_9 {lay : zm_Lay} {σ : zm_Sig} {r0 : Nat} {i1 : Int32} {i2 : Int32} {i3 : Int32} {out : zm_Out} {r : zm_St ⊕ zm_Out} (h : zb_178_9 lay σ r0 i1 i2 i3 = some r) (hg : zm_end zp_P 178 out r) : zm_go zp_P 178 (9, [(0, .ref r0), (1, .int i1), (2, .int i2), (3, .int i3)], [], lay, σ, 0, 0) out :=
  zm_blk_go (M := zd_178) rfl zs_178 23 (zp_178.drop 7) _ r (fun _ h => List.mem_of_mem_drop h) ((zr_178_9 lay σ r0 i1 i2 i3).trans h) hg
/-! SubgroupWriterModel.lay(III)I -/
theorem zs_179 : zm_srt zp_179 = true := by decide +kernel
noncomputable def zb_179_0 (lay : zm_Lay) (σ : zm_Sig) (r0 : Nat) (i1 : Int32) (i2 : Int32) (i3 : Int32) : Option (zm_St ⊕ zm_Out) :=
  (zm_ai (zM 175 [.int i1] lay σ)).bind fun q1 =>
  if ¬ q1.1 = 0 then ((zm_is q1.2.1 r0 10).bind fun _ => (zm_ai (zM 180 [.ref r0, .int i1, .int i2] q1.2.1 q1.2.2)).bind fun q2 =>
   if q2.1 = 0 then ((zm_is q2.2.1 r0 10).bind fun _ =>
    zm_opt (q2.2.2.2.2 r0 1) (fun q3 =>
    (zm_gI q2.2.1 q2.2.2 q3 ((((nI 40) : Int32) * i1) + i2)).bind fun v4 =>
    (zm_is q2.2.1 r0 10).bind fun _ =>
    zm_opt (q2.2.2.2.2 r0 1) (fun q5 =>
    (zm_sI q2.2.1 q2.2.2 q5 ((((nI 40) : Int32) * i1) + i2) i3).bind fun s6 =>
    (zm_is q2.2.1 r0 10).bind fun _ => (zm_ai (zM 181 [.ref r0, .int v4, .int 1] q2.2.1 s6)).bind fun q7 =>
    some (.inr (some (.int q7.1), q7.2.1, q7.2.2))) (none)) (none))
   else ((zm_is q2.2.1 r0 10).bind fun _ => (zm_ai (zM 177 [.ref r0, .int q2.1] q2.2.1 q2.2.2)).bind fun q8 =>
    some (.inr (some (.int q8.1), q8.2.1, q8.2.2))))
  else (some (.inr (some (.int (-1)), q1.2.1, q1.2.2)))
set_option maxRecDepth 100000 in
theorem zr_179_0 (lay : zm_Lay) (σ : zm_Sig) (r0 : Nat) (i1 : Int32) (i2 : Int32) (i3 : Int32) : zm_blk zM zp_179 (some .int) 0 0 zc_179 40 (zp_179.drop 0) (0, [(0, .ref r0), (1, .int i1), (2, .int i2), (3, .int i3)], [], lay, σ, 0, 0) = zb_179_0 lay σ r0 i1 i2 i3 := rfl
theorem ze_179 {lay : zm_Lay} {σ : zm_Sig} {r0 : Nat} {i1 : Int32} {i2 : Int32} {i3 : Int32} {out : zm_Out} {r : zm_St ⊕ zm_Out} (h : zb_179_0 lay σ r0 i1 i2 i3 = some r) (hg : zm_end zp_P 179 out r) : zM 179 [.ref r0, .int i1, .int i2, .int i3] lay σ = some out :=
  zm_mean_go (M := zd_179) rfl (Nat.le_of_ble_eq_true rfl) (zm_blk_go (M := zd_179) rfl zs_179 40 (zp_179.drop 0) _ r (fun _ h => List.mem_of_mem_drop h) ((zr_179_0 lay σ r0 i1 i2 i3).trans h) hg)
/-! SubgroupWriterModel.placeOf(II)I -/
theorem zs_180 : zm_srt zp_180 = true := by decide +kernel
noncomputable def zb_180_0 (lay : zm_Lay) (σ : zm_Sig) (r0 : Nat) (i1 : Int32) (i2 : Int32) : Option (zm_St ⊕ zm_Out) :=
  (zm_is lay r0 10).bind fun _ =>
  zm_opt (σ.2.2 r0 0) (fun q1 =>
  (zm_gI lay σ q1 i1).bind fun v2 =>
  if (0 : Int32) ≤ v2 then ((zm_is lay r0 10).bind fun _ =>
   zm_opt (σ.2.2 r0 0) (fun q3 =>
   (zm_gI lay σ q3 i1).bind fun v4 =>
   (zm_ai (zM 176 [.int i2, .int 0, .int (v4 - 1)] lay σ)).bind fun q5 =>
   if q5.1 = 0 then (some (.inr (some (.int (nI 2)), q5.2.1, q5.2.2)))
   else (some (.inr (some (.int 0), q5.2.1, q5.2.2)))) (none))
  else (some (.inr (some (.int 1), lay, σ)))) (none)
set_option maxRecDepth 100000 in
theorem zr_180_0 (lay : zm_Lay) (σ : zm_Sig) (r0 : Nat) (i1 : Int32) (i2 : Int32) : zm_blk zM zp_180 (some .int) 0 0 zc_180 22 (zp_180.drop 0) (0, [(0, .ref r0), (1, .int i1), (2, .int i2)], [], lay, σ, 0, 0) = zb_180_0 lay σ r0 i1 i2 := rfl
theorem ze_180 {lay : zm_Lay} {σ : zm_Sig} {r0 : Nat} {i1 : Int32} {i2 : Int32} {out : zm_Out} {r : zm_St ⊕ zm_Out} (h : zb_180_0 lay σ r0 i1 i2 = some r) (hg : zm_end zp_P 180 out r) : zM 180 [.ref r0, .int i1, .int i2] lay σ = some out :=
  zm_mean_go (M := zd_180) rfl (Nat.le_of_ble_eq_true rfl) (zm_blk_go (M := zd_180) rfl zs_180 22 (zp_180.drop 0) _ r (fun _ h => List.mem_of_mem_drop h) ((zr_180_0 lay σ r0 i1 i2).trans h) hg)
/-! SubgroupWriterModel.tells(II)I -/
theorem zs_181 : zm_srt zp_181 = true := by decide +kernel
noncomputable def zb_181_0 (lay : zm_Lay) (σ : zm_Sig) (r0 : Nat) (i1 : Int32) (i2 : Int32) : Option (zm_St ⊕ zm_Out) :=
  (zm_is lay r0 10).bind fun _ => (zm_fw σ r0 26 0 (.int i1)).bind fun s1 =>
  some (.inr (some (.int i2), lay, s1))
set_option maxRecDepth 100000 in
theorem zr_181_0 (lay : zm_Lay) (σ : zm_Sig) (r0 : Nat) (i1 : Int32) (i2 : Int32) : zm_blk zM zp_181 (some .int) 0 0 zc_181 6 (zp_181.drop 0) (0, [(0, .ref r0), (1, .int i1), (2, .int i2)], [], lay, σ, 0, 0) = zb_181_0 lay σ r0 i1 i2 := rfl
theorem ze_181 {lay : zm_Lay} {σ : zm_Sig} {r0 : Nat} {i1 : Int32} {i2 : Int32} {out : zm_Out} {r : zm_St ⊕ zm_Out} (h : zb_181_0 lay σ r0 i1 i2 = some r) (hg : zm_end zp_P 181 out r) : zM 181 [.ref r0, .int i1, .int i2] lay σ = some out :=
  zm_mean_go (M := zd_181) rfl (Nat.le_of_ble_eq_true rfl) (zm_blk_go (M := zd_181) rfl zs_181 6 (zp_181.drop 0) _ r (fun _ h => List.mem_of_mem_drop h) ((zr_181_0 lay σ r0 i1 i2).trans h) hg)
/-! SubgroupWriterModel.at(II)I -/
theorem zs_182 : zm_srt zp_182 = true := by decide +kernel
noncomputable def zb_182_0 (lay : zm_Lay) (σ : zm_Sig) (r0 : Nat) (i1 : Int32) (i2 : Int32) : Option (zm_St ⊕ zm_Out) :=
  (zm_ai (zM 175 [.int i1] lay σ)).bind fun q1 =>
  if ¬ q1.1 = 0 then ((zm_is q1.2.1 r0 10).bind fun _ => (zm_ai (zM 180 [.ref r0, .int i1, .int i2] q1.2.1 q1.2.2)).bind fun q2 =>
   if q2.1 = 0 then ((zm_is q2.2.1 r0 10).bind fun _ =>
    zm_opt (q2.2.2.2.2 r0 1) (fun q3 =>
    (zm_gI q2.2.1 q2.2.2 q3 ((((nI 40) : Int32) * i1) + i2)).bind fun v4 =>
    (zm_is q2.2.1 r0 10).bind fun _ => (zm_ai (zM 181 [.ref r0, .int v4, .int 1] q2.2.1 q2.2.2)).bind fun q5 =>
    some (.inr (some (.int q5.1), q5.2.1, q5.2.2))) (none))
   else ((zm_is q2.2.1 r0 10).bind fun _ => (zm_ai (zM 177 [.ref r0, .int q2.1] q2.2.1 q2.2.2)).bind fun q6 =>
    some (.inr (some (.int q6.1), q6.2.1, q6.2.2))))
  else (some (.inr (some (.int (-1)), q1.2.1, q1.2.2)))
set_option maxRecDepth 100000 in
theorem zr_182_0 (lay : zm_Lay) (σ : zm_Sig) (r0 : Nat) (i1 : Int32) (i2 : Int32) : zm_blk zM zp_182 (some .int) 0 0 zc_182 29 (zp_182.drop 0) (0, [(0, .ref r0), (1, .int i1), (2, .int i2)], [], lay, σ, 0, 0) = zb_182_0 lay σ r0 i1 i2 := rfl
theorem ze_182 {lay : zm_Lay} {σ : zm_Sig} {r0 : Nat} {i1 : Int32} {i2 : Int32} {out : zm_Out} {r : zm_St ⊕ zm_Out} (h : zb_182_0 lay σ r0 i1 i2 = some r) (hg : zm_end zp_P 182 out r) : zM 182 [.ref r0, .int i1, .int i2] lay σ = some out :=
  zm_mean_go (M := zd_182) rfl (Nat.le_of_ble_eq_true rfl) (zm_blk_go (M := zd_182) rfl zs_182 29 (zp_182.drop 0) _ r (fun _ h => List.mem_of_mem_drop h) ((zr_182_0 lay σ r0 i1 i2).trans h) hg)
/-! SubgroupWriterModel.tear(I)I -/
theorem zs_183 : zm_srt zp_183 = true := by decide +kernel
noncomputable def zb_183_0 (lay : zm_Lay) (σ : zm_Sig) (r0 : Nat) (i1 : Int32) : Option (zm_St ⊕ zm_Out) :=
  (zm_ai (zM 175 [.int i1] lay σ)).bind fun q1 =>
  if ¬ q1.1 = 0 then ((zm_is q1.2.1 r0 10).bind fun _ =>
   zm_opt (q1.2.2.2.2 r0 0) (fun q2 =>
   (zm_gI q1.2.1 q1.2.2 q2 i1).bind fun v3 =>
   if (0 : Int32) ≤ v3 then ((zm_is q1.2.1 r0 10).bind fun _ =>
    zm_opt (q1.2.2.2.2 r0 0) (fun q4 =>
    (zm_sI q1.2.1 q1.2.2 q4 i1 (-1)).bind fun s5 =>
    some (.inr (some (.int 1), q1.2.1, s5))) (none))
   else ((zm_is q1.2.1 r0 10).bind fun _ => (zm_ai (zM 177 [.ref r0, .int 1] q1.2.1 q1.2.2)).bind fun q6 =>
    some (.inr (some (.int q6.1), q6.2.1, q6.2.2)))) (none))
  else (some (.inr (some (.int (-1)), q1.2.1, q1.2.2)))
set_option maxRecDepth 100000 in
theorem zr_183_0 (lay : zm_Lay) (σ : zm_Sig) (r0 : Nat) (i1 : Int32) : zm_blk zM zp_183 (some .int) 0 0 zc_183 22 (zp_183.drop 0) (0, [(0, .ref r0), (1, .int i1)], [], lay, σ, 0, 0) = zb_183_0 lay σ r0 i1 := rfl
theorem ze_183 {lay : zm_Lay} {σ : zm_Sig} {r0 : Nat} {i1 : Int32} {out : zm_Out} {r : zm_St ⊕ zm_Out} (h : zb_183_0 lay σ r0 i1 = some r) (hg : zm_end zp_P 183 out r) : zM 183 [.ref r0, .int i1] lay σ = some out :=
  zm_mean_go (M := zd_183) rfl (Nat.le_of_ble_eq_true rfl) (zm_blk_go (M := zd_183) rfl zs_183 22 (zp_183.drop 0) _ r (fun _ h => List.mem_of_mem_drop h) ((zr_183_0 lay σ r0 i1).trans h) hg)
/-! SubgroupWriterModel.copy(IIIII)I -/
theorem zs_184 : zm_srt zp_184 = true := by decide +kernel
noncomputable def zb_184_0 (lay : zm_Lay) (σ : zm_Sig) (r0 : Nat) (i1 : Int32) (i2 : Int32) (i3 : Int32) (i4 : Int32) (i5 : Int32) : Option (zm_St ⊕ zm_Out) :=
  (zm_ai (zM 175 [.int i1] lay σ)).bind fun q1 =>
  if q1.1 = 0 then (some (.inr (some (.int (-1)), q1.2.1, q1.2.2)))
  else ((zm_ai (zM 175 [.int i3] q1.2.1 q1.2.2)).bind fun q2 =>
   if ¬ q2.1 = 0 then (if (0 : Int32) ≤ i5 then ((zm_is q2.2.1 r0 10).bind fun _ =>
     zm_opt (q2.2.2.2.2 r0 0) (fun q3 =>
     (zm_gI q2.2.1 q2.2.2 q3 i1).bind fun v4 =>
     if v4 < 0 then ((zm_is q2.2.1 r0 10).bind fun _ => (zm_ai (zM 177 [.ref r0, .int 1] q2.2.1 q2.2.2)).bind fun q5 =>
      some (.inr (some (.int q5.1), q5.2.1, q5.2.2)))
     else ((zm_is q2.2.1 r0 10).bind fun _ =>
      zm_opt (q2.2.2.2.2 r0 0) (fun q6 =>
      (zm_gI q2.2.1 q2.2.2 q6 i3).bind fun v7 =>
      if (0 : Int32) ≤ v7 then (if i2 < 0 then ((zm_is q2.2.1 r0 10).bind fun _ => (zm_ai (zM 177 [.ref r0, .int (nI 2)] q2.2.1 q2.2.2)).bind fun q8 =>
        some (.inr (some (.int q8.1), q8.2.1, q8.2.2)))
       else (if i4 < 0 then ((zm_is q2.2.1 r0 10).bind fun _ => (zm_ai (zM 177 [.ref r0, .int (nI 2)] q2.2.1 q2.2.2)).bind fun q9 =>
         some (.inr (some (.int q9.1), q9.2.1, q9.2.2)))
        else (if ((nI 40) : Int32) < i5 then ((zm_is q2.2.1 r0 10).bind fun _ => (zm_ai (zM 177 [.ref r0, .int (nI 2)] q2.2.1 q2.2.2)).bind fun q10 =>
          some (.inr (some (.int q10.1), q10.2.1, q10.2.2)))
         else ((zm_is q2.2.1 r0 10).bind fun _ =>
          zm_opt (q2.2.2.2.2 r0 0) (fun q11 =>
          (zm_gI q2.2.1 q2.2.2 q11 i1).bind fun v12 =>
          if (v12 - i5) < i2 then ((zm_is q2.2.1 r0 10).bind fun _ => (zm_ai (zM 177 [.ref r0, .int (nI 2)] q2.2.1 q2.2.2)).bind fun q13 =>
           some (.inr (some (.int q13.1), q13.2.1, q13.2.2)))
          else ((zm_is q2.2.1 r0 10).bind fun _ =>
           zm_opt (q2.2.2.2.2 r0 0) (fun q14 =>
           (zm_gI q2.2.1 q2.2.2 q14 i3).bind fun v15 =>
           if i4 ≤ (v15 - i5) then (if i4 ≤ i2 then (some (.inl (116, [(0, .ref r0), (1, .int i1), (2, .int i2), (3, .int i3), (4, .int i4), (5, .int i5), (6, .int 0), (7, .int 0)], [], q2.2.1, q2.2.2, 0, 0)))
            else (some (.inl (116, [(0, .ref r0), (1, .int i1), (2, .int i2), (3, .int i3), (4, .int i4), (5, .int i5), (6, .int 1), (7, .int 0)], [], q2.2.1, q2.2.2, 0, 0))))
           else ((zm_is q2.2.1 r0 10).bind fun _ => (zm_ai (zM 177 [.ref r0, .int (nI 2)] q2.2.1 q2.2.2)).bind fun q16 =>
            some (.inr (some (.int q16.1), q16.2.1, q16.2.2)))) (none))) (none)))))
      else ((zm_is q2.2.1 r0 10).bind fun _ => (zm_ai (zM 177 [.ref r0, .int 1] q2.2.1 q2.2.2)).bind fun q17 =>
       some (.inr (some (.int q17.1), q17.2.1, q17.2.2)))) (none))) (none))
    else ((zm_is q2.2.1 r0 10).bind fun _ => (zm_ai (zM 177 [.ref r0, .int (nI 5)] q2.2.1 q2.2.2)).bind fun q18 =>
     some (.inr (some (.int q18.1), q18.2.1, q18.2.2))))
   else (some (.inr (some (.int (-1)), q2.2.1, q2.2.2))))
set_option maxRecDepth 100000 in
theorem zr_184_0 (lay : zm_Lay) (σ : zm_Sig) (r0 : Nat) (i1 : Int32) (i2 : Int32) (i3 : Int32) (i4 : Int32) (i5 : Int32) : zm_blk zM zp_184 (some .int) 0 0 zc_184 102 (zp_184.drop 0) (0, [(0, .ref r0), (1, .int i1), (2, .int i2), (3, .int i3), (4, .int i4), (5, .int i5)], [], lay, σ, 0, 0) = zb_184_0 lay σ r0 i1 i2 i3 i4 i5 := rfl
theorem ze_184 {lay : zm_Lay} {σ : zm_Sig} {r0 : Nat} {i1 : Int32} {i2 : Int32} {i3 : Int32} {i4 : Int32} {i5 : Int32} {out : zm_Out} {r : zm_St ⊕ zm_Out} (h : zb_184_0 lay σ r0 i1 i2 i3 i4 i5 = some r) (hg : zm_end zp_P 184 out r) : zM 184 [.ref r0, .int i1, .int i2, .int i3, .int i4, .int i5] lay σ = some out :=
  zm_mean_go (M := zd_184) rfl (Nat.le_of_ble_eq_true rfl) (zm_blk_go (M := zd_184) rfl zs_184 102 (zp_184.drop 0) _ r (fun _ h => List.mem_of_mem_drop h) ((zr_184_0 lay σ r0 i1 i2 i3 i4 i5).trans h) hg)
noncomputable def zb_184_116 (lay : zm_Lay) (σ : zm_Sig) (r0 : Nat) (i1 : Int32) (i2 : Int32) (i3 : Int32) (i4 : Int32) (i5 : Int32) (i6 : Int32) (i7 : Int32) : Option (zm_St ⊕ zm_Out) :=
  if i5 ≤ i7 then (some (.inr (some (.int 1), lay, σ)))
  else (if i6 = 0 then ((zm_is lay r0 10).bind fun _ =>
    zm_opt (σ.2.2 r0 1) (fun q1 =>
    (zm_is lay r0 10).bind fun _ =>
    zm_opt (σ.2.2 r0 1) (fun q2 =>
    (zm_gI lay σ q2 (((((nI 40) : Int32) * i1) + i2) + i7)).bind fun v3 =>
    (zm_sI lay σ q1 (((((nI 40) : Int32) * i3) + i4) + i7) v3).bind fun s4 =>
    some (.inl (116, [(0, .ref r0), (1, .int i1), (2, .int i2), (3, .int i3), (4, .int i4), (5, .int i5), (6, .int i6), (7, .int (i7 + 1))], [], lay, s4, 0, 0))) (none)) (none))
   else ((zm_is lay r0 10).bind fun _ =>
    zm_opt (σ.2.2 r0 1) (fun q5 =>
    (zm_is lay r0 10).bind fun _ =>
    zm_opt (σ.2.2 r0 1) (fun q6 =>
    (zm_gI lay σ q6 (((((nI 40) : Int32) * i1) + i2) + ((i5 - 1) - i7))).bind fun v7 =>
    (zm_sI lay σ q5 (((((nI 40) : Int32) * i3) + i4) + ((i5 - 1) - i7)) v7).bind fun s8 =>
    some (.inl (116, [(0, .ref r0), (1, .int i1), (2, .int i2), (3, .int i3), (4, .int i4), (5, .int i5), (6, .int i6), (7, .int (i7 + 1))], [], lay, s8, 0, 0))) (none)) (none)))
set_option maxRecDepth 100000 in
theorem zr_184_116 (lay : zm_Lay) (σ : zm_Sig) (r0 : Nat) (i1 : Int32) (i2 : Int32) (i3 : Int32) (i4 : Int32) (i5 : Int32) (i6 : Int32) (i7 : Int32) : zm_blk zM zp_184 (some .int) 0 0 zc_184 102 (zp_184.drop 64) (116, [(0, .ref r0), (1, .int i1), (2, .int i2), (3, .int i3), (4, .int i4), (5, .int i5), (6, .int i6), (7, .int i7)], [], lay, σ, 0, 0) = zb_184_116 lay σ r0 i1 i2 i3 i4 i5 i6 i7 := rfl
theorem zg_184_116 {lay : zm_Lay} {σ : zm_Sig} {r0 : Nat} {i1 : Int32} {i2 : Int32} {i3 : Int32} {i4 : Int32} {i5 : Int32} {i6 : Int32} {i7 : Int32} {out : zm_Out} {r : zm_St ⊕ zm_Out} (h : zb_184_116 lay σ r0 i1 i2 i3 i4 i5 i6 i7 = some r) (hg : zm_end zp_P 184 out r) : zm_go zp_P 184 (116, [(0, .ref r0), (1, .int i1), (2, .int i2), (3, .int i3), (4, .int i4), (5, .int i5), (6, .int i6), (7, .int i7)], [], lay, σ, 0, 0) out :=
  zm_blk_go (M := zd_184) rfl zs_184 102 (zp_184.drop 64) _ r (fun _ h => List.mem_of_mem_drop h) ((zr_184_116 lay σ r0 i1 i2 i3 i4 i5 i6 i7).trans h) hg
/-! SubgroupWriterModel.mean(I)I -/
theorem zs_185 : zm_srt zp_185 = true := by decide +kernel
noncomputable def zb_185_0 (lay : zm_Lay) (σ : zm_Sig) (r0 : Nat) (i1 : Int32) : Option (zm_St ⊕ zm_Out) :=
  (zm_ai (zM 175 [.int i1] lay σ)).bind fun q1 =>
  if ¬ q1.1 = 0 then ((zm_is q1.2.1 r0 10).bind fun _ =>
   zm_opt (q1.2.2.2.2 r0 0) (fun q2 =>
   (zm_gI q1.2.1 q1.2.2 q2 i1).bind fun v3 =>
   if (0 : Int32) ≤ v3 then ((zm_is q1.2.1 r0 10).bind fun _ =>
    zm_opt (q1.2.2.2.2 r0 0) (fun q4 =>
    (zm_gI q1.2.1 q1.2.2 q4 i1).bind fun v5 =>
    if ¬ v5 = 0 then (some (.inl (44, [(0, .ref r0), (1, .int i1), (2, .long (Int64.ofNat 0)), (4, .int 0)], [], q1.2.1, q1.2.2, 0, 0)))
    else ((zm_is q1.2.1 r0 10).bind fun _ => (zm_ai (zM 177 [.ref r0, .int (nI 4)] q1.2.1 q1.2.2)).bind fun q6 =>
     some (.inr (some (.int q6.1), q6.2.1, q6.2.2)))) (none))
   else ((zm_is q1.2.1 r0 10).bind fun _ => (zm_ai (zM 177 [.ref r0, .int 1] q1.2.1 q1.2.2)).bind fun q7 =>
    some (.inr (some (.int q7.1), q7.2.1, q7.2.2)))) (none))
  else (some (.inr (some (.int (-1)), q1.2.1, q1.2.2)))
set_option maxRecDepth 100000 in
theorem zr_185_0 (lay : zm_Lay) (σ : zm_Sig) (r0 : Nat) (i1 : Int32) : zm_blk zM zp_185 (some .int) 0 0 zc_185 60 (zp_185.drop 0) (0, [(0, .ref r0), (1, .int i1)], [], lay, σ, 0, 0) = zb_185_0 lay σ r0 i1 := rfl
theorem ze_185 {lay : zm_Lay} {σ : zm_Sig} {r0 : Nat} {i1 : Int32} {out : zm_Out} {r : zm_St ⊕ zm_Out} (h : zb_185_0 lay σ r0 i1 = some r) (hg : zm_end zp_P 185 out r) : zM 185 [.ref r0, .int i1] lay σ = some out :=
  zm_mean_go (M := zd_185) rfl (Nat.le_of_ble_eq_true rfl) (zm_blk_go (M := zd_185) rfl zs_185 60 (zp_185.drop 0) _ r (fun _ h => List.mem_of_mem_drop h) ((zr_185_0 lay σ r0 i1).trans h) hg)
noncomputable def zb_185_44 (lay : zm_Lay) (σ : zm_Sig) (r0 : Nat) (i1 : Int32) (l2 : Int64) (i4 : Int32) : Option (zm_St ⊕ zm_Out) :=
  (zm_is lay r0 10).bind fun _ =>
  zm_opt (σ.2.2 r0 0) (fun q1 =>
  (zm_gI lay σ q1 i1).bind fun v2 =>
  if v2 ≤ i4 then ((zm_is lay r0 10).bind fun _ =>
   zm_opt (σ.2.2 r0 0) (fun q3 =>
   (zm_gI lay σ q3 i1).bind fun v4 =>
   if (v4 : Int32).toInt64 = 0 then none
   else ((zm_is lay r0 10).bind fun _ => (zm_ai (zM 181 [.ref r0, .int ((l2 / (v4 : Int32).toInt64) : Int64).toInt32, .int 1] lay σ)).bind fun q5 =>
   some (.inr (some (.int q5.1), q5.2.1, q5.2.2)))) (none))
  else ((zm_is lay r0 10).bind fun _ =>
   zm_opt (σ.2.2 r0 1) (fun q6 =>
   (zm_gI lay σ q6 ((((nI 40) : Int32) * i1) + i4)).bind fun v7 =>
   some (.inl (44, [(0, .ref r0), (1, .int i1), (2, .long (l2 + (v7 : Int32).toInt64)), (4, .int (i4 + 1))], [], lay, σ, 0, 0))) (none))) (none)
set_option maxRecDepth 100000 in
theorem zr_185_44 (lay : zm_Lay) (σ : zm_Sig) (r0 : Nat) (i1 : Int32) (l2 : Int64) (i4 : Int32) : zm_blk zM zp_185 (some .int) 0 0 zc_185 60 (zp_185.drop 27) (44, [(0, .ref r0), (1, .int i1), (2, .long l2), (4, .int i4)], [], lay, σ, 0, 0) = zb_185_44 lay σ r0 i1 l2 i4 := rfl
theorem zg_185_44 {lay : zm_Lay} {σ : zm_Sig} {r0 : Nat} {i1 : Int32} {l2 : Int64} {i4 : Int32} {out : zm_Out} {r : zm_St ⊕ zm_Out} (h : zb_185_44 lay σ r0 i1 l2 i4 = some r) (hg : zm_end zp_P 185 out r) : zm_go zp_P 185 (44, [(0, .ref r0), (1, .int i1), (2, .long l2), (4, .int i4)], [], lay, σ, 0, 0) out :=
  zm_blk_go (M := zd_185) rfl zs_185 60 (zp_185.drop 27) _ r (fun _ h => List.mem_of_mem_drop h) ((zr_185_44 lay σ r0 i1 l2 i4).trans h) hg
/-! SubgroupWriterModel.text(II)I -/
theorem zs_186 : zm_srt zp_186 = true := by decide +kernel
noncomputable def zb_186_0 (lay : zm_Lay) (σ : zm_Sig) (r0 : Nat) (i1 : Int32) (i2 : Int32) : Option (zm_St ⊕ zm_Out) :=
  (zm_ai (zM 187 [.int i1] lay σ)).bind fun q1 =>
  if q1.1 = 0 then (some (.inr (some (.int (-1)), q1.2.1, q1.2.2)))
  else (if i2 ≤ (nI 60) then (if (0 : Int32) ≤ i2 then ((zm_is q1.2.1 r0 10).bind fun _ =>
     zm_opt (q1.2.2.2.2 r0 2) (fun q2 =>
     (zm_sI q1.2.1 q1.2.2 q2 i1 i2).bind fun s3 =>
     some (.inl (34, [(0, .ref r0), (1, .int i1), (2, .int i2), (3, .int 0)], [], q1.2.1, s3, 0, 0))) (none))
    else ((zm_is q1.2.1 r0 10).bind fun _ => (zm_ai (zM 177 [.ref r0, .int (nI 5)] q1.2.1 q1.2.2)).bind fun q4 =>
     some (.inr (some (.int q4.1), q4.2.1, q4.2.2))))
   else (some (.inr (some (.int (-1)), q1.2.1, q1.2.2))))
set_option maxRecDepth 100000 in
theorem zr_186_0 (lay : zm_Lay) (σ : zm_Sig) (r0 : Nat) (i1 : Int32) (i2 : Int32) : zm_blk zM zp_186 (some .int) 0 0 zc_186 38 (zp_186.drop 0) (0, [(0, .ref r0), (1, .int i1), (2, .int i2)], [], lay, σ, 0, 0) = zb_186_0 lay σ r0 i1 i2 := rfl
theorem ze_186 {lay : zm_Lay} {σ : zm_Sig} {r0 : Nat} {i1 : Int32} {i2 : Int32} {out : zm_Out} {r : zm_St ⊕ zm_Out} (h : zb_186_0 lay σ r0 i1 i2 = some r) (hg : zm_end zp_P 186 out r) : zM 186 [.ref r0, .int i1, .int i2] lay σ = some out :=
  zm_mean_go (M := zd_186) rfl (Nat.le_of_ble_eq_true rfl) (zm_blk_go (M := zd_186) rfl zs_186 38 (zp_186.drop 0) _ r (fun _ h => List.mem_of_mem_drop h) ((zr_186_0 lay σ r0 i1 i2).trans h) hg)
noncomputable def zb_186_34 (lay : zm_Lay) (σ : zm_Sig) (r0 : Nat) (i1 : Int32) (i2 : Int32) (i3 : Int32) : Option (zm_St ⊕ zm_Out) :=
  if i2 ≤ i3 then (some (.inr (some (.int i2), lay, σ)))
  else ((zm_is lay r0 10).bind fun _ =>
   zm_opt (σ.2.2 r0 3) (fun q1 =>
   (zm_sI lay σ q1 ((((nI 60) : Int32) * i1) + i3) (nI 32)).bind fun s2 =>
   some (.inl (34, [(0, .ref r0), (1, .int i1), (2, .int i2), (3, .int (i3 + 1))], [], lay, s2, 0, 0))) (none))
set_option maxRecDepth 100000 in
theorem zr_186_34 (lay : zm_Lay) (σ : zm_Sig) (r0 : Nat) (i1 : Int32) (i2 : Int32) (i3 : Int32) : zm_blk zM zp_186 (some .int) 0 0 zc_186 38 (zp_186.drop 21) (34, [(0, .ref r0), (1, .int i1), (2, .int i2), (3, .int i3)], [], lay, σ, 0, 0) = zb_186_34 lay σ r0 i1 i2 i3 := rfl
theorem zg_186_34 {lay : zm_Lay} {σ : zm_Sig} {r0 : Nat} {i1 : Int32} {i2 : Int32} {i3 : Int32} {out : zm_Out} {r : zm_St ⊕ zm_Out} (h : zb_186_34 lay σ r0 i1 i2 i3 = some r) (hg : zm_end zp_P 186 out r) : zm_go zp_P 186 (34, [(0, .ref r0), (1, .int i1), (2, .int i2), (3, .int i3)], [], lay, σ, 0, 0) out :=
  zm_blk_go (M := zd_186) rfl zs_186 38 (zp_186.drop 21) _ r (fun _ h => List.mem_of_mem_drop h) ((zr_186_34 lay σ r0 i1 i2 i3).trans h) hg
/-! SubgroupWriterModel.isText(I)Z -/
theorem zs_187 : zm_srt zp_187 = true := by decide +kernel
noncomputable def zb_187_0 (lay : zm_Lay) (σ : zm_Sig) (i0 : Int32) : Option (zm_St ⊕ zm_Out) :=
  (zm_ai (zM 176 [.int i0, .int 0, .int (nI 3)] lay σ)).bind fun q1 =>
  if q1.1 = 0 ∨ q1.1 = 1 then some (.inr (some (.int q1.1), q1.2.1, q1.2.2)) else none
set_option maxRecDepth 100000 in
theorem zr_187_0 (lay : zm_Lay) (σ : zm_Sig) (i0 : Int32) : zm_blk zM zp_187 (some .boolean) 0 0 zc_187 6 (zp_187.drop 0) (0, [(0, .int i0)], [], lay, σ, 0, 0) = zb_187_0 lay σ i0 := rfl
theorem ze_187 {lay : zm_Lay} {σ : zm_Sig} {i0 : Int32} {out : zm_Out} {r : zm_St ⊕ zm_Out} (h : zb_187_0 lay σ i0 = some r) (hg : zm_end zp_P 187 out r) : zM 187 [.int i0] lay σ = some out :=
  zm_mean_go (M := zd_187) rfl (Nat.le_of_ble_eq_true rfl) (zm_blk_go (M := zd_187) rfl zs_187 6 (zp_187.drop 0) _ r (fun _ h => List.mem_of_mem_drop h) ((zr_187_0 lay σ i0).trans h) hg)
/-! SubgroupWriterModel.put(III)I -/
theorem zs_188 : zm_srt zp_188 = true := by decide +kernel
noncomputable def zb_188_0 (lay : zm_Lay) (σ : zm_Sig) (r0 : Nat) (i1 : Int32) (i2 : Int32) (i3 : Int32) : Option (zm_St ⊕ zm_Out) :=
  (zm_ai (zM 187 [.int i1] lay σ)).bind fun q1 =>
  if ¬ q1.1 = 0 then ((zm_is q1.2.1 r0 10).bind fun _ =>
   zm_opt (q1.2.2.2.2 r0 2) (fun q2 =>
   (zm_gI q1.2.1 q1.2.2 q2 i1).bind fun v3 =>
   if (0 : Int32) ≤ v3 then ((zm_is q1.2.1 r0 10).bind fun _ =>
    zm_opt (q1.2.2.2.2 r0 2) (fun q4 =>
    (zm_gI q1.2.1 q1.2.2 q4 i1).bind fun v5 =>
    (zm_ai (zM 176 [.int i2, .int 0, .int (v5 - 1)] q1.2.1 q1.2.2)).bind fun q6 =>
    if ¬ q6.1 = 0 then ((zm_is q6.2.1 r0 10).bind fun _ =>
     zm_opt (q6.2.2.2.2 r0 3) (fun q7 =>
     (zm_gI q6.2.1 q6.2.2 q7 ((((nI 60) : Int32) * i1) + i2)).bind fun v8 =>
     (zm_is q6.2.1 r0 10).bind fun _ =>
     zm_opt (q6.2.2.2.2 r0 3) (fun q9 =>
     (zm_sI q6.2.1 q6.2.2 q9 ((((nI 60) : Int32) * i1) + i2) ((i3 <<< (((nI 24) : Int32) &&& 31)) >>> (((nI 24) : Int32) &&& 31))).bind fun s10 =>
     some (.inr (some (.int (v8 + (nI 1000))), q6.2.1, s10))) (none)) (none))
    else ((zm_is q6.2.1 r0 10).bind fun _ => (zm_ai (zM 177 [.ref r0, .int (nI 2)] q6.2.1 q6.2.2)).bind fun q11 =>
     some (.inr (some (.int q11.1), q11.2.1, q11.2.2)))) (none))
   else ((zm_is q1.2.1 r0 10).bind fun _ => (zm_ai (zM 177 [.ref r0, .int 1] q1.2.1 q1.2.2)).bind fun q12 =>
    some (.inr (some (.int q12.1), q12.2.1, q12.2.2)))) (none))
  else (some (.inr (some (.int (-1)), q1.2.1, q1.2.2)))
set_option maxRecDepth 100000 in
theorem zr_188_0 (lay : zm_Lay) (σ : zm_Sig) (r0 : Nat) (i1 : Int32) (i2 : Int32) (i3 : Int32) : zm_blk zM zp_188 (some .int) 0 0 zc_188 55 (zp_188.drop 0) (0, [(0, .ref r0), (1, .int i1), (2, .int i2), (3, .int i3)], [], lay, σ, 0, 0) = zb_188_0 lay σ r0 i1 i2 i3 := rfl
theorem ze_188 {lay : zm_Lay} {σ : zm_Sig} {r0 : Nat} {i1 : Int32} {i2 : Int32} {i3 : Int32} {out : zm_Out} {r : zm_St ⊕ zm_Out} (h : zb_188_0 lay σ r0 i1 i2 i3 = some r) (hg : zm_end zp_P 188 out r) : zM 188 [.ref r0, .int i1, .int i2, .int i3] lay σ = some out :=
  zm_mean_go (M := zd_188) rfl (Nat.le_of_ble_eq_true rfl) (zm_blk_go (M := zd_188) rfl zs_188 55 (zp_188.drop 0) _ r (fun _ h => List.mem_of_mem_drop h) ((zr_188_0 lay σ r0 i1 i2 i3).trans h) hg)
/-! SubgroupWriterModel.fault(I)I -/
theorem zs_189 : zm_srt zp_189 = true := by decide +kernel
noncomputable def zb_189_0 (lay : zm_Lay) (σ : zm_Sig) (r0 : Nat) (i1 : Int32) : Option (zm_St ⊕ zm_Out) :=
  (zm_ai (zM 187 [.int i1] lay σ)).bind fun q1 =>
  if ¬ q1.1 = 0 then ((zm_is q1.2.1 r0 10).bind fun _ =>
   zm_opt (q1.2.2.2.2 r0 2) (fun q2 =>
   (zm_gI q1.2.1 q1.2.2 q2 i1).bind fun v3 =>
   if (0 : Int32) ≤ v3 then ((zm_is q1.2.1 r0 10).bind fun _ => (zm_ai (zM 190 [.ref r0, .int i1] q1.2.1 q1.2.2)).bind fun q4 =>
    some (.inr (some (.int q4.1), q4.2.1, q4.2.2)))
   else ((zm_is q1.2.1 r0 10).bind fun _ => (zm_ai (zM 177 [.ref r0, .int 1] q1.2.1 q1.2.2)).bind fun q5 =>
    some (.inr (some (.int q5.1), q5.2.1, q5.2.2)))) (none))
  else (some (.inr (some (.int (-1)), q1.2.1, q1.2.2)))
set_option maxRecDepth 100000 in
theorem zr_189_0 (lay : zm_Lay) (σ : zm_Sig) (r0 : Nat) (i1 : Int32) : zm_blk zM zp_189 (some .int) 0 0 zc_189 19 (zp_189.drop 0) (0, [(0, .ref r0), (1, .int i1)], [], lay, σ, 0, 0) = zb_189_0 lay σ r0 i1 := rfl
theorem ze_189 {lay : zm_Lay} {σ : zm_Sig} {r0 : Nat} {i1 : Int32} {out : zm_Out} {r : zm_St ⊕ zm_Out} (h : zb_189_0 lay σ r0 i1 = some r) (hg : zm_end zp_P 189 out r) : zM 189 [.ref r0, .int i1] lay σ = some out :=
  zm_mean_go (M := zd_189) rfl (Nat.le_of_ble_eq_true rfl) (zm_blk_go (M := zd_189) rfl zs_189 19 (zp_189.drop 0) _ r (fun _ h => List.mem_of_mem_drop h) ((zr_189_0 lay σ r0 i1).trans h) hg)
/-! SubgroupWriterModel.reading(I)I -/
theorem zs_190 : zm_srt zp_190 = true := by decide +kernel
noncomputable def zb_190_0 (lay : zm_Lay) (σ : zm_Sig) (r0 : Nat) (i1 : Int32) : Option (zm_St ⊕ zm_Out) :=
  (zm_is lay r0 10).bind fun _ => (zm_fw σ r0 31 0 (.int 0)).bind fun s1 =>
  (zm_is lay r0 10).bind fun _ => (zm_fw s1 r0 32 0 (.int 0)).bind fun s2 =>
  (zm_is lay r0 10).bind fun _ => (zm_fw s2 r0 33 0 (.int 0)).bind fun s3 =>
  (zm_is lay r0 10).bind fun _ => (zm_fw s3 r0 34 0 (.int 0)).bind fun s4 =>
  (zm_is lay r0 10).bind fun _ => (zm_av (zM 191 [.ref r0, .int i1] lay s4)).bind fun q5 =>
  some (.inl (25, [(0, .ref r0), (1, .int i1)], [], q5.1, q5.2, 0, 0))
set_option maxRecDepth 100000 in
theorem zr_190_0 (lay : zm_Lay) (σ : zm_Sig) (r0 : Nat) (i1 : Int32) : zm_blk zM zp_190 (some .int) 0 0 zc_190 102 (zp_190.drop 0) (0, [(0, .ref r0), (1, .int i1)], [], lay, σ, 0, 0) = zb_190_0 lay σ r0 i1 := rfl
theorem ze_190 {lay : zm_Lay} {σ : zm_Sig} {r0 : Nat} {i1 : Int32} {out : zm_Out} {r : zm_St ⊕ zm_Out} (h : zb_190_0 lay σ r0 i1 = some r) (hg : zm_end zp_P 190 out r) : zM 190 [.ref r0, .int i1] lay σ = some out :=
  zm_mean_go (M := zd_190) rfl (Nat.le_of_ble_eq_true rfl) (zm_blk_go (M := zd_190) rfl zs_190 102 (zp_190.drop 0) _ r (fun _ h => List.mem_of_mem_drop h) ((zr_190_0 lay σ r0 i1).trans h) hg)
noncomputable def zb_190_25 (lay : zm_Lay) (σ : zm_Sig) (r0 : Nat) (i1 : Int32) : Option (zm_St ⊕ zm_Out) :=
  (zm_is lay r0 10).bind fun _ =>
  (zm_is lay r0 10).bind fun _ =>
  zm_opt (σ.2.2 r0 2) (fun q1 =>
  (zm_gI lay σ q1 i1).bind fun v2 =>
  if v2 ≤ (σ.1 r0 31) then ((zm_is lay r0 10).bind fun _ =>
   if (σ.1 r0 33) = 0 then ((zm_is lay r0 10).bind fun _ =>
    zm_opt (σ.2.2 r0 2) (fun q3 =>
    (zm_gI lay σ q3 i1).bind fun v4 =>
    some (.inr (some (.int v4), lay, σ))) (none))
   else ((zm_is lay r0 10).bind fun _ => (zm_ai (zM 198 [.ref r0] lay σ)).bind fun q5 =>
    if ¬ q5.1 = 0 then (some (.inr (some (.int (-9)), q5.2.1, q5.2.2)))
    else ((zm_is q5.2.1 r0 10).bind fun _ =>
     zm_opt (q5.2.2.2.2 r0 2) (fun q6 =>
     (zm_gI q5.2.1 q5.2.2 q6 i1).bind fun v7 =>
     some (.inr (some (.int v7), q5.2.1, q5.2.2))) (none))))
  else ((zm_is lay r0 10).bind fun _ => (zm_ai (zM 192 [.ref r0, .int i1] lay σ)).bind fun q8 =>
   (zm_is q8.2.1 r0 10).bind fun _ =>
   if ¬ q8.1 = (((nI 97) : Int32) + (q8.2.2.1 r0 33)) then (if ¬ q8.1 = (nI 61) then ((zm_is q8.2.1 r0 10).bind fun _ =>
       some (.inr (some (.int (q8.2.2.1 r0 31)), q8.2.1, q8.2.2)))
    else ((zm_is q8.2.1 r0 10).bind fun _ =>
     if (q8.2.2.1 r0 33) ≤ 0 then ((zm_is q8.2.1 r0 10).bind fun _ =>
        some (.inr (some (.int (q8.2.2.1 r0 31)), q8.2.1, q8.2.2)))
     else ((zm_is q8.2.1 r0 10).bind fun _ =>
      if ((nI 3) : Int32) ≤ (q8.2.2.1 r0 34) then ((zm_is q8.2.1 r0 10).bind fun _ =>
         some (.inr (some (.int (q8.2.2.1 r0 31)), q8.2.1, q8.2.2)))
      else ((zm_is q8.2.1 r0 10).bind fun _ =>
         (zm_is q8.2.1 r0 10).bind fun _ => (zm_fw q8.2.2 r0 31 0 (.int ((q8.2.2.1 r0 31) + 1))).bind fun s9 =>
         (zm_is q8.2.1 r0 10).bind fun _ => (zm_ai (zM 195 [.ref r0, .int i1] q8.2.1 s9)).bind fun q10 =>
          if ¬ q10.1 = 0 then ((zm_is q10.2.1 r0 10).bind fun _ => (zm_av (zM 191 [.ref r0, .int i1] q10.2.1 q10.2.2)).bind fun q11 =>
           some (.inl (25, [(0, .ref r0), (1, .int i1)], [], q11.1, q11.2, 0, 0)))
          else ((zm_is q10.2.1 r0 10).bind fun _ =>
           some (.inr (some (.int (q10.2.2.1 r0 31)), q10.2.1, q10.2.2)))))))
   else ((zm_is q8.2.1 r0 10).bind fun _ =>
    if ((nI 3) : Int32) ≤ (q8.2.2.1 r0 33) then (if ¬ q8.1 = (nI 61) then ((zm_is q8.2.1 r0 10).bind fun _ =>
        some (.inr (some (.int (q8.2.2.1 r0 31)), q8.2.1, q8.2.2)))
     else ((zm_is q8.2.1 r0 10).bind fun _ =>
      if (q8.2.2.1 r0 33) ≤ 0 then ((zm_is q8.2.1 r0 10).bind fun _ =>
         some (.inr (some (.int (q8.2.2.1 r0 31)), q8.2.1, q8.2.2)))
      else ((zm_is q8.2.1 r0 10).bind fun _ =>
       if ((nI 3) : Int32) ≤ (q8.2.2.1 r0 34) then ((zm_is q8.2.1 r0 10).bind fun _ =>
          some (.inr (some (.int (q8.2.2.1 r0 31)), q8.2.1, q8.2.2)))
       else ((zm_is q8.2.1 r0 10).bind fun _ =>
          (zm_is q8.2.1 r0 10).bind fun _ => (zm_fw q8.2.2 r0 31 0 (.int ((q8.2.2.1 r0 31) + 1))).bind fun s12 =>
          (zm_is q8.2.1 r0 10).bind fun _ => (zm_ai (zM 195 [.ref r0, .int i1] q8.2.1 s12)).bind fun q13 =>
           if ¬ q13.1 = 0 then ((zm_is q13.2.1 r0 10).bind fun _ => (zm_av (zM 191 [.ref r0, .int i1] q13.2.1 q13.2.2)).bind fun q14 =>
            some (.inl (25, [(0, .ref r0), (1, .int i1)], [], q14.1, q14.2, 0, 0)))
           else ((zm_is q13.2.1 r0 10).bind fun _ =>
            some (.inr (some (.int (q13.2.2.1 r0 31)), q13.2.1, q13.2.2)))))))
    else ((zm_is q8.2.1 r0 10).bind fun _ =>
     if ¬ (q8.2.2.1 r0 34) = 0 then (if ¬ q8.1 = (nI 61) then ((zm_is q8.2.1 r0 10).bind fun _ =>
         some (.inr (some (.int (q8.2.2.1 r0 31)), q8.2.1, q8.2.2)))
      else ((zm_is q8.2.1 r0 10).bind fun _ =>
       if (q8.2.2.1 r0 33) ≤ 0 then ((zm_is q8.2.1 r0 10).bind fun _ =>
          some (.inr (some (.int (q8.2.2.1 r0 31)), q8.2.1, q8.2.2)))
       else ((zm_is q8.2.1 r0 10).bind fun _ =>
        if ((nI 3) : Int32) ≤ (q8.2.2.1 r0 34) then ((zm_is q8.2.1 r0 10).bind fun _ =>
           some (.inr (some (.int (q8.2.2.1 r0 31)), q8.2.1, q8.2.2)))
        else ((zm_is q8.2.1 r0 10).bind fun _ =>
           (zm_is q8.2.1 r0 10).bind fun _ => (zm_fw q8.2.2 r0 31 0 (.int ((q8.2.2.1 r0 31) + 1))).bind fun s15 =>
           (zm_is q8.2.1 r0 10).bind fun _ => (zm_ai (zM 195 [.ref r0, .int i1] q8.2.1 s15)).bind fun q16 =>
            if ¬ q16.1 = 0 then ((zm_is q16.2.1 r0 10).bind fun _ => (zm_av (zM 191 [.ref r0, .int i1] q16.2.1 q16.2.2)).bind fun q17 =>
             some (.inl (25, [(0, .ref r0), (1, .int i1)], [], q17.1, q17.2, 0, 0)))
            else ((zm_is q16.2.1 r0 10).bind fun _ =>
             some (.inr (some (.int (q16.2.2.1 r0 31)), q16.2.1, q16.2.2)))))))
     else (if ¬ q8.1 = (nI 61) then ((zm_is q8.2.1 r0 10).bind fun _ =>
        (zm_is q8.2.1 r0 10).bind fun _ => (zm_fw q8.2.2 r0 31 0 (.int ((q8.2.2.1 r0 31) + 1))).bind fun s18 =>
        (zm_is q8.2.1 r0 10).bind fun _ => (zm_ai (zM 193 [.ref r0, .int i1] q8.2.1 s18)).bind fun q19 =>
         if ¬ q19.1 = 0 then ((zm_is q19.2.1 r0 10).bind fun _ => (zm_av (zM 191 [.ref r0, .int i1] q19.2.1 q19.2.2)).bind fun q20 =>
          some (.inl (25, [(0, .ref r0), (1, .int i1)], [], q20.1, q20.2, 0, 0)))
         else ((zm_is q19.2.1 r0 10).bind fun _ =>
          some (.inr (some (.int (q19.2.2.1 r0 31)), q19.2.1, q19.2.2))))
      else ((zm_is q8.2.1 r0 10).bind fun _ =>
       if (q8.2.2.1 r0 33) ≤ 0 then ((zm_is q8.2.1 r0 10).bind fun _ =>
         (zm_is q8.2.1 r0 10).bind fun _ => (zm_fw q8.2.2 r0 31 0 (.int ((q8.2.2.1 r0 31) + 1))).bind fun s21 =>
         (zm_is q8.2.1 r0 10).bind fun _ => (zm_ai (zM 193 [.ref r0, .int i1] q8.2.1 s21)).bind fun q22 =>
          if ¬ q22.1 = 0 then ((zm_is q22.2.1 r0 10).bind fun _ => (zm_av (zM 191 [.ref r0, .int i1] q22.2.1 q22.2.2)).bind fun q23 =>
           some (.inl (25, [(0, .ref r0), (1, .int i1)], [], q23.1, q23.2, 0, 0)))
          else ((zm_is q22.2.1 r0 10).bind fun _ =>
           some (.inr (some (.int (q22.2.2.1 r0 31)), q22.2.1, q22.2.2))))
       else ((zm_is q8.2.1 r0 10).bind fun _ =>
        if ((nI 3) : Int32) ≤ (q8.2.2.1 r0 34) then ((zm_is q8.2.1 r0 10).bind fun _ =>
          (zm_is q8.2.1 r0 10).bind fun _ => (zm_fw q8.2.2 r0 31 0 (.int ((q8.2.2.1 r0 31) + 1))).bind fun s24 =>
          (zm_is q8.2.1 r0 10).bind fun _ => (zm_ai (zM 193 [.ref r0, .int i1] q8.2.1 s24)).bind fun q25 =>
           if ¬ q25.1 = 0 then ((zm_is q25.2.1 r0 10).bind fun _ => (zm_av (zM 191 [.ref r0, .int i1] q25.2.1 q25.2.2)).bind fun q26 =>
            some (.inl (25, [(0, .ref r0), (1, .int i1)], [], q26.1, q26.2, 0, 0)))
           else ((zm_is q25.2.1 r0 10).bind fun _ =>
            some (.inr (some (.int (q25.2.2.1 r0 31)), q25.2.1, q25.2.2))))
        else ((zm_is q8.2.1 r0 10).bind fun _ =>
          (zm_is q8.2.1 r0 10).bind fun _ => (zm_fw q8.2.2 r0 31 0 (.int ((q8.2.2.1 r0 31) + 1))).bind fun s27 =>
          (zm_is q8.2.1 r0 10).bind fun _ => (zm_ai (zM 193 [.ref r0, .int i1] q8.2.1 s27)).bind fun q28 =>
           if ¬ q28.1 = 0 then ((zm_is q28.2.1 r0 10).bind fun _ => (zm_av (zM 191 [.ref r0, .int i1] q28.2.1 q28.2.2)).bind fun q29 =>
            some (.inl (25, [(0, .ref r0), (1, .int i1)], [], q29.1, q29.2, 0, 0)))
           else ((zm_is q28.2.1 r0 10).bind fun _ =>
            some (.inr (some (.int (q28.2.2.1 r0 31)), q28.2.1, q28.2.2))))))))))) (none)
set_option maxRecDepth 100000 in
theorem zr_190_25 (lay : zm_Lay) (σ : zm_Sig) (r0 : Nat) (i1 : Int32) : zm_blk zM zp_190 (some .int) 0 0 zc_190 102 (zp_190.drop 15) (25, [(0, .ref r0), (1, .int i1)], [], lay, σ, 0, 0) = zb_190_25 lay σ r0 i1 := rfl
theorem zg_190_25 {lay : zm_Lay} {σ : zm_Sig} {r0 : Nat} {i1 : Int32} {out : zm_Out} {r : zm_St ⊕ zm_Out} (h : zb_190_25 lay σ r0 i1 = some r) (hg : zm_end zp_P 190 out r) : zm_go zp_P 190 (25, [(0, .ref r0), (1, .int i1)], [], lay, σ, 0, 0) out :=
  zm_blk_go (M := zd_190) rfl zs_190 102 (zp_190.drop 15) _ r (fun _ h => List.mem_of_mem_drop h) ((zr_190_25 lay σ r0 i1).trans h) hg
/-! SubgroupWriterModel.skips(I)V -/
theorem zs_191 : zm_srt zp_191 = true := by decide +kernel
noncomputable def zb_191_0 (lay : zm_Lay) (σ : zm_Sig) (r0 : Nat) (i1 : Int32) : Option (zm_St ⊕ zm_Out) :=
  (zm_is lay r0 10).bind fun _ => (zm_ai (zM 192 [.ref r0, .int i1] lay σ)).bind fun q1 =>
  if ¬ q1.1 = (nI 32) then (some (.inr (none, q1.2.1, q1.2.2)))
  else ((zm_is q1.2.1 r0 10).bind fun _ =>
   (zm_is q1.2.1 r0 10).bind fun _ => (zm_fw q1.2.2 r0 31 0 (.int ((q1.2.2.1 r0 31) + 1))).bind fun s2 =>
   some (.inl (0, [(0, .ref r0), (1, .int i1)], [], q1.2.1, s2, 0, 0)))
set_option maxRecDepth 100000 in
theorem zr_191_0 (lay : zm_Lay) (σ : zm_Sig) (r0 : Nat) (i1 : Int32) : zm_blk zM zp_191 none 0 0 zc_191 14 (zp_191.drop 0) (0, [(0, .ref r0), (1, .int i1)], [], lay, σ, 0, 0) = zb_191_0 lay σ r0 i1 := rfl
theorem ze_191 {lay : zm_Lay} {σ : zm_Sig} {r0 : Nat} {i1 : Int32} {out : zm_Out} {r : zm_St ⊕ zm_Out} (h : zb_191_0 lay σ r0 i1 = some r) (hg : zm_end zp_P 191 out r) : zM 191 [.ref r0, .int i1] lay σ = some out :=
  zm_mean_go (M := zd_191) rfl (Nat.le_of_ble_eq_true rfl) (zm_blk_go (M := zd_191) rfl zs_191 14 (zp_191.drop 0) _ r (fun _ h => List.mem_of_mem_drop h) ((zr_191_0 lay σ r0 i1).trans h) hg)
theorem zg_191_0 {lay : zm_Lay} {σ : zm_Sig} {r0 : Nat} {i1 : Int32} {out : zm_Out} {r : zm_St ⊕ zm_Out} (h : zb_191_0 lay σ r0 i1 = some r) (hg : zm_end zp_P 191 out r) : zm_go zp_P 191 (0, [(0, .ref r0), (1, .int i1)], [], lay, σ, 0, 0) out :=
  zm_blk_go (M := zd_191) rfl zs_191 14 (zp_191.drop 0) _ r (fun _ h => List.mem_of_mem_drop h) ((zr_191_0 lay σ r0 i1).trans h) hg
/-! SubgroupWriterModel.here(I)I -/
theorem zs_192 : zm_srt zp_192 = true := by decide +kernel
noncomputable def zb_192_0 (lay : zm_Lay) (σ : zm_Sig) (r0 : Nat) (i1 : Int32) : Option (zm_St ⊕ zm_Out) :=
  (zm_is lay r0 10).bind fun _ =>
  (zm_is lay r0 10).bind fun _ =>
  zm_opt (σ.2.2 r0 2) (fun q1 =>
  (zm_gI lay σ q1 i1).bind fun v2 =>
  if v2 ≤ (σ.1 r0 31) then (some (.inr (some (.int (-1000)), lay, σ)))
  else ((zm_is lay r0 10).bind fun _ =>
   zm_opt (σ.2.2 r0 3) (fun q3 =>
   (zm_is lay r0 10).bind fun _ =>
   (zm_gI lay σ q3 ((((nI 60) : Int32) * i1) + (σ.1 r0 31))).bind fun v4 =>
   some (.inr (some (.int v4), lay, σ))) (none))) (none)
set_option maxRecDepth 100000 in
theorem zr_192_0 (lay : zm_Lay) (σ : zm_Sig) (r0 : Nat) (i1 : Int32) : zm_blk zM zp_192 (some .int) 0 0 zc_192 20 (zp_192.drop 0) (0, [(0, .ref r0), (1, .int i1)], [], lay, σ, 0, 0) = zb_192_0 lay σ r0 i1 := rfl
theorem ze_192 {lay : zm_Lay} {σ : zm_Sig} {r0 : Nat} {i1 : Int32} {out : zm_Out} {r : zm_St ⊕ zm_Out} (h : zb_192_0 lay σ r0 i1 = some r) (hg : zm_end zp_P 192 out r) : zM 192 [.ref r0, .int i1] lay σ = some out :=
  zm_mean_go (M := zd_192) rfl (Nat.le_of_ble_eq_true rfl) (zm_blk_go (M := zd_192) rfl zs_192 20 (zp_192.drop 0) _ r (fun _ h => List.mem_of_mem_drop h) ((zr_192_0 lay σ r0 i1).trans h) hg)
/-! SubgroupWriterModel.readsGenerator(I)Z -/
theorem zs_193 : zm_srt zp_193 = true := by decide +kernel
noncomputable def zb_193_0 (lay : zm_Lay) (σ : zm_Sig) (r0 : Nat) (i1 : Int32) : Option (zm_St ⊕ zm_Out) :=
  (zm_is lay r0 10).bind fun _ =>
  if ¬ (σ.1 r0 33) = 0 then (some (.inl (76, [(0, .ref r0), (1, .int i1), (2, .int (σ.1 r0 33)), (3, .int 0), (4, .int 0)], [], lay, σ, 0, 0)))
  else ((zm_is lay r0 10).bind fun _ =>
   some (.inl (17, [(0, .ref r0), (1, .int i1), (2, .int (σ.1 r0 33)), (3, .int 0), (4, .int (σ.1 r0 31))], [], lay, σ, 0, 0)))
set_option maxRecDepth 100000 in
theorem zr_193_0 (lay : zm_Lay) (σ : zm_Sig) (r0 : Nat) (i1 : Int32) : zm_blk zM zp_193 (some .boolean) 0 0 zc_193 134 (zp_193.drop 0) (0, [(0, .ref r0), (1, .int i1)], [], lay, σ, 0, 0) = zb_193_0 lay σ r0 i1 := rfl
theorem ze_193 {lay : zm_Lay} {σ : zm_Sig} {r0 : Nat} {i1 : Int32} {out : zm_Out} {r : zm_St ⊕ zm_Out} (h : zb_193_0 lay σ r0 i1 = some r) (hg : zm_end zp_P 193 out r) : zM 193 [.ref r0, .int i1] lay σ = some out :=
  zm_mean_go (M := zd_193) rfl (Nat.le_of_ble_eq_true rfl) (zm_blk_go (M := zd_193) rfl zs_193 134 (zp_193.drop 0) _ r (fun _ h => List.mem_of_mem_drop h) ((zr_193_0 lay σ r0 i1).trans h) hg)
noncomputable def zb_193_17 (lay : zm_Lay) (σ : zm_Sig) (r0 : Nat) (i1 : Int32) (i2 : Int32) (i3 : Int32) (i4 : Int32) : Option (zm_St ⊕ zm_Out) :=
  (zm_is lay r0 10).bind fun _ => (zm_ai (zM 192 [.ref r0, .int i1] lay σ)).bind fun q1 =>
  (zm_ai (zM 176 [.int q1.1, .int (nI 48), .int (nI 57)] q1.2.1 q1.2.2)).bind fun q2 =>
  if q2.1 = 0 then ((zm_is q2.2.1 r0 10).bind fun _ =>
   (zm_is q2.2.1 r0 10).bind fun _ => (zm_fw q2.2.2 r0 32 0 (.int ((q2.2.2.1 r0 31) - i4))).bind fun s3 =>
   (zm_is q2.2.1 r0 10).bind fun _ => (zm_fw s3 r0 31 0 (.int i4)).bind fun s4 =>
   some (.inl (76, [(0, .ref r0), (1, .int i1), (2, .int i2), (3, .int i3), (4, .int 0)], [], q2.2.1, s4, 0, 0)))
  else ((zm_is q2.2.1 r0 10).bind fun _ =>
   if ((nI 5) : Int32) ≤ ((q2.2.2.1 r0 31) - i4) then ((zm_is q2.2.1 r0 10).bind fun _ =>
    (zm_is q2.2.1 r0 10).bind fun _ => (zm_fw q2.2.2 r0 32 0 (.int ((q2.2.2.1 r0 31) - i4))).bind fun s5 =>
    (zm_is q2.2.1 r0 10).bind fun _ => (zm_fw s5 r0 31 0 (.int i4)).bind fun s6 =>
    some (.inl (76, [(0, .ref r0), (1, .int i1), (2, .int i2), (3, .int i3), (4, .int 0)], [], q2.2.1, s6, 0, 0)))
   else ((zm_is q2.2.1 r0 10).bind fun _ =>
    (zm_is q2.2.1 r0 10).bind fun _ => (zm_fw q2.2.2 r0 31 0 (.int ((q2.2.2.1 r0 31) + 1))).bind fun s7 =>
    some (.inl (17, [(0, .ref r0), (1, .int i1), (2, .int i2), (3, .int i3), (4, .int i4)], [], q2.2.1, s7, 0, 0))))
set_option maxRecDepth 100000 in
theorem zr_193_17 (lay : zm_Lay) (σ : zm_Sig) (r0 : Nat) (i1 : Int32) (i2 : Int32) (i3 : Int32) (i4 : Int32) : zm_blk zM zp_193 (some .boolean) 0 0 zc_193 134 (zp_193.drop 10) (17, [(0, .ref r0), (1, .int i1), (2, .int i2), (3, .int i3), (4, .int i4)], [], lay, σ, 0, 0) = zb_193_17 lay σ r0 i1 i2 i3 i4 := rfl
theorem zg_193_17 {lay : zm_Lay} {σ : zm_Sig} {r0 : Nat} {i1 : Int32} {i2 : Int32} {i3 : Int32} {i4 : Int32} {out : zm_Out} {r : zm_St ⊕ zm_Out} (h : zb_193_17 lay σ r0 i1 i2 i3 i4 = some r) (hg : zm_end zp_P 193 out r) : zm_go zp_P 193 (17, [(0, .ref r0), (1, .int i1), (2, .int i2), (3, .int i3), (4, .int i4)], [], lay, σ, 0, 0) out :=
  zm_blk_go (M := zd_193) rfl zs_193 134 (zp_193.drop 10) _ r (fun _ h => List.mem_of_mem_drop h) ((zr_193_17 lay σ r0 i1 i2 i3 i4).trans h) hg
noncomputable def zb_193_76 (lay : zm_Lay) (σ : zm_Sig) (r0 : Nat) (i1 : Int32) (i2 : Int32) (i3 : Int32) (i4 : Int32) : Option (zm_St ⊕ zm_Out) :=
  (zm_is lay r0 10).bind fun _ =>
  if i4 < (σ.1 r0 32) then ((zm_is lay r0 10).bind fun _ => (zm_ai (zM 192 [.ref r0, .int i1] lay σ)).bind fun q1 =>
   (zm_is q1.2.1 r0 10).bind fun _ =>
   if ((nI 2) : Int32) ≤ (q1.2.2.1 r0 32) then ((zm_is q1.2.1 r0 10).bind fun _ => (zm_ai (zM 192 [.ref r0, .int i1] q1.2.1 q1.2.2)).bind fun q2 =>
    (zm_ai (zM 176 [.int q2.1, .int (nI 48), .int (nI 57)] q2.2.1 q2.2.2)).bind fun q3 =>
    if q3.1 = 0 then (some (.inr (some (.int 0), q3.2.1, q3.2.2)))
    else ((zm_is q3.2.1 r0 10).bind fun _ =>
      if (q3.2.2.1 r0 32) ≤ (q1.1 - (nI 48)) then (some (.inr (some (.int 0), q3.2.1, q3.2.2)))
      else ((zm_ai (zM 194 [.int i3, .int (q1.1 - (nI 48))] q3.2.1 q3.2.2)).bind fun q4 =>
       if q4.1 = 0 then ((zm_is q4.2.1 r0 10).bind fun _ =>
        zm_opt (q4.2.2.2.2 r0 35) (fun q5 =>
        (zm_sI q4.2.1 q4.2.2 q5 ((((nI 5) : Int32) * i2) + i4) (q1.1 - (nI 48))).bind fun s6 =>
        (zm_is q4.2.1 r0 10).bind fun _ =>
         zm_opt (s6.2.2 r0 36) (fun q7 =>
         (zm_sI q4.2.1 s6 q7 ((((nI 5) : Int32) * i2) + (q1.1 - (nI 48))) i4).bind fun s8 =>
         (zm_is q4.2.1 r0 10).bind fun _ =>
         (zm_is q4.2.1 r0 10).bind fun _ => (zm_fw s8 r0 31 0 (.int ((s8.1 r0 31) + 1))).bind fun s9 =>
         some (.inl (76, [(0, .ref r0), (1, .int i1), (2, .int i2), (3, .int (i3 ||| ((1 : Int32) <<< ((q1.1 - (nI 48)) &&& 31)))), (4, .int (i4 + 1))], [], q4.2.1, s9, 0, 0))) (none)) (none))
       else (some (.inr (some (.int 0), q4.2.1, q4.2.2))))))
   else ((zm_is q1.2.1 r0 10).bind fun _ => (zm_ai (zM 192 [.ref r0, .int i1] q1.2.1 q1.2.2)).bind fun q10 =>
    (zm_ai (zM 176 [.int q10.1, .int (nI 48), .int (nI 57)] q10.2.1 q10.2.2)).bind fun q11 =>
    if q11.1 = 0 then (some (.inr (some (.int 0), q11.2.1, q11.2.2)))
    else ((zm_is q11.2.1 r0 10).bind fun _ =>
      zm_opt (q11.2.2.2.2 r0 35) (fun q12 =>
      (zm_sI q11.2.1 q11.2.2 q12 ((((nI 5) : Int32) * i2) + i4) (q1.1 - (nI 48))).bind fun s13 =>
      (zm_is q11.2.1 r0 10).bind fun _ =>
       (zm_is q11.2.1 r0 10).bind fun _ => (zm_fw s13 r0 31 0 (.int ((s13.1 r0 31) + 1))).bind fun s14 =>
       some (.inl (76, [(0, .ref r0), (1, .int i1), (2, .int i2), (3, .int (i3 ||| ((1 : Int32) <<< ((q1.1 - (nI 48)) &&& 31)))), (4, .int (i4 + 1))], [], q11.2.1, s14, 0, 0))) (none))))
  else ((zm_is lay r0 10).bind fun _ =>
   if ((nI 2) : Int32) ≤ (σ.1 r0 32) then ((zm_is lay r0 10).bind fun _ =>
    (zm_is lay r0 10).bind fun _ => (zm_fw σ r0 33 0 (.int ((σ.1 r0 33) + 1))).bind fun s15 =>
    (zm_is lay r0 10).bind fun _ => (zm_ai (zM 192 [.ref r0, .int i1] lay s15)).bind fun q16 =>
    (zm_ai (zM 176 [.int q16.1, .int (nI 48), .int (nI 57)] q16.2.1 q16.2.2)).bind fun q17 =>
    if ¬ q17.1 = 0 then (some (.inr (some (.int 0), q17.2.1, q17.2.2)))
    else (some (.inr (some (.int 1), q17.2.1, q17.2.2))))
   else ((zm_is lay r0 10).bind fun _ => (zm_ai (zM 192 [.ref r0, .int i1] lay σ)).bind fun q18 =>
    (zm_is q18.2.1 r0 10).bind fun _ =>
    if ((nI 2) : Int32) ≤ (q18.2.2.1 r0 32) then ((zm_is q18.2.1 r0 10).bind fun _ => (zm_ai (zM 192 [.ref r0, .int i1] q18.2.1 q18.2.2)).bind fun q19 =>
     (zm_ai (zM 176 [.int q19.1, .int (nI 48), .int (nI 57)] q19.2.1 q19.2.2)).bind fun q20 =>
     if q20.1 = 0 then (some (.inr (some (.int 0), q20.2.1, q20.2.2)))
     else ((zm_is q20.2.1 r0 10).bind fun _ =>
       if (q20.2.2.1 r0 32) ≤ (q18.1 - (nI 48)) then (some (.inr (some (.int 0), q20.2.1, q20.2.2)))
       else ((zm_ai (zM 194 [.int i3, .int (q18.1 - (nI 48))] q20.2.1 q20.2.2)).bind fun q21 =>
        if q21.1 = 0 then ((zm_is q21.2.1 r0 10).bind fun _ =>
         zm_opt (q21.2.2.2.2 r0 35) (fun q22 =>
         (zm_sI q21.2.1 q21.2.2 q22 ((((nI 5) : Int32) * i2) + i4) (q18.1 - (nI 48))).bind fun s23 =>
         (zm_is q21.2.1 r0 10).bind fun _ =>
          zm_opt (s23.2.2 r0 36) (fun q24 =>
          (zm_sI q21.2.1 s23 q24 ((((nI 5) : Int32) * i2) + (q18.1 - (nI 48))) i4).bind fun s25 =>
          (zm_is q21.2.1 r0 10).bind fun _ =>
          (zm_is q21.2.1 r0 10).bind fun _ => (zm_fw s25 r0 31 0 (.int ((s25.1 r0 31) + 1))).bind fun s26 =>
          some (.inl (76, [(0, .ref r0), (1, .int i1), (2, .int i2), (3, .int (i3 ||| ((1 : Int32) <<< ((q18.1 - (nI 48)) &&& 31)))), (4, .int (i4 + 1))], [], q21.2.1, s26, 0, 0))) (none)) (none))
        else (some (.inr (some (.int 0), q21.2.1, q21.2.2))))))
    else ((zm_is q18.2.1 r0 10).bind fun _ => (zm_ai (zM 192 [.ref r0, .int i1] q18.2.1 q18.2.2)).bind fun q27 =>
     (zm_ai (zM 176 [.int q27.1, .int (nI 48), .int (nI 57)] q27.2.1 q27.2.2)).bind fun q28 =>
     if q28.1 = 0 then (some (.inr (some (.int 0), q28.2.1, q28.2.2)))
     else ((zm_is q28.2.1 r0 10).bind fun _ =>
       zm_opt (q28.2.2.2.2 r0 35) (fun q29 =>
       (zm_sI q28.2.1 q28.2.2 q29 ((((nI 5) : Int32) * i2) + i4) (q18.1 - (nI 48))).bind fun s30 =>
       (zm_is q28.2.1 r0 10).bind fun _ =>
        (zm_is q28.2.1 r0 10).bind fun _ => (zm_fw s30 r0 31 0 (.int ((s30.1 r0 31) + 1))).bind fun s31 =>
        some (.inl (76, [(0, .ref r0), (1, .int i1), (2, .int i2), (3, .int (i3 ||| ((1 : Int32) <<< ((q18.1 - (nI 48)) &&& 31)))), (4, .int (i4 + 1))], [], q28.2.1, s31, 0, 0))) (none)))))
set_option maxRecDepth 100000 in
theorem zr_193_76 (lay : zm_Lay) (σ : zm_Sig) (r0 : Nat) (i1 : Int32) (i2 : Int32) (i3 : Int32) (i4 : Int32) : zm_blk zM zp_193 (some .boolean) 0 0 zc_193 134 (zp_193.drop 41) (76, [(0, .ref r0), (1, .int i1), (2, .int i2), (3, .int i3), (4, .int i4)], [], lay, σ, 0, 0) = zb_193_76 lay σ r0 i1 i2 i3 i4 := rfl
theorem zg_193_76 {lay : zm_Lay} {σ : zm_Sig} {r0 : Nat} {i1 : Int32} {i2 : Int32} {i3 : Int32} {i4 : Int32} {out : zm_Out} {r : zm_St ⊕ zm_Out} (h : zb_193_76 lay σ r0 i1 i2 i3 i4 = some r) (hg : zm_end zp_P 193 out r) : zm_go zp_P 193 (76, [(0, .ref r0), (1, .int i1), (2, .int i2), (3, .int i3), (4, .int i4)], [], lay, σ, 0, 0) out :=
  zm_blk_go (M := zd_193) rfl zs_193 134 (zp_193.drop 41) _ r (fun _ h => List.mem_of_mem_drop h) ((zr_193_76 lay σ r0 i1 i2 i3 i4).trans h) hg
/-! SubgroupWriterModel.has(II)Z -/
theorem zs_194 : zm_srt zp_194 = true := by decide +kernel
noncomputable def zb_194_0 (lay : zm_Lay) (σ : zm_Sig) (i0 : Int32) (i1 : Int32) : Option (zm_St ⊕ zm_Out) :=
  if ¬ ((i0 >>> (i1 &&& 31)) &&& 1) = 1 then (some (.inr (some (.int 0), lay, σ)))
  else (some (.inr (some (.int 1), lay, σ)))
set_option maxRecDepth 100000 in
theorem zr_194_0 (lay : zm_Lay) (σ : zm_Sig) (i0 : Int32) (i1 : Int32) : zm_blk zM zp_194 (some .boolean) 0 0 zc_194 12 (zp_194.drop 0) (0, [(0, .int i0), (1, .int i1)], [], lay, σ, 0, 0) = zb_194_0 lay σ i0 i1 := rfl
theorem ze_194 {lay : zm_Lay} {σ : zm_Sig} {i0 : Int32} {i1 : Int32} {out : zm_Out} {r : zm_St ⊕ zm_Out} (h : zb_194_0 lay σ i0 i1 = some r) (hg : zm_end zp_P 194 out r) : zM 194 [.int i0, .int i1] lay σ = some out :=
  zm_mean_go (M := zd_194) rfl (Nat.le_of_ble_eq_true rfl) (zm_blk_go (M := zd_194) rfl zs_194 12 (zp_194.drop 0) _ r (fun _ h => List.mem_of_mem_drop h) ((zr_194_0 lay σ i0 i1).trans h) hg)
/-! SubgroupWriterModel.readsRelator(I)Z -/
theorem zs_195 : zm_srt zp_195 = true := by decide +kernel
noncomputable def zb_195_0 (lay : zm_Lay) (σ : zm_Sig) (r0 : Nat) (i1 : Int32) : Option (zm_St ⊕ zm_Out) :=
  (zm_is lay r0 10).bind fun _ =>
  (zm_is lay r0 10).bind fun _ =>
  some (.inl (15, [(0, .ref r0), (1, .int i1), (2, .int ((σ.1 r0 31) - 1)), (3, .int (σ.1 r0 34)), (4, .int 0)], [], lay, σ, 0, 0))
set_option maxRecDepth 100000 in
theorem zr_195_0 (lay : zm_Lay) (σ : zm_Sig) (r0 : Nat) (i1 : Int32) : zm_blk zM zp_195 (some .boolean) 0 0 zc_195 120 (zp_195.drop 0) (0, [(0, .ref r0), (1, .int i1)], [], lay, σ, 0, 0) = zb_195_0 lay σ r0 i1 := rfl
theorem ze_195 {lay : zm_Lay} {σ : zm_Sig} {r0 : Nat} {i1 : Int32} {out : zm_Out} {r : zm_St ⊕ zm_Out} (h : zb_195_0 lay σ r0 i1 = some r) (hg : zm_end zp_P 195 out r) : zM 195 [.ref r0, .int i1] lay σ = some out :=
  zm_mean_go (M := zd_195) rfl (Nat.le_of_ble_eq_true rfl) (zm_blk_go (M := zd_195) rfl zs_195 120 (zp_195.drop 0) _ r (fun _ h => List.mem_of_mem_drop h) ((zr_195_0 lay σ r0 i1).trans h) hg)
noncomputable def zb_195_15 (lay : zm_Lay) (σ : zm_Sig) (r0 : Nat) (i1 : Int32) (i2 : Int32) (i3 : Int32) (i4 : Int32) : Option (zm_St ⊕ zm_Out) :=
  (zm_is lay r0 10).bind fun _ => (zm_ai (zM 192 [.ref r0, .int i1] lay σ)).bind fun q1 =>
  (zm_ai (zM 196 [.int q1.1] q1.2.1 q1.2.2)).bind fun q2 =>
  if q2.1 = 0 then (if ¬ i4 = 0 then ((zm_is q2.2.1 r0 10).bind fun _ =>
    zm_opt (q2.2.2.2.2 r0 37) (fun q3 =>
    (zm_sI q2.2.1 q2.2.2 q3 i3 i4).bind fun s4 =>
    (zm_is q2.2.1 r0 10).bind fun _ =>
    (zm_is q2.2.1 r0 10).bind fun _ => (zm_fw s4 r0 34 0 (.int ((s4.1 r0 34) + 1))).bind fun s5 =>
    some (.inl (148, [(0, .ref r0), (2, .int i2), (3, .int i3), (4, .int i4), (5, .int 0)], [], q2.2.1, s5, 0, 0))) (none))
   else (some (.inr (some (.int 0), q2.2.1, q2.2.2))))
  else ((zm_is q2.2.1 r0 10).bind fun _ => (zm_ai (zM 192 [.ref r0, .int i1] q2.2.1 q2.2.2)).bind fun q6 =>
   (zm_ai (zM 176 [.int q6.1, .int (nI 97), .int (nI 99)] q6.2.1 q6.2.2)).bind fun q7 =>
   if q7.1 = 0 then ((zm_is q7.2.1 r0 10).bind fun _ =>
    if (q7.2.2.1 r0 33) < (((nI 64) : Int32) - q6.1) then (some (.inr (some (.int 0), q7.2.1, q7.2.2)))
    else ((zm_is q7.2.1 r0 10).bind fun _ =>
     if (q7.2.2.1 r0 33) < (-(((nI 64) : Int32) - q6.1)) then (some (.inr (some (.int 0), q7.2.1, q7.2.2)))
     else (if ¬ i4 = (nI 8) then ((zm_is q7.2.1 r0 10).bind fun _ =>
       zm_opt (q7.2.2.2.2 r0 38) (fun q8 =>
       (zm_sI q7.2.1 q7.2.2 q8 ((((nI 8) : Int32) * i3) + i4) (((nI 64) : Int32) - q6.1)).bind fun s9 =>
       (zm_is q7.2.1 r0 10).bind fun _ =>
       (zm_is q7.2.1 r0 10).bind fun _ => (zm_fw s9 r0 31 0 (.int ((s9.1 r0 31) + 1))).bind fun s10 =>
       some (.inl (15, [(0, .ref r0), (1, .int i1), (2, .int i2), (3, .int i3), (4, .int (i4 + 1))], [], q7.2.1, s10, 0, 0))) (none))
      else (some (.inr (some (.int 0), q7.2.1, q7.2.2))))))
   else ((zm_is q7.2.1 r0 10).bind fun _ =>
    if (q7.2.2.1 r0 33) < ((q6.1 - (nI 97)) + 1) then (some (.inr (some (.int 0), q7.2.1, q7.2.2)))
    else ((zm_is q7.2.1 r0 10).bind fun _ =>
     if (q7.2.2.1 r0 33) < (-((q6.1 - (nI 97)) + 1)) then (some (.inr (some (.int 0), q7.2.1, q7.2.2)))
     else (if ¬ i4 = (nI 8) then ((zm_is q7.2.1 r0 10).bind fun _ =>
       zm_opt (q7.2.2.2.2 r0 38) (fun q11 =>
       (zm_sI q7.2.1 q7.2.2 q11 ((((nI 8) : Int32) * i3) + i4) ((q6.1 - (nI 97)) + 1)).bind fun s12 =>
       (zm_is q7.2.1 r0 10).bind fun _ =>
       (zm_is q7.2.1 r0 10).bind fun _ => (zm_fw s12 r0 31 0 (.int ((s12.1 r0 31) + 1))).bind fun s13 =>
       some (.inl (15, [(0, .ref r0), (1, .int i1), (2, .int i2), (3, .int i3), (4, .int (i4 + 1))], [], q7.2.1, s13, 0, 0))) (none))
      else (some (.inr (some (.int 0), q7.2.1, q7.2.2)))))))
set_option maxRecDepth 100000 in
theorem zr_195_15 (lay : zm_Lay) (σ : zm_Sig) (r0 : Nat) (i1 : Int32) (i2 : Int32) (i3 : Int32) (i4 : Int32) : zm_blk zM zp_195 (some .boolean) 0 0 zc_195 120 (zp_195.drop 10) (15, [(0, .ref r0), (1, .int i1), (2, .int i2), (3, .int i3), (4, .int i4)], [], lay, σ, 0, 0) = zb_195_15 lay σ r0 i1 i2 i3 i4 := rfl
theorem zg_195_15 {lay : zm_Lay} {σ : zm_Sig} {r0 : Nat} {i1 : Int32} {i2 : Int32} {i3 : Int32} {i4 : Int32} {out : zm_Out} {r : zm_St ⊕ zm_Out} (h : zb_195_15 lay σ r0 i1 i2 i3 i4 = some r) (hg : zm_end zp_P 195 out r) : zm_go zp_P 195 (15, [(0, .ref r0), (1, .int i1), (2, .int i2), (3, .int i3), (4, .int i4)], [], lay, σ, 0, 0) out :=
  zm_blk_go (M := zd_195) rfl zs_195 120 (zp_195.drop 10) _ r (fun _ h => List.mem_of_mem_drop h) ((zr_195_15 lay σ r0 i1 i2 i3 i4).trans h) hg
noncomputable def zb_195_148 (lay : zm_Lay) (σ : zm_Sig) (r0 : Nat) (i2 : Int32) (i3 : Int32) (i4 : Int32) (i5 : Int32) : Option (zm_St ⊕ zm_Out) :=
  (zm_is lay r0 10).bind fun _ =>
  if (σ.1 r0 32) ≤ i5 then (some (.inr (some (.int 1), lay, σ)))
  else (some (.inl (164, [(0, .ref r0), (2, .int i2), (3, .int i3), (4, .int i4), (5, .int i5), (6, .int i5), (7, .int 0)], [], lay, σ, 0, 0)))
set_option maxRecDepth 100000 in
theorem zr_195_148 (lay : zm_Lay) (σ : zm_Sig) (r0 : Nat) (i2 : Int32) (i3 : Int32) (i4 : Int32) (i5 : Int32) : zm_blk zM zp_195 (some .boolean) 0 0 zc_195 120 (zp_195.drop 82) (148, [(0, .ref r0), (2, .int i2), (3, .int i3), (4, .int i4), (5, .int i5)], [], lay, σ, 0, 0) = zb_195_148 lay σ r0 i2 i3 i4 i5 := rfl
theorem zg_195_148 {lay : zm_Lay} {σ : zm_Sig} {r0 : Nat} {i2 : Int32} {i3 : Int32} {i4 : Int32} {i5 : Int32} {out : zm_Out} {r : zm_St ⊕ zm_Out} (h : zb_195_148 lay σ r0 i2 i3 i4 i5 = some r) (hg : zm_end zp_P 195 out r) : zm_go zp_P 195 (148, [(0, .ref r0), (2, .int i2), (3, .int i3), (4, .int i4), (5, .int i5)], [], lay, σ, 0, 0) out :=
  zm_blk_go (M := zd_195) rfl zs_195 120 (zp_195.drop 82) _ r (fun _ h => List.mem_of_mem_drop h) ((zr_195_148 lay σ r0 i2 i3 i4 i5).trans h) hg
noncomputable def zb_195_164 (lay : zm_Lay) (σ : zm_Sig) (r0 : Nat) (i2 : Int32) (i3 : Int32) (i4 : Int32) (i5 : Int32) (i6 : Int32) (i7 : Int32) : Option (zm_St ⊕ zm_Out) :=
  if i4 ≤ i7 then (if i6 = i5 then (some (.inl (148, [(0, .ref r0), (2, .int i2), (3, .int i3), (4, .int i4), (5, .int (i5 + 1))], [], lay, σ, 0, 0)))
   else ((zm_is lay r0 10).bind fun _ => (zm_fw σ r0 31 0 (.int i2)).bind fun s1 =>
    some (.inr (some (.int 0), lay, s1))))
  else ((zm_is lay r0 10).bind fun _ =>
   zm_opt (σ.2.2 r0 38) (fun q2 =>
   (zm_gI lay σ q2 ((((nI 8) : Int32) * i3) + i7)).bind fun v3 =>
   (zm_is lay r0 10).bind fun _ => (zm_ai (zM 197 [.ref r0, .int i6, .int v3] lay σ)).bind fun q4 =>
   some (.inl (164, [(0, .ref r0), (2, .int i2), (3, .int i3), (4, .int i4), (5, .int i5), (6, .int q4.1), (7, .int (i7 + 1))], [], q4.2.1, q4.2.2, 0, 0))) (none))
set_option maxRecDepth 100000 in
theorem zr_195_164 (lay : zm_Lay) (σ : zm_Sig) (r0 : Nat) (i2 : Int32) (i3 : Int32) (i4 : Int32) (i5 : Int32) (i6 : Int32) (i7 : Int32) : zm_blk zM zp_195 (some .boolean) 0 0 zc_195 120 (zp_195.drop 90) (164, [(0, .ref r0), (2, .int i2), (3, .int i3), (4, .int i4), (5, .int i5), (6, .int i6), (7, .int i7)], [], lay, σ, 0, 0) = zb_195_164 lay σ r0 i2 i3 i4 i5 i6 i7 := rfl
theorem zg_195_164 {lay : zm_Lay} {σ : zm_Sig} {r0 : Nat} {i2 : Int32} {i3 : Int32} {i4 : Int32} {i5 : Int32} {i6 : Int32} {i7 : Int32} {out : zm_Out} {r : zm_St ⊕ zm_Out} (h : zb_195_164 lay σ r0 i2 i3 i4 i5 i6 i7 = some r) (hg : zm_end zp_P 195 out r) : zm_go zp_P 195 (164, [(0, .ref r0), (2, .int i2), (3, .int i3), (4, .int i4), (5, .int i5), (6, .int i6), (7, .int i7)], [], lay, σ, 0, 0) out :=
  zm_blk_go (M := zd_195) rfl zs_195 120 (zp_195.drop 90) _ r (fun _ h => List.mem_of_mem_drop h) ((zr_195_164 lay σ r0 i2 i3 i4 i5 i6 i7).trans h) hg
/-! SubgroupWriterModel.isAnyLetter(I)Z -/
theorem zs_196 : zm_srt zp_196 = true := by decide +kernel
noncomputable def zb_196_0 (lay : zm_Lay) (σ : zm_Sig) (i0 : Int32) : Option (zm_St ⊕ zm_Out) :=
  (zm_ai (zM 176 [.int i0, .int (nI 97), .int (nI 99)] lay σ)).bind fun q1 =>
  if ¬ q1.1 = 0 then (some (.inr (some (.int 1), q1.2.1, q1.2.2)))
  else ((zm_ai (zM 176 [.int i0, .int (nI 65), .int (nI 67)] q1.2.1 q1.2.2)).bind fun q2 =>
   if q2.1 = 0 then (some (.inr (some (.int 0), q2.2.1, q2.2.2)))
   else (some (.inr (some (.int 1), q2.2.1, q2.2.2))))
set_option maxRecDepth 100000 in
theorem zr_196_0 (lay : zm_Lay) (σ : zm_Sig) (i0 : Int32) : zm_blk zM zp_196 (some .boolean) 0 0 zc_196 15 (zp_196.drop 0) (0, [(0, .int i0)], [], lay, σ, 0, 0) = zb_196_0 lay σ i0 := rfl
theorem ze_196 {lay : zm_Lay} {σ : zm_Sig} {i0 : Int32} {out : zm_Out} {r : zm_St ⊕ zm_Out} (h : zb_196_0 lay σ i0 = some r) (hg : zm_end zp_P 196 out r) : zM 196 [.int i0] lay σ = some out :=
  zm_mean_go (M := zd_196) rfl (Nat.le_of_ble_eq_true rfl) (zm_blk_go (M := zd_196) rfl zs_196 15 (zp_196.drop 0) _ r (fun _ h => List.mem_of_mem_drop h) ((zr_196_0 lay σ i0).trans h) hg)
/-! SubgroupWriterModel.readGoes(II)I -/
theorem zs_197 : zm_srt zp_197 = true := by decide +kernel
noncomputable def zb_197_0 (lay : zm_Lay) (σ : zm_Sig) (r0 : Nat) (i1 : Int32) (i2 : Int32) : Option (zm_St ⊕ zm_Out) :=
  if i2 ≤ 0 then ((zm_is lay r0 10).bind fun _ =>
   zm_opt (σ.2.2 r0 36) (fun q1 =>
   (zm_gI lay σ q1 ((((nI 5) : Int32) * ((-i2) - 1)) + i1)).bind fun v2 =>
   some (.inr (some (.int v2), lay, σ))) (none))
  else ((zm_is lay r0 10).bind fun _ =>
   zm_opt (σ.2.2 r0 35) (fun q3 =>
   (zm_gI lay σ q3 ((((nI 5) : Int32) * (i2 - 1)) + i1)).bind fun v4 =>
   some (.inr (some (.int v4), lay, σ))) (none))
set_option maxRecDepth 100000 in
theorem zr_197_0 (lay : zm_Lay) (σ : zm_Sig) (r0 : Nat) (i1 : Int32) (i2 : Int32) : zm_blk zM zp_197 (some .int) 0 0 zc_197 26 (zp_197.drop 0) (0, [(0, .ref r0), (1, .int i1), (2, .int i2)], [], lay, σ, 0, 0) = zb_197_0 lay σ r0 i1 i2 := rfl
theorem ze_197 {lay : zm_Lay} {σ : zm_Sig} {r0 : Nat} {i1 : Int32} {i2 : Int32} {out : zm_Out} {r : zm_St ⊕ zm_Out} (h : zb_197_0 lay σ r0 i1 i2 = some r) (hg : zm_end zp_P 197 out r) : zM 197 [.ref r0, .int i1, .int i2] lay σ = some out :=
  zm_mean_go (M := zd_197) rfl (Nat.le_of_ble_eq_true rfl) (zm_blk_go (M := zd_197) rfl zs_197 26 (zp_197.drop 0) _ r (fun _ h => List.mem_of_mem_drop h) ((zr_197_0 lay σ r0 i1 i2).trans h) hg)
/-! SubgroupWriterModel.areReached()Z -/
theorem zs_198 : zm_srt zp_198 = true := by decide +kernel
noncomputable def zb_198_0 (lay : zm_Lay) (σ : zm_Sig) (r0 : Nat) : Option (zm_St ⊕ zm_Out) :=
  some (.inl (4, [(0, .ref r0), (1, .int 1), (2, .int 0)], [], lay, σ, 0, 0))
set_option maxRecDepth 100000 in
theorem zr_198_0 (lay : zm_Lay) (σ : zm_Sig) (r0 : Nat) : zm_blk zM zp_198 (some .boolean) 0 0 zc_198 68 (zp_198.drop 0) (0, [(0, .ref r0)], [], lay, σ, 0, 0) = zb_198_0 lay σ r0 := rfl
theorem ze_198 {lay : zm_Lay} {σ : zm_Sig} {r0 : Nat} {out : zm_Out} {r : zm_St ⊕ zm_Out} (h : zb_198_0 lay σ r0 = some r) (hg : zm_end zp_P 198 out r) : zM 198 [.ref r0] lay σ = some out :=
  zm_mean_go (M := zd_198) rfl (Nat.le_of_ble_eq_true rfl) (zm_blk_go (M := zd_198) rfl zs_198 68 (zp_198.drop 0) _ r (fun _ h => List.mem_of_mem_drop h) ((zr_198_0 lay σ r0).trans h) hg)
noncomputable def zb_198_4 (lay : zm_Lay) (σ : zm_Sig) (r0 : Nat) (i1 : Int32) (i2 : Int32) : Option (zm_St ⊕ zm_Out) :=
  if ((nI 5) : Int32) ≤ i2 then ((zm_is lay r0 10).bind fun _ =>
   if ¬ i1 = (((1 : Int32) <<< ((σ.1 r0 32) &&& 31)) - 1) then (some (.inr (some (.int 0), lay, σ)))
   else (some (.inr (some (.int 1), lay, σ))))
  else (some (.inl (11, [(0, .ref r0), (1, .int i1), (2, .int i2), (3, .int 0)], [], lay, σ, 0, 0)))
set_option maxRecDepth 100000 in
theorem zr_198_4 (lay : zm_Lay) (σ : zm_Sig) (r0 : Nat) (i1 : Int32) (i2 : Int32) : zm_blk zM zp_198 (some .boolean) 0 0 zc_198 68 (zp_198.drop 4) (4, [(0, .ref r0), (1, .int i1), (2, .int i2)], [], lay, σ, 0, 0) = zb_198_4 lay σ r0 i1 i2 := rfl
theorem zg_198_4 {lay : zm_Lay} {σ : zm_Sig} {r0 : Nat} {i1 : Int32} {i2 : Int32} {out : zm_Out} {r : zm_St ⊕ zm_Out} (h : zb_198_4 lay σ r0 i1 i2 = some r) (hg : zm_end zp_P 198 out r) : zm_go zp_P 198 (4, [(0, .ref r0), (1, .int i1), (2, .int i2)], [], lay, σ, 0, 0) out :=
  zm_blk_go (M := zd_198) rfl zs_198 68 (zp_198.drop 4) _ r (fun _ h => List.mem_of_mem_drop h) ((zr_198_4 lay σ r0 i1 i2).trans h) hg
noncomputable def zb_198_11 (lay : zm_Lay) (σ : zm_Sig) (r0 : Nat) (i1 : Int32) (i2 : Int32) (i3 : Int32) : Option (zm_St ⊕ zm_Out) :=
  (zm_is lay r0 10).bind fun _ =>
  if (σ.1 r0 32) ≤ i3 then (some (.inl (4, [(0, .ref r0), (1, .int i1), (2, .int (i2 + 1))], [], lay, σ, 0, 0)))
  else (some (.inl (22, [(0, .ref r0), (1, .int i1), (2, .int i2), (3, .int i3), (4, .int 0)], [], lay, σ, 0, 0)))
set_option maxRecDepth 100000 in
theorem zr_198_11 (lay : zm_Lay) (σ : zm_Sig) (r0 : Nat) (i1 : Int32) (i2 : Int32) (i3 : Int32) : zm_blk zM zp_198 (some .boolean) 0 0 zc_198 68 (zp_198.drop 9) (11, [(0, .ref r0), (1, .int i1), (2, .int i2), (3, .int i3)], [], lay, σ, 0, 0) = zb_198_11 lay σ r0 i1 i2 i3 := rfl
theorem zg_198_11 {lay : zm_Lay} {σ : zm_Sig} {r0 : Nat} {i1 : Int32} {i2 : Int32} {i3 : Int32} {out : zm_Out} {r : zm_St ⊕ zm_Out} (h : zb_198_11 lay σ r0 i1 i2 i3 = some r) (hg : zm_end zp_P 198 out r) : zm_go zp_P 198 (11, [(0, .ref r0), (1, .int i1), (2, .int i2), (3, .int i3)], [], lay, σ, 0, 0) out :=
  zm_blk_go (M := zd_198) rfl zs_198 68 (zp_198.drop 9) _ r (fun _ h => List.mem_of_mem_drop h) ((zr_198_11 lay σ r0 i1 i2 i3).trans h) hg
noncomputable def zb_198_22 (lay : zm_Lay) (σ : zm_Sig) (r0 : Nat) (i1 : Int32) (i2 : Int32) (i3 : Int32) (i4 : Int32) : Option (zm_St ⊕ zm_Out) :=
  (zm_is lay r0 10).bind fun _ =>
  if (σ.1 r0 33) ≤ i4 then (some (.inl (11, [(0, .ref r0), (1, .int i1), (2, .int i2), (3, .int (i3 + 1))], [], lay, σ, 0, 0)))
  else ((zm_ai (zM 194 [.int i1, .int i3] lay σ)).bind fun q1 =>
   if q1.1 = 0 then (some (.inl (11, [(0, .ref r0), (1, .int i1), (2, .int i2), (3, .int (i3 + 1))], [], q1.2.1, q1.2.2, 0, 0)))
   else ((zm_is q1.2.1 r0 10).bind fun _ =>
    zm_opt (q1.2.2.2.2 r0 35) (fun q2 =>
    (zm_gI q1.2.1 q1.2.2 q2 ((((nI 5) : Int32) * i4) + i3)).bind fun v3 =>
    (zm_is q1.2.1 r0 10).bind fun _ =>
    zm_opt (q1.2.2.2.2 r0 36) (fun q4 =>
    (zm_gI q1.2.1 q1.2.2 q4 ((((nI 5) : Int32) * i4) + i3)).bind fun v5 =>
    some (.inl (22, [(0, .ref r0), (1, .int ((i1 ||| ((1 : Int32) <<< (v3 &&& 31))) ||| ((1 : Int32) <<< (v5 &&& 31)))), (2, .int i2), (3, .int i3), (4, .int (i4 + 1))], [], q1.2.1, q1.2.2, 0, 0))) (none)) (none)))
set_option maxRecDepth 100000 in
theorem zr_198_22 (lay : zm_Lay) (σ : zm_Sig) (r0 : Nat) (i1 : Int32) (i2 : Int32) (i3 : Int32) (i4 : Int32) : zm_blk zM zp_198 (some .boolean) 0 0 zc_198 68 (zp_198.drop 15) (22, [(0, .ref r0), (1, .int i1), (2, .int i2), (3, .int i3), (4, .int i4)], [], lay, σ, 0, 0) = zb_198_22 lay σ r0 i1 i2 i3 i4 := rfl
theorem zg_198_22 {lay : zm_Lay} {σ : zm_Sig} {r0 : Nat} {i1 : Int32} {i2 : Int32} {i3 : Int32} {i4 : Int32} {out : zm_Out} {r : zm_St ⊕ zm_Out} (h : zb_198_22 lay σ r0 i1 i2 i3 i4 = some r) (hg : zm_end zp_P 198 out r) : zm_go zp_P 198 (22, [(0, .ref r0), (1, .int i1), (2, .int i2), (3, .int i3), (4, .int i4)], [], lay, σ, 0, 0) out :=
  zm_blk_go (M := zd_198) rfl zs_198 68 (zp_198.drop 15) _ r (fun _ h => List.mem_of_mem_drop h) ((zr_198_22 lay σ r0 i1 i2 i3 i4).trans h) hg
/-! SubgroupWriterModel.group(I)I -/
theorem zs_199 : zm_srt zp_199 = true := by decide +kernel
noncomputable def zb_199_0 (lay : zm_Lay) (σ : zm_Sig) (r0 : Nat) (i1 : Int32) : Option (zm_St ⊕ zm_Out) :=
  (zm_ai (zM 187 [.int i1] lay σ)).bind fun q1 =>
  if ¬ q1.1 = 0 then ((zm_is q1.2.1 r0 10).bind fun _ =>
   zm_opt (q1.2.2.2.2 r0 2) (fun q2 =>
   (zm_gI q1.2.1 q1.2.2 q2 i1).bind fun v3 =>
   if (0 : Int32) ≤ v3 then ((zm_is q1.2.1 r0 10).bind fun _ => (zm_ai (zM 190 [.ref r0, .int i1] q1.2.1 q1.2.2)).bind fun q4 =>
    if q4.1 = (-9) then ((zm_is q4.2.1 r0 10).bind fun _ =>
     (zm_is q4.2.1 r0 10).bind fun _ => (zm_fw q4.2.2 r0 4 0 (.int (q4.2.2.1 r0 32))).bind fun s5 =>
     (zm_is q4.2.1 r0 10).bind fun _ =>
     (zm_is q4.2.1 r0 10).bind fun _ => (zm_fw s5 r0 5 0 (.int (s5.1 r0 33))).bind fun s6 =>
     (zm_is q4.2.1 r0 10).bind fun _ =>
     (zm_is q4.2.1 r0 10).bind fun _ => (zm_fw s6 r0 6 0 (.int (s6.1 r0 34))).bind fun s7 =>
     (zm_is q4.2.1 r0 10).bind fun _ =>
     zm_opt (s7.2.2 r0 35) (fun q8 =>
     (zm_is q4.2.1 r0 10).bind fun _ =>
     zm_opt (s7.2.2 r0 7) (fun q9 =>
     (zm_av (zM 200 [.ref q8, .int 0, .ref q9, .int 0, .int (nI 15)] q4.2.1 s7)).bind fun q10 =>
     (zm_is q10.1 r0 10).bind fun _ =>
     zm_opt (q10.2.2.2 r0 36) (fun q11 =>
     (zm_is q10.1 r0 10).bind fun _ =>
     zm_opt (q10.2.2.2 r0 8) (fun q12 =>
     (zm_av (zM 200 [.ref q11, .int 0, .ref q12, .int 0, .int (nI 15)] q10.1 q10.2)).bind fun q13 =>
     (zm_is q13.1 r0 10).bind fun _ =>
     zm_opt (q13.2.2.2 r0 37) (fun q14 =>
     (zm_is q13.1 r0 10).bind fun _ =>
     zm_opt (q13.2.2.2 r0 9) (fun q15 =>
     (zm_av (zM 200 [.ref q14, .int 0, .ref q15, .int 0, .int (nI 3)] q13.1 q13.2)).bind fun q16 =>
     (zm_is q16.1 r0 10).bind fun _ =>
     zm_opt (q16.2.2.2 r0 38) (fun q17 =>
     (zm_is q16.1 r0 10).bind fun _ =>
     zm_opt (q16.2.2.2 r0 10) (fun q18 =>
     (zm_av (zM 200 [.ref q17, .int 0, .ref q18, .int 0, .int (nI 24)] q16.1 q16.2)).bind fun q19 =>
     (zm_is q19.1 r0 10).bind fun _ => (zm_fw q19.2 r0 23 0 (.int 0)).bind fun s20 =>
     some (.inl (127, [(0, .ref r0), (2, .int 0)], [], q19.1, s20, 0, 0))) (none)) (none)) (none)) (none)) (none)) (none)) (none)) (none))
    else (some (.inr (some (.int (-4)), q4.2.1, q4.2.2))))
   else ((zm_is q1.2.1 r0 10).bind fun _ => (zm_ai (zM 177 [.ref r0, .int 1] q1.2.1 q1.2.2)).bind fun q21 =>
    some (.inr (some (.int q21.1), q21.2.1, q21.2.2)))) (none))
  else (some (.inr (some (.int (-1)), q1.2.1, q1.2.2)))
set_option maxRecDepth 100000 in
theorem zr_199_0 (lay : zm_Lay) (σ : zm_Sig) (r0 : Nat) (i1 : Int32) : zm_blk zM zp_199 (some .int) 0 0 zc_199 87 (zp_199.drop 0) (0, [(0, .ref r0), (1, .int i1)], [], lay, σ, 0, 0) = zb_199_0 lay σ r0 i1 := rfl
theorem ze_199 {lay : zm_Lay} {σ : zm_Sig} {r0 : Nat} {i1 : Int32} {out : zm_Out} {r : zm_St ⊕ zm_Out} (h : zb_199_0 lay σ r0 i1 = some r) (hg : zm_end zp_P 199 out r) : zM 199 [.ref r0, .int i1] lay σ = some out :=
  zm_mean_go (M := zd_199) rfl (Nat.le_of_ble_eq_true rfl) (zm_blk_go (M := zd_199) rfl zs_199 87 (zp_199.drop 0) _ r (fun _ h => List.mem_of_mem_drop h) ((zr_199_0 lay σ r0 i1).trans h) hg)
noncomputable def zb_199_127 (lay : zm_Lay) (σ : zm_Sig) (r0 : Nat) (i2 : Int32) : Option (zm_St ⊕ zm_Out) :=
  if ((nI 3) : Int32) ≤ i2 then ((zm_is lay r0 10).bind fun _ => (zm_av (zM 201 [.ref r0, .int 0] lay σ)).bind fun q1 =>
   (zm_is q1.1 r0 10).bind fun _ =>
   some (.inr (some (.int (q1.2.1 r0 4)), q1.1, q1.2)))
  else ((zm_is lay r0 10).bind fun _ =>
   zm_opt (σ.2.2 r0 25) (fun q2 =>
   (zm_sZ lay σ q2 i2 0).bind fun s3 =>
   some (.inl (127, [(0, .ref r0), (2, .int (i2 + 1))], [], lay, s3, 0, 0))) (none))
set_option maxRecDepth 100000 in
theorem zr_199_127 (lay : zm_Lay) (σ : zm_Sig) (r0 : Nat) (i2 : Int32) : zm_blk zM zp_199 (some .int) 0 0 zc_199 87 (zp_199.drop 70) (127, [(0, .ref r0), (2, .int i2)], [], lay, σ, 0, 0) = zb_199_127 lay σ r0 i2 := rfl
theorem zg_199_127 {lay : zm_Lay} {σ : zm_Sig} {r0 : Nat} {i2 : Int32} {out : zm_Out} {r : zm_St ⊕ zm_Out} (h : zb_199_127 lay σ r0 i2 = some r) (hg : zm_end zp_P 199 out r) : zm_go zp_P 199 (127, [(0, .ref r0), (2, .int i2)], [], lay, σ, 0, 0) out :=
  zm_blk_go (M := zd_199) rfl zs_199 87 (zp_199.drop 70) _ r (fun _ h => List.mem_of_mem_drop h) ((zr_199_127 lay σ r0 i2).trans h) hg
/-! SubgroupWriterModel.bring([II[III)V -/
theorem zs_200 : zm_srt zp_200 = true := by decide +kernel
noncomputable def zb_200_0 (lay : zm_Lay) (σ : zm_Sig) (r0 : Nat) (i1 : Int32) (r2 : Nat) (i3 : Int32) (i4 : Int32) : Option (zm_St ⊕ zm_Out) :=
  some (.inl (3, [(0, .ref r0), (1, .int i1), (2, .ref r2), (3, .int i3), (4, .int i4), (5, .int 0)], [], lay, σ, 0, 0))
set_option maxRecDepth 100000 in
theorem zr_200_0 (lay : zm_Lay) (σ : zm_Sig) (r0 : Nat) (i1 : Int32) (r2 : Nat) (i3 : Int32) (i4 : Int32) : zm_blk zM zp_200 none 0 0 zc_200 19 (zp_200.drop 0) (0, [(0, .ref r0), (1, .int i1), (2, .ref r2), (3, .int i3), (4, .int i4)], [], lay, σ, 0, 0) = zb_200_0 lay σ r0 i1 r2 i3 i4 := rfl
theorem ze_200 {lay : zm_Lay} {σ : zm_Sig} {r0 : Nat} {i1 : Int32} {r2 : Nat} {i3 : Int32} {i4 : Int32} {out : zm_Out} {r : zm_St ⊕ zm_Out} (h : zb_200_0 lay σ r0 i1 r2 i3 i4 = some r) (hg : zm_end zp_P 200 out r) : zM 200 [.ref r0, .int i1, .ref r2, .int i3, .int i4] lay σ = some out :=
  zm_mean_go (M := zd_200) rfl (Nat.le_of_ble_eq_true rfl) (zm_blk_go (M := zd_200) rfl zs_200 19 (zp_200.drop 0) _ r (fun _ h => List.mem_of_mem_drop h) ((zr_200_0 lay σ r0 i1 r2 i3 i4).trans h) hg)
noncomputable def zb_200_3 (lay : zm_Lay) (σ : zm_Sig) (r0 : Nat) (i1 : Int32) (r2 : Nat) (i3 : Int32) (i4 : Int32) (i5 : Int32) : Option (zm_St ⊕ zm_Out) :=
  if i4 ≤ i5 then (some (.inr (none, lay, σ)))
  else ((zm_gI lay σ r0 (i1 + i5)).bind fun v1 =>
   (zm_sI lay σ r2 (i3 + i5) v1).bind fun s2 =>
   some (.inl (3, [(0, .ref r0), (1, .int i1), (2, .ref r2), (3, .int i3), (4, .int i4), (5, .int (i5 + 1))], [], lay, s2, 0, 0)))
set_option maxRecDepth 100000 in
theorem zr_200_3 (lay : zm_Lay) (σ : zm_Sig) (r0 : Nat) (i1 : Int32) (r2 : Nat) (i3 : Int32) (i4 : Int32) (i5 : Int32) : zm_blk zM zp_200 none 0 0 zc_200 19 (zp_200.drop 2) (3, [(0, .ref r0), (1, .int i1), (2, .ref r2), (3, .int i3), (4, .int i4), (5, .int i5)], [], lay, σ, 0, 0) = zb_200_3 lay σ r0 i1 r2 i3 i4 i5 := rfl
theorem zg_200_3 {lay : zm_Lay} {σ : zm_Sig} {r0 : Nat} {i1 : Int32} {r2 : Nat} {i3 : Int32} {i4 : Int32} {i5 : Int32} {out : zm_Out} {r : zm_St ⊕ zm_Out} (h : zb_200_3 lay σ r0 i1 r2 i3 i4 i5 = some r) (hg : zm_end zp_P 200 out r) : zm_go zp_P 200 (3, [(0, .ref r0), (1, .int i1), (2, .ref r2), (3, .int i3), (4, .int i4), (5, .int i5)], [], lay, σ, 0, 0) out :=
  zm_blk_go (M := zd_200) rfl zs_200 19 (zp_200.drop 2) _ r (fun _ h => List.mem_of_mem_drop h) ((zr_200_3 lay σ r0 i1 r2 i3 i4 i5).trans h) hg
/-! SubgroupWriterModel.ordered(I)V -/
theorem zs_201 : zm_srt zp_201 = true := by decide +kernel
noncomputable def zb_201_0 (lay : zm_Lay) (σ : zm_Sig) (r0 : Nat) (i1 : Int32) : Option (zm_St ⊕ zm_Out) :=
  some (.inl (2, [(0, .ref r0), (1, .int i1), (2, .int 0)], [], lay, σ, 0, 0))
set_option maxRecDepth 100000 in
theorem zr_201_0 (lay : zm_Lay) (σ : zm_Sig) (r0 : Nat) (i1 : Int32) : zm_blk zM zp_201 none 0 0 zc_201 23 (zp_201.drop 0) (0, [(0, .ref r0), (1, .int i1)], [], lay, σ, 0, 0) = zb_201_0 lay σ r0 i1 := rfl
theorem ze_201 {lay : zm_Lay} {σ : zm_Sig} {r0 : Nat} {i1 : Int32} {out : zm_Out} {r : zm_St ⊕ zm_Out} (h : zb_201_0 lay σ r0 i1 = some r) (hg : zm_end zp_P 201 out r) : zM 201 [.ref r0, .int i1] lay σ = some out :=
  zm_mean_go (M := zd_201) rfl (Nat.le_of_ble_eq_true rfl) (zm_blk_go (M := zd_201) rfl zs_201 23 (zp_201.drop 0) _ r (fun _ h => List.mem_of_mem_drop h) ((zr_201_0 lay σ r0 i1).trans h) hg)
noncomputable def zb_201_2 (lay : zm_Lay) (σ : zm_Sig) (r0 : Nat) (i1 : Int32) (i2 : Int32) : Option (zm_St ⊕ zm_Out) :=
  if ((nI 258) : Int32) ≤ i2 then ((zm_is lay r0 10).bind fun _ =>
   zm_opt (σ.2.2 r0 21) (fun q1 =>
   (zm_sI lay σ q1 0 i1).bind fun s2 =>
   (zm_is lay r0 10).bind fun _ => (zm_av (zM 202 [.ref r0] lay s2)).bind fun q3 =>
   (zm_is q3.1 r0 10).bind fun _ => (zm_av (zM 211 [.ref r0] q3.1 q3.2)).bind fun q4 =>
   some (.inr (none, q4.1, q4.2))) (none))
  else ((zm_is lay r0 10).bind fun _ =>
   zm_opt (σ.2.2 r0 21) (fun q5 =>
   (zm_sI lay σ q5 i2 0).bind fun s6 =>
   some (.inl (2, [(0, .ref r0), (1, .int i1), (2, .int (i2 + 1))], [], lay, s6, 0, 0))) (none))
set_option maxRecDepth 100000 in
theorem zr_201_2 (lay : zm_Lay) (σ : zm_Sig) (r0 : Nat) (i1 : Int32) (i2 : Int32) : zm_blk zM zp_201 none 0 0 zc_201 23 (zp_201.drop 2) (2, [(0, .ref r0), (1, .int i1), (2, .int i2)], [], lay, σ, 0, 0) = zb_201_2 lay σ r0 i1 i2 := rfl
theorem zg_201_2 {lay : zm_Lay} {σ : zm_Sig} {r0 : Nat} {i1 : Int32} {i2 : Int32} {out : zm_Out} {r : zm_St ⊕ zm_Out} (h : zb_201_2 lay σ r0 i1 i2 = some r) (hg : zm_end zp_P 201 out r) : zm_go zp_P 201 (2, [(0, .ref r0), (1, .int i1), (2, .int i2)], [], lay, σ, 0, 0) out :=
  zm_blk_go (M := zd_201) rfl zs_201 23 (zp_201.drop 2) _ r (fun _ h => List.mem_of_mem_drop h) ((zr_201_2 lay σ r0 i1 i2).trans h) hg
/-! SubgroupWriterModel.laysTree()V -/
theorem zs_202 : zm_srt zp_202 = true := by decide +kernel
noncomputable def zb_202_0 (lay : zm_Lay) (σ : zm_Sig) (r0 : Nat) : Option (zm_St ⊕ zm_Out) :=
  some (.inl (2, [(0, .ref r0), (1, .int 0)], [], lay, σ, 0, 0))
set_option maxRecDepth 100000 in
theorem zr_202_0 (lay : zm_Lay) (σ : zm_Sig) (r0 : Nat) : zm_blk zM zp_202 none 0 0 zc_202 145 (zp_202.drop 0) (0, [(0, .ref r0)], [], lay, σ, 0, 0) = zb_202_0 lay σ r0 := rfl
theorem ze_202 {lay : zm_Lay} {σ : zm_Sig} {r0 : Nat} {out : zm_Out} {r : zm_St ⊕ zm_Out} (h : zb_202_0 lay σ r0 = some r) (hg : zm_end zp_P 202 out r) : zM 202 [.ref r0] lay σ = some out :=
  zm_mean_go (M := zd_202) rfl (Nat.le_of_ble_eq_true rfl) (zm_blk_go (M := zd_202) rfl zs_202 145 (zp_202.drop 0) _ r (fun _ h => List.mem_of_mem_drop h) ((zr_202_0 lay σ r0).trans h) hg)
noncomputable def zb_202_2 (lay : zm_Lay) (σ : zm_Sig) (r0 : Nat) (i1 : Int32) : Option (zm_St ⊕ zm_Out) :=
  if ((nI 5) : Int32) ≤ i1 then ((zm_is lay r0 10).bind fun _ =>
   zm_opt (σ.2.2 r0 15) (fun q1 =>
   (zm_sI lay σ q1 0 0).bind fun s2 =>
   (zm_is lay r0 10).bind fun _ =>
   zm_opt (s2.2.2 r0 14) (fun q3 =>
   (zm_sI lay s2 q3 0 0).bind fun s4 =>
   (zm_is lay r0 10).bind fun _ => (zm_fw s4 r0 16 0 (.int 1)).bind fun s5 =>
   (zm_is lay r0 10).bind fun _ =>
   zm_opt (s5.2.2 r0 21) (fun q6 =>
   (zm_gI lay s5 q6 0).bind fun v7 =>
   if ¬ v7 = (nI 2) then ((zm_is lay r0 10).bind fun _ =>
    zm_opt (s5.2.2 r0 21) (fun q8 =>
    (zm_gI lay s5 q8 0).bind fun v9 =>
    if ¬ v9 = 1 then ((zm_is lay r0 10).bind fun _ => (zm_av (zM 208 [.ref r0, .int 0] lay s5)).bind fun q10 =>
     (zm_is q10.1 r0 10).bind fun _ => (zm_fw q10.2 r0 20 0 (.int 0)).bind fun s11 =>
     some (.inl (98, [(0, .ref r0), (1, .int 0)], [], q10.1, s11, 0, 0)))
    else ((zm_is lay r0 10).bind fun _ => (zm_av (zM 208 [.ref r0, .int 1] lay s5)).bind fun q12 =>
     (zm_is q12.1 r0 10).bind fun _ => (zm_fw q12.2 r0 20 0 (.int 0)).bind fun s13 =>
     some (.inl (98, [(0, .ref r0), (1, .int 0)], [], q12.1, s13, 0, 0)))) (none))
   else ((zm_is lay r0 10).bind fun _ => (zm_av (zM 203 [.ref r0] lay s5)).bind fun q14 =>
    (zm_is q14.1 r0 10).bind fun _ => (zm_fw q14.2 r0 20 0 (.int 0)).bind fun s15 =>
    some (.inl (98, [(0, .ref r0), (1, .int 0)], [], q14.1, s15, 0, 0)))) (none)) (none)) (none))
  else ((zm_is lay r0 10).bind fun _ =>
   zm_opt (σ.2.2 r0 13) (fun q16 =>
   (zm_sI lay σ q16 i1 0).bind fun s17 =>
   (zm_is lay r0 10).bind fun _ =>
   zm_opt (s17.2.2 r0 11) (fun q18 =>
   (zm_sI lay s17 q18 i1 (-9)).bind fun s19 =>
   (zm_is lay r0 10).bind fun _ =>
   zm_opt (s19.2.2 r0 12) (fun q20 =>
   (zm_sI lay s19 q20 i1 (-9)).bind fun s21 =>
   some (.inl (2, [(0, .ref r0), (1, .int (i1 + 1))], [], lay, s21, 0, 0))) (none)) (none)) (none))
set_option maxRecDepth 100000 in
theorem zr_202_2 (lay : zm_Lay) (σ : zm_Sig) (r0 : Nat) (i1 : Int32) : zm_blk zM zp_202 none 0 0 zc_202 145 (zp_202.drop 2) (2, [(0, .ref r0), (1, .int i1)], [], lay, σ, 0, 0) = zb_202_2 lay σ r0 i1 := rfl
theorem zg_202_2 {lay : zm_Lay} {σ : zm_Sig} {r0 : Nat} {i1 : Int32} {out : zm_Out} {r : zm_St ⊕ zm_Out} (h : zb_202_2 lay σ r0 i1 = some r) (hg : zm_end zp_P 202 out r) : zm_go zp_P 202 (2, [(0, .ref r0), (1, .int i1)], [], lay, σ, 0, 0) out :=
  zm_blk_go (M := zd_202) rfl zs_202 145 (zp_202.drop 2) _ r (fun _ h => List.mem_of_mem_drop h) ((zr_202_2 lay σ r0 i1).trans h) hg
noncomputable def zb_202_98 (lay : zm_Lay) (σ : zm_Sig) (r0 : Nat) (i1 : Int32) : Option (zm_St ⊕ zm_Out) :=
  (zm_is lay r0 10).bind fun _ =>
  (zm_is lay r0 10).bind fun _ =>
  if ((σ.1 r0 4) * (σ.1 r0 5)) ≤ i1 then (some (.inr (none, lay, σ)))
  else ((zm_is lay r0 10).bind fun _ =>
   if (σ.1 r0 5) = 0 then none
   else ((zm_is lay r0 10).bind fun _ =>
   zm_opt (σ.2.2 r0 7) (fun q1 =>
   (zm_is lay r0 10).bind fun _ =>
   if (σ.1 r0 5) = 0 then none
   else ((zm_gI lay σ q1 ((((nI 5) : Int32) * (i1 - i1 / (σ.1 r0 5) * (σ.1 r0 5))) + (i1 / (σ.1 r0 5)))).bind fun v2 =>
   (zm_is lay r0 10).bind fun _ =>
   if (σ.1 r0 5) = 0 then none
   else ((zm_is lay r0 10).bind fun _ => (zm_ai (zM 209 [.ref r0, .int (i1 / (σ.1 r0 5)), .int (i1 - i1 / (σ.1 r0 5) * (σ.1 r0 5))] lay σ)).bind fun q3 =>
   (zm_is q3.2.1 r0 10).bind fun _ =>
   zm_opt (q3.2.2.2.2 r0 17) (fun q4 =>
   if q3.1 = 0 then (if ¬ (i1 / (σ.1 r0 5)) = v2 then ((zm_is q3.2.1 r0 10).bind fun _ => (zm_ai (zM 210 [.ref r0, .int (i1 / (σ.1 r0 5)), .int v2] q3.2.1 q3.2.2)).bind fun q5 =>
     if q5.1 = 0 then ((zm_sI q5.2.1 q5.2.2 q4 i1 (nI 2)).bind fun s6 =>
      (zm_is q5.2.1 r0 10).bind fun _ =>
      if q3.1 = 0 then ((zm_is q5.2.1 r0 10).bind fun _ => (zm_fw s6 r0 20 0 (.int ((s6.1 r0 20) + 1))).bind fun s7 =>
       (zm_is q5.2.1 r0 10).bind fun _ =>
       zm_opt (s7.2.2 r0 18) (fun q8 =>
       if q3.1 = 0 then ((zm_is q5.2.1 r0 10).bind fun _ =>
        (zm_sI q5.2.1 s7 q8 i1 (s7.1 r0 20)).bind fun s9 =>
        if ¬ q3.1 = 0 then (some (.inl (98, [(0, .ref r0), (1, .int (i1 + 1))], [], q5.2.1, s9, 0, 0)))
        else ((zm_is q5.2.1 r0 10).bind fun _ =>
         zm_opt (s9.2.2 r0 19) (fun q10 =>
         (zm_is q5.2.1 r0 10).bind fun _ =>
         (zm_sI q5.2.1 s9 q10 (s9.1 r0 20) i1).bind fun s11 =>
         some (.inl (98, [(0, .ref r0), (1, .int (i1 + 1))], [], q5.2.1, s11, 0, 0))) (none)))
       else ((zm_sI q5.2.1 s7 q8 i1 0).bind fun s12 =>
        if ¬ q3.1 = 0 then (some (.inl (98, [(0, .ref r0), (1, .int (i1 + 1))], [], q5.2.1, s12, 0, 0)))
        else ((zm_is q5.2.1 r0 10).bind fun _ =>
         zm_opt (s12.2.2 r0 19) (fun q13 =>
         (zm_is q5.2.1 r0 10).bind fun _ =>
         (zm_sI q5.2.1 s12 q13 (s12.1 r0 20) i1).bind fun s14 =>
         some (.inl (98, [(0, .ref r0), (1, .int (i1 + 1))], [], q5.2.1, s14, 0, 0))) (none)))) (none))
      else ((zm_is q5.2.1 r0 10).bind fun _ => (zm_fw s6 r0 20 0 (.int ((s6.1 r0 20) + 0))).bind fun s15 =>
       (zm_is q5.2.1 r0 10).bind fun _ =>
       zm_opt (s15.2.2 r0 18) (fun q16 =>
       if q3.1 = 0 then ((zm_is q5.2.1 r0 10).bind fun _ =>
        (zm_sI q5.2.1 s15 q16 i1 (s15.1 r0 20)).bind fun s17 =>
        if ¬ q3.1 = 0 then (some (.inl (98, [(0, .ref r0), (1, .int (i1 + 1))], [], q5.2.1, s17, 0, 0)))
        else ((zm_is q5.2.1 r0 10).bind fun _ =>
         zm_opt (s17.2.2 r0 19) (fun q18 =>
         (zm_is q5.2.1 r0 10).bind fun _ =>
         (zm_sI q5.2.1 s17 q18 (s17.1 r0 20) i1).bind fun s19 =>
         some (.inl (98, [(0, .ref r0), (1, .int (i1 + 1))], [], q5.2.1, s19, 0, 0))) (none)))
       else ((zm_sI q5.2.1 s15 q16 i1 0).bind fun s20 =>
        if ¬ q3.1 = 0 then (some (.inl (98, [(0, .ref r0), (1, .int (i1 + 1))], [], q5.2.1, s20, 0, 0)))
        else ((zm_is q5.2.1 r0 10).bind fun _ =>
         zm_opt (s20.2.2 r0 19) (fun q21 =>
         (zm_is q5.2.1 r0 10).bind fun _ =>
         (zm_sI q5.2.1 s20 q21 (s20.1 r0 20) i1).bind fun s22 =>
         some (.inl (98, [(0, .ref r0), (1, .int (i1 + 1))], [], q5.2.1, s22, 0, 0))) (none)))) (none)))
     else ((zm_sI q5.2.1 q5.2.2 q4 i1 (nI 4)).bind fun s23 =>
      (zm_is q5.2.1 r0 10).bind fun _ =>
      if q3.1 = 0 then ((zm_is q5.2.1 r0 10).bind fun _ => (zm_fw s23 r0 20 0 (.int ((s23.1 r0 20) + 1))).bind fun s24 =>
       (zm_is q5.2.1 r0 10).bind fun _ =>
       zm_opt (s24.2.2 r0 18) (fun q25 =>
       if q3.1 = 0 then ((zm_is q5.2.1 r0 10).bind fun _ =>
        (zm_sI q5.2.1 s24 q25 i1 (s24.1 r0 20)).bind fun s26 =>
        if ¬ q3.1 = 0 then (some (.inl (98, [(0, .ref r0), (1, .int (i1 + 1))], [], q5.2.1, s26, 0, 0)))
        else ((zm_is q5.2.1 r0 10).bind fun _ =>
         zm_opt (s26.2.2 r0 19) (fun q27 =>
         (zm_is q5.2.1 r0 10).bind fun _ =>
         (zm_sI q5.2.1 s26 q27 (s26.1 r0 20) i1).bind fun s28 =>
         some (.inl (98, [(0, .ref r0), (1, .int (i1 + 1))], [], q5.2.1, s28, 0, 0))) (none)))
       else ((zm_sI q5.2.1 s24 q25 i1 0).bind fun s29 =>
        if ¬ q3.1 = 0 then (some (.inl (98, [(0, .ref r0), (1, .int (i1 + 1))], [], q5.2.1, s29, 0, 0)))
        else ((zm_is q5.2.1 r0 10).bind fun _ =>
         zm_opt (s29.2.2 r0 19) (fun q30 =>
         (zm_is q5.2.1 r0 10).bind fun _ =>
         (zm_sI q5.2.1 s29 q30 (s29.1 r0 20) i1).bind fun s31 =>
         some (.inl (98, [(0, .ref r0), (1, .int (i1 + 1))], [], q5.2.1, s31, 0, 0))) (none)))) (none))
      else ((zm_is q5.2.1 r0 10).bind fun _ => (zm_fw s23 r0 20 0 (.int ((s23.1 r0 20) + 0))).bind fun s32 =>
       (zm_is q5.2.1 r0 10).bind fun _ =>
       zm_opt (s32.2.2 r0 18) (fun q33 =>
       if q3.1 = 0 then ((zm_is q5.2.1 r0 10).bind fun _ =>
        (zm_sI q5.2.1 s32 q33 i1 (s32.1 r0 20)).bind fun s34 =>
        if ¬ q3.1 = 0 then (some (.inl (98, [(0, .ref r0), (1, .int (i1 + 1))], [], q5.2.1, s34, 0, 0)))
        else ((zm_is q5.2.1 r0 10).bind fun _ =>
         zm_opt (s34.2.2 r0 19) (fun q35 =>
         (zm_is q5.2.1 r0 10).bind fun _ =>
         (zm_sI q5.2.1 s34 q35 (s34.1 r0 20) i1).bind fun s36 =>
         some (.inl (98, [(0, .ref r0), (1, .int (i1 + 1))], [], q5.2.1, s36, 0, 0))) (none)))
       else ((zm_sI q5.2.1 s32 q33 i1 0).bind fun s37 =>
        if ¬ q3.1 = 0 then (some (.inl (98, [(0, .ref r0), (1, .int (i1 + 1))], [], q5.2.1, s37, 0, 0)))
        else ((zm_is q5.2.1 r0 10).bind fun _ =>
         zm_opt (s37.2.2 r0 19) (fun q38 =>
         (zm_is q5.2.1 r0 10).bind fun _ =>
         (zm_sI q5.2.1 s37 q38 (s37.1 r0 20) i1).bind fun s39 =>
         some (.inl (98, [(0, .ref r0), (1, .int (i1 + 1))], [], q5.2.1, s39, 0, 0))) (none)))) (none))))
    else ((zm_sI q3.2.1 q3.2.2 q4 i1 (nI 3)).bind fun s40 =>
     (zm_is q3.2.1 r0 10).bind fun _ =>
     if q3.1 = 0 then ((zm_is q3.2.1 r0 10).bind fun _ => (zm_fw s40 r0 20 0 (.int ((s40.1 r0 20) + 1))).bind fun s41 =>
      (zm_is q3.2.1 r0 10).bind fun _ =>
      zm_opt (s41.2.2 r0 18) (fun q42 =>
      if q3.1 = 0 then ((zm_is q3.2.1 r0 10).bind fun _ =>
       (zm_sI q3.2.1 s41 q42 i1 (s41.1 r0 20)).bind fun s43 =>
       if ¬ q3.1 = 0 then (some (.inl (98, [(0, .ref r0), (1, .int (i1 + 1))], [], q3.2.1, s43, 0, 0)))
       else ((zm_is q3.2.1 r0 10).bind fun _ =>
        zm_opt (s43.2.2 r0 19) (fun q44 =>
        (zm_is q3.2.1 r0 10).bind fun _ =>
        (zm_sI q3.2.1 s43 q44 (s43.1 r0 20) i1).bind fun s45 =>
        some (.inl (98, [(0, .ref r0), (1, .int (i1 + 1))], [], q3.2.1, s45, 0, 0))) (none)))
      else ((zm_sI q3.2.1 s41 q42 i1 0).bind fun s46 =>
       if ¬ q3.1 = 0 then (some (.inl (98, [(0, .ref r0), (1, .int (i1 + 1))], [], q3.2.1, s46, 0, 0)))
       else ((zm_is q3.2.1 r0 10).bind fun _ =>
        zm_opt (s46.2.2 r0 19) (fun q47 =>
        (zm_is q3.2.1 r0 10).bind fun _ =>
        (zm_sI q3.2.1 s46 q47 (s46.1 r0 20) i1).bind fun s48 =>
        some (.inl (98, [(0, .ref r0), (1, .int (i1 + 1))], [], q3.2.1, s48, 0, 0))) (none)))) (none))
     else ((zm_is q3.2.1 r0 10).bind fun _ => (zm_fw s40 r0 20 0 (.int ((s40.1 r0 20) + 0))).bind fun s49 =>
      (zm_is q3.2.1 r0 10).bind fun _ =>
      zm_opt (s49.2.2 r0 18) (fun q50 =>
      if q3.1 = 0 then ((zm_is q3.2.1 r0 10).bind fun _ =>
       (zm_sI q3.2.1 s49 q50 i1 (s49.1 r0 20)).bind fun s51 =>
       if ¬ q3.1 = 0 then (some (.inl (98, [(0, .ref r0), (1, .int (i1 + 1))], [], q3.2.1, s51, 0, 0)))
       else ((zm_is q3.2.1 r0 10).bind fun _ =>
        zm_opt (s51.2.2 r0 19) (fun q52 =>
        (zm_is q3.2.1 r0 10).bind fun _ =>
        (zm_sI q3.2.1 s51 q52 (s51.1 r0 20) i1).bind fun s53 =>
        some (.inl (98, [(0, .ref r0), (1, .int (i1 + 1))], [], q3.2.1, s53, 0, 0))) (none)))
      else ((zm_sI q3.2.1 s49 q50 i1 0).bind fun s54 =>
       if ¬ q3.1 = 0 then (some (.inl (98, [(0, .ref r0), (1, .int (i1 + 1))], [], q3.2.1, s54, 0, 0)))
       else ((zm_is q3.2.1 r0 10).bind fun _ =>
        zm_opt (s54.2.2 r0 19) (fun q55 =>
        (zm_is q3.2.1 r0 10).bind fun _ =>
        (zm_sI q3.2.1 s54 q55 (s54.1 r0 20) i1).bind fun s56 =>
        some (.inl (98, [(0, .ref r0), (1, .int (i1 + 1))], [], q3.2.1, s56, 0, 0))) (none)))) (none))))
   else ((zm_sI q3.2.1 q3.2.2 q4 i1 1).bind fun s57 =>
    (zm_is q3.2.1 r0 10).bind fun _ =>
    if q3.1 = 0 then ((zm_is q3.2.1 r0 10).bind fun _ => (zm_fw s57 r0 20 0 (.int ((s57.1 r0 20) + 1))).bind fun s58 =>
     (zm_is q3.2.1 r0 10).bind fun _ =>
     zm_opt (s58.2.2 r0 18) (fun q59 =>
     if q3.1 = 0 then ((zm_is q3.2.1 r0 10).bind fun _ =>
      (zm_sI q3.2.1 s58 q59 i1 (s58.1 r0 20)).bind fun s60 =>
      if ¬ q3.1 = 0 then (some (.inl (98, [(0, .ref r0), (1, .int (i1 + 1))], [], q3.2.1, s60, 0, 0)))
      else ((zm_is q3.2.1 r0 10).bind fun _ =>
       zm_opt (s60.2.2 r0 19) (fun q61 =>
       (zm_is q3.2.1 r0 10).bind fun _ =>
       (zm_sI q3.2.1 s60 q61 (s60.1 r0 20) i1).bind fun s62 =>
       some (.inl (98, [(0, .ref r0), (1, .int (i1 + 1))], [], q3.2.1, s62, 0, 0))) (none)))
     else ((zm_sI q3.2.1 s58 q59 i1 0).bind fun s63 =>
      if ¬ q3.1 = 0 then (some (.inl (98, [(0, .ref r0), (1, .int (i1 + 1))], [], q3.2.1, s63, 0, 0)))
      else ((zm_is q3.2.1 r0 10).bind fun _ =>
       zm_opt (s63.2.2 r0 19) (fun q64 =>
       (zm_is q3.2.1 r0 10).bind fun _ =>
       (zm_sI q3.2.1 s63 q64 (s63.1 r0 20) i1).bind fun s65 =>
       some (.inl (98, [(0, .ref r0), (1, .int (i1 + 1))], [], q3.2.1, s65, 0, 0))) (none)))) (none))
    else ((zm_is q3.2.1 r0 10).bind fun _ => (zm_fw s57 r0 20 0 (.int ((s57.1 r0 20) + 0))).bind fun s66 =>
     (zm_is q3.2.1 r0 10).bind fun _ =>
     zm_opt (s66.2.2 r0 18) (fun q67 =>
     if q3.1 = 0 then ((zm_is q3.2.1 r0 10).bind fun _ =>
      (zm_sI q3.2.1 s66 q67 i1 (s66.1 r0 20)).bind fun s68 =>
      if ¬ q3.1 = 0 then (some (.inl (98, [(0, .ref r0), (1, .int (i1 + 1))], [], q3.2.1, s68, 0, 0)))
      else ((zm_is q3.2.1 r0 10).bind fun _ =>
       zm_opt (s68.2.2 r0 19) (fun q69 =>
       (zm_is q3.2.1 r0 10).bind fun _ =>
       (zm_sI q3.2.1 s68 q69 (s68.1 r0 20) i1).bind fun s70 =>
       some (.inl (98, [(0, .ref r0), (1, .int (i1 + 1))], [], q3.2.1, s70, 0, 0))) (none)))
     else ((zm_sI q3.2.1 s66 q67 i1 0).bind fun s71 =>
      if ¬ q3.1 = 0 then (some (.inl (98, [(0, .ref r0), (1, .int (i1 + 1))], [], q3.2.1, s71, 0, 0)))
      else ((zm_is q3.2.1 r0 10).bind fun _ =>
       zm_opt (s71.2.2 r0 19) (fun q72 =>
       (zm_is q3.2.1 r0 10).bind fun _ =>
       (zm_sI q3.2.1 s71 q72 (s71.1 r0 20) i1).bind fun s73 =>
       some (.inl (98, [(0, .ref r0), (1, .int (i1 + 1))], [], q3.2.1, s73, 0, 0))) (none)))) (none)))) (none)))) (none)))
set_option maxRecDepth 100000 in
theorem zr_202_98 (lay : zm_Lay) (σ : zm_Sig) (r0 : Nat) (i1 : Int32) : zm_blk zM zp_202 none 0 0 zc_202 145 (zp_202.drop 60) (98, [(0, .ref r0), (1, .int i1)], [], lay, σ, 0, 0) = zb_202_98 lay σ r0 i1 := rfl
theorem zg_202_98 {lay : zm_Lay} {σ : zm_Sig} {r0 : Nat} {i1 : Int32} {out : zm_Out} {r : zm_St ⊕ zm_Out} (h : zb_202_98 lay σ r0 i1 = some r) (hg : zm_end zp_P 202 out r) : zm_go zp_P 202 (98, [(0, .ref r0), (1, .int i1)], [], lay, σ, 0, 0) out :=
  zm_blk_go (M := zd_202) rfl zs_202 145 (zp_202.drop 60) _ r (fun _ h => List.mem_of_mem_drop h) ((zr_202_98 lay σ r0 i1).trans h) hg
/-! SubgroupWriterModel.goesDeep()V -/
theorem zs_203 : zm_srt zp_203 = true := by decide +kernel
noncomputable def zb_203_0 (lay : zm_Lay) (σ : zm_Sig) (r0 : Nat) : Option (zm_St ⊕ zm_Out) :=
  some (.inl (2, [(0, .ref r0), (1, .int 0)], [], lay, σ, 0, 0))
set_option maxRecDepth 100000 in
theorem zr_203_0 (lay : zm_Lay) (σ : zm_Sig) (r0 : Nat) : zm_blk zM zp_203 none 0 0 zc_203 61 (zp_203.drop 0) (0, [(0, .ref r0)], [], lay, σ, 0, 0) = zb_203_0 lay σ r0 := rfl
theorem ze_203 {lay : zm_Lay} {σ : zm_Sig} {r0 : Nat} {out : zm_Out} {r : zm_St ⊕ zm_Out} (h : zb_203_0 lay σ r0 = some r) (hg : zm_end zp_P 203 out r) : zM 203 [.ref r0] lay σ = some out :=
  zm_mean_go (M := zd_203) rfl (Nat.le_of_ble_eq_true rfl) (zm_blk_go (M := zd_203) rfl zs_203 61 (zp_203.drop 0) _ r (fun _ h => List.mem_of_mem_drop h) ((zr_203_0 lay σ r0).trans h) hg)
noncomputable def zb_203_2 (lay : zm_Lay) (σ : zm_Sig) (r0 : Nat) (i1 : Int32) : Option (zm_St ⊕ zm_Out) :=
  (zm_is lay r0 10).bind fun _ =>
  (zm_is lay r0 10).bind fun _ =>
  if (σ.1 r0 4) ≤ (σ.1 r0 16) then (some (.inr (none, lay, σ)))
  else ((zm_is lay r0 10).bind fun _ =>
   some (.inl (24, [(0, .ref r0), (1, .int i1), (2, .int 0), (3, .int ((((nI 2) : Int32) * (σ.1 r0 5)) - 1))], [], lay, σ, 0, 0)))
set_option maxRecDepth 100000 in
theorem zr_203_2 (lay : zm_Lay) (σ : zm_Sig) (r0 : Nat) (i1 : Int32) : zm_blk zM zp_203 none 0 0 zc_203 61 (zp_203.drop 2) (2, [(0, .ref r0), (1, .int i1)], [], lay, σ, 0, 0) = zb_203_2 lay σ r0 i1 := rfl
theorem zg_203_2 {lay : zm_Lay} {σ : zm_Sig} {r0 : Nat} {i1 : Int32} {out : zm_Out} {r : zm_St ⊕ zm_Out} (h : zb_203_2 lay σ r0 i1 = some r) (hg : zm_end zp_P 203 out r) : zm_go zp_P 203 (2, [(0, .ref r0), (1, .int i1)], [], lay, σ, 0, 0) out :=
  zm_blk_go (M := zd_203) rfl zs_203 61 (zp_203.drop 2) _ r (fun _ h => List.mem_of_mem_drop h) ((zr_203_2 lay σ r0 i1).trans h) hg
noncomputable def zb_203_24 (lay : zm_Lay) (σ : zm_Sig) (r0 : Nat) (i1 : Int32) (i2 : Int32) (i3 : Int32) : Option (zm_St ⊕ zm_Out) :=
  if i3 < 0 then (if ¬ i2 = 0 then ((zm_is lay r0 10).bind fun _ => (zm_ai (zM 205 [.ref r0, .int i1, .int i2] lay σ)).bind fun q1 =>
    (zm_is q1.2.1 r0 10).bind fun _ => (zm_av (zM 207 [.ref r0, .int q1.1, .int i1, .int i2] q1.2.1 q1.2.2)).bind fun q2 =>
    (zm_is q2.1 r0 10).bind fun _ => (zm_ai (zM 205 [.ref r0, .int i1, .int i2] q2.1 q2.2)).bind fun q3 =>
    some (.inl (2, [(0, .ref r0), (1, .int q3.1)], [], q3.2.1, q3.2.2, 0, 0)))
   else ((zm_is lay r0 10).bind fun _ =>
    zm_opt (σ.2.2 r0 11) (fun q4 =>
    (zm_gI lay σ q4 i1).bind fun v5 =>
    some (.inl (2, [(0, .ref r0), (1, .int v5)], [], lay, σ, 0, 0))) (none)))
  else ((zm_is lay r0 10).bind fun _ => (zm_ai (zM 204 [.ref r0, .int i3, .int 0] lay σ)).bind fun q6 =>
   (zm_is q6.2.1 r0 10).bind fun _ => (zm_ai (zM 205 [.ref r0, .int i1, .int q6.1] q6.2.1 q6.2.2)).bind fun q7 =>
   (zm_is q7.2.1 r0 10).bind fun _ => (zm_ai (zM 206 [.ref r0, .int q7.1] q7.2.1 q7.2.2)).bind fun q8 =>
   if q8.1 = 0 then ((zm_is q8.2.1 r0 10).bind fun _ => (zm_ai (zM 204 [.ref r0, .int i3, .int 0] q8.2.1 q8.2.2)).bind fun q9 =>
    some (.inl (24, [(0, .ref r0), (1, .int i1), (2, .int q9.1), (3, .int (i3 + (-1)))], [], q9.2.1, q9.2.2, 0, 0)))
   else (some (.inl (24, [(0, .ref r0), (1, .int i1), (2, .int i2), (3, .int (i3 + (-1)))], [], q8.2.1, q8.2.2, 0, 0))))
set_option maxRecDepth 100000 in
theorem zr_203_24 (lay : zm_Lay) (σ : zm_Sig) (r0 : Nat) (i1 : Int32) (i2 : Int32) (i3 : Int32) : zm_blk zM zp_203 none 0 0 zc_203 61 (zp_203.drop 16) (24, [(0, .ref r0), (1, .int i1), (2, .int i2), (3, .int i3)], [], lay, σ, 0, 0) = zb_203_24 lay σ r0 i1 i2 i3 := rfl
theorem zg_203_24 {lay : zm_Lay} {σ : zm_Sig} {r0 : Nat} {i1 : Int32} {i2 : Int32} {i3 : Int32} {out : zm_Out} {r : zm_St ⊕ zm_Out} (h : zb_203_24 lay σ r0 i1 i2 i3 = some r) (hg : zm_end zp_P 203 out r) : zm_go zp_P 203 (24, [(0, .ref r0), (1, .int i1), (2, .int i2), (3, .int i3)], [], lay, σ, 0, 0) out :=
  zm_blk_go (M := zd_203) rfl zs_203 61 (zp_203.drop 16) _ r (fun _ h => List.mem_of_mem_drop h) ((zr_203_24 lay σ r0 i1 i2 i3).trans h) hg
/-! SubgroupWriterModel.tried(IZ)I -/
theorem zs_204 : zm_srt zp_204 = true := by decide +kernel
noncomputable def zb_204_0 (lay : zm_Lay) (σ : zm_Sig) (r0 : Nat) (i1 : Int32) (i2 : Int32) : Option (zm_St ⊕ zm_Out) :=
  if i2 = 0 then (if ¬ (i1 - i1 / (nI 2) * (nI 2)) = 0 then (some (.inr (some (.int (-((i1 / (nI 2)) + 1))), lay, σ)))
   else (some (.inr (some (.int ((i1 / (nI 2)) + 1)), lay, σ))))
  else ((zm_is lay r0 10).bind fun _ =>
   if ¬ ((((((nI 2) : Int32) * (σ.1 r0 5)) - 1) - i1) - (((((nI 2) : Int32) * (σ.1 r0 5)) - 1) - i1) / (nI 2) * (nI 2)) = 0 then (some (.inr (some (.int (-(((((((nI 2) : Int32) * (σ.1 r0 5)) - 1) - i1) / (nI 2)) + 1))), lay, σ)))
   else (some (.inr (some (.int (((((((nI 2) : Int32) * (σ.1 r0 5)) - 1) - i1) / (nI 2)) + 1)), lay, σ))))
set_option maxRecDepth 100000 in
theorem zr_204_0 (lay : zm_Lay) (σ : zm_Sig) (r0 : Nat) (i1 : Int32) (i2 : Int32) : zm_blk zM zp_204 (some .int) 0 0 zc_204 31 (zp_204.drop 0) (0, [(0, .ref r0), (1, .int i1), (2, .int i2)], [], lay, σ, 0, 0) = zb_204_0 lay σ r0 i1 i2 := rfl
theorem ze_204 {lay : zm_Lay} {σ : zm_Sig} {r0 : Nat} {i1 : Int32} {i2 : Int32} {out : zm_Out} {r : zm_St ⊕ zm_Out} (h : zb_204_0 lay σ r0 i1 i2 = some r) (hg : zm_end zp_P 204 out r) : zM 204 [.ref r0, .int i1, .int i2] lay σ = some out :=
  zm_mean_go (M := zd_204) rfl (Nat.le_of_ble_eq_true rfl) (zm_blk_go (M := zd_204) rfl zs_204 31 (zp_204.drop 0) _ r (fun _ h => List.mem_of_mem_drop h) ((zr_204_0 lay σ r0 i1 i2).trans h) hg)
/-! SubgroupWriterModel.goesBy(II)I -/
theorem zs_205 : zm_srt zp_205 = true := by decide +kernel
noncomputable def zb_205_0 (lay : zm_Lay) (σ : zm_Sig) (r0 : Nat) (i1 : Int32) (i2 : Int32) : Option (zm_St ⊕ zm_Out) :=
  if i2 ≤ 0 then ((zm_is lay r0 10).bind fun _ =>
   zm_opt (σ.2.2 r0 8) (fun q1 =>
   (zm_gI lay σ q1 ((((nI 5) : Int32) * ((-i2) - 1)) + i1)).bind fun v2 =>
   some (.inr (some (.int v2), lay, σ))) (none))
  else ((zm_is lay r0 10).bind fun _ =>
   zm_opt (σ.2.2 r0 7) (fun q3 =>
   (zm_gI lay σ q3 ((((nI 5) : Int32) * (i2 - 1)) + i1)).bind fun v4 =>
   some (.inr (some (.int v4), lay, σ))) (none))
set_option maxRecDepth 100000 in
theorem zr_205_0 (lay : zm_Lay) (σ : zm_Sig) (r0 : Nat) (i1 : Int32) (i2 : Int32) : zm_blk zM zp_205 (some .int) 0 0 zc_205 26 (zp_205.drop 0) (0, [(0, .ref r0), (1, .int i1), (2, .int i2)], [], lay, σ, 0, 0) = zb_205_0 lay σ r0 i1 i2 := rfl
theorem ze_205 {lay : zm_Lay} {σ : zm_Sig} {r0 : Nat} {i1 : Int32} {i2 : Int32} {out : zm_Out} {r : zm_St ⊕ zm_Out} (h : zb_205_0 lay σ r0 i1 i2 = some r) (hg : zm_end zp_P 205 out r) : zM 205 [.ref r0, .int i1, .int i2] lay σ = some out :=
  zm_mean_go (M := zd_205) rfl (Nat.le_of_ble_eq_true rfl) (zm_blk_go (M := zd_205) rfl zs_205 26 (zp_205.drop 0) _ r (fun _ h => List.mem_of_mem_drop h) ((zr_205_0 lay σ r0 i1 i2).trans h) hg)
/-! SubgroupWriterModel.isMet(I)Z -/
theorem zs_206 : zm_srt zp_206 = true := by decide +kernel
noncomputable def zb_206_0 (lay : zm_Lay) (σ : zm_Sig) (r0 : Nat) (i1 : Int32) : Option (zm_St ⊕ zm_Out) :=
  if i1 = 0 then (some (.inr (some (.int 1), lay, σ)))
  else ((zm_is lay r0 10).bind fun _ =>
   zm_opt (σ.2.2 r0 13) (fun q1 =>
   (zm_gI lay σ q1 i1).bind fun v2 =>
   if v2 ≤ 0 then (some (.inr (some (.int 0), lay, σ)))
   else (some (.inr (some (.int 1), lay, σ)))) (none))
set_option maxRecDepth 100000 in
theorem zr_206_0 (lay : zm_Lay) (σ : zm_Sig) (r0 : Nat) (i1 : Int32) : zm_blk zM zp_206 (some .boolean) 0 0 zc_206 12 (zp_206.drop 0) (0, [(0, .ref r0), (1, .int i1)], [], lay, σ, 0, 0) = zb_206_0 lay σ r0 i1 := rfl
theorem ze_206 {lay : zm_Lay} {σ : zm_Sig} {r0 : Nat} {i1 : Int32} {out : zm_Out} {r : zm_St ⊕ zm_Out} (h : zb_206_0 lay σ r0 i1 = some r) (hg : zm_end zp_P 206 out r) : zM 206 [.ref r0, .int i1] lay σ = some out :=
  zm_mean_go (M := zd_206) rfl (Nat.le_of_ble_eq_true rfl) (zm_blk_go (M := zd_206) rfl zs_206 12 (zp_206.drop 0) _ r (fun _ h => List.mem_of_mem_drop h) ((zr_206_0 lay σ r0 i1).trans h) hg)
/-! SubgroupWriterModel.reaches(III)V -/
theorem zs_207 : zm_srt zp_207 = true := by decide +kernel
noncomputable def zb_207_0 (lay : zm_Lay) (σ : zm_Sig) (r0 : Nat) (i1 : Int32) (i2 : Int32) (i3 : Int32) : Option (zm_St ⊕ zm_Out) :=
  (zm_is lay r0 10).bind fun _ =>
  zm_opt (σ.2.2 r0 11) (fun q1 =>
  (zm_sI lay σ q1 i1 i2).bind fun s2 =>
  (zm_is lay r0 10).bind fun _ =>
  zm_opt (s2.2.2 r0 12) (fun q3 =>
  (zm_sI lay s2 q3 i1 i3).bind fun s4 =>
  (zm_is lay r0 10).bind fun _ =>
  zm_opt (s4.2.2 r0 13) (fun q5 =>
  (zm_is lay r0 10).bind fun _ =>
  zm_opt (s4.2.2 r0 13) (fun q6 =>
  (zm_gI lay s4 q6 i2).bind fun v7 =>
  (zm_sI lay s4 q5 i1 (v7 + 1)).bind fun s8 =>
  (zm_is lay r0 10).bind fun _ =>
  zm_opt (s8.2.2 r0 14) (fun q9 =>
  (zm_is lay r0 10).bind fun _ =>
  (zm_sI lay s8 q9 i1 (s8.1 r0 16)).bind fun s10 =>
  (zm_is lay r0 10).bind fun _ =>
  zm_opt (s10.2.2 r0 15) (fun q11 =>
  (zm_is lay r0 10).bind fun _ =>
  (zm_sI lay s10 q11 (s10.1 r0 16) i1).bind fun s12 =>
  (zm_is lay r0 10).bind fun _ =>
  (zm_is lay r0 10).bind fun _ => (zm_fw s12 r0 16 0 (.int ((s12.1 r0 16) + 1))).bind fun s13 =>
  some (.inr (none, lay, s13))) (none)) (none)) (none)) (none)) (none)) (none)
set_option maxRecDepth 100000 in
theorem zr_207_0 (lay : zm_Lay) (σ : zm_Sig) (r0 : Nat) (i1 : Int32) (i2 : Int32) (i3 : Int32) : zm_blk zM zp_207 none 0 0 zc_207 40 (zp_207.drop 0) (0, [(0, .ref r0), (1, .int i1), (2, .int i2), (3, .int i3)], [], lay, σ, 0, 0) = zb_207_0 lay σ r0 i1 i2 i3 := rfl
theorem ze_207 {lay : zm_Lay} {σ : zm_Sig} {r0 : Nat} {i1 : Int32} {i2 : Int32} {i3 : Int32} {out : zm_Out} {r : zm_St ⊕ zm_Out} (h : zb_207_0 lay σ r0 i1 i2 i3 = some r) (hg : zm_end zp_P 207 out r) : zM 207 [.ref r0, .int i1, .int i2, .int i3] lay σ = some out :=
  zm_mean_go (M := zd_207) rfl (Nat.le_of_ble_eq_true rfl) (zm_blk_go (M := zd_207) rfl zs_207 40 (zp_207.drop 0) _ r (fun _ h => List.mem_of_mem_drop h) ((zr_207_0 lay σ r0 i1 i2 i3).trans h) hg)
/-! SubgroupWriterModel.goesBroad(Z)V -/
theorem zs_208 : zm_srt zp_208 = true := by decide +kernel
noncomputable def zb_208_0 (lay : zm_Lay) (σ : zm_Sig) (r0 : Nat) (i1 : Int32) : Option (zm_St ⊕ zm_Out) :=
  some (.inl (2, [(0, .ref r0), (1, .int i1), (2, .int 0)], [], lay, σ, 0, 0))
set_option maxRecDepth 100000 in
theorem zr_208_0 (lay : zm_Lay) (σ : zm_Sig) (r0 : Nat) (i1 : Int32) : zm_blk zM zp_208 none 0 0 zc_208 45 (zp_208.drop 0) (0, [(0, .ref r0), (1, .int i1)], [], lay, σ, 0, 0) = zb_208_0 lay σ r0 i1 := rfl
theorem ze_208 {lay : zm_Lay} {σ : zm_Sig} {r0 : Nat} {i1 : Int32} {out : zm_Out} {r : zm_St ⊕ zm_Out} (h : zb_208_0 lay σ r0 i1 = some r) (hg : zm_end zp_P 208 out r) : zM 208 [.ref r0, .int i1] lay σ = some out :=
  zm_mean_go (M := zd_208) rfl (Nat.le_of_ble_eq_true rfl) (zm_blk_go (M := zd_208) rfl zs_208 45 (zp_208.drop 0) _ r (fun _ h => List.mem_of_mem_drop h) ((zr_208_0 lay σ r0 i1).trans h) hg)
noncomputable def zb_208_2 (lay : zm_Lay) (σ : zm_Sig) (r0 : Nat) (i1 : Int32) (i2 : Int32) : Option (zm_St ⊕ zm_Out) :=
  (zm_is lay r0 10).bind fun _ =>
  if (σ.1 r0 16) ≤ i2 then (some (.inr (none, lay, σ)))
  else ((zm_is lay r0 10).bind fun _ =>
   zm_opt (σ.2.2 r0 15) (fun q1 =>
   (zm_gI lay σ q1 i2).bind fun v2 =>
   some (.inl (20, [(0, .ref r0), (1, .int i1), (2, .int i2), (3, .int v2), (4, .int 0)], [], lay, σ, 0, 0))) (none))
set_option maxRecDepth 100000 in
theorem zr_208_2 (lay : zm_Lay) (σ : zm_Sig) (r0 : Nat) (i1 : Int32) (i2 : Int32) : zm_blk zM zp_208 none 0 0 zc_208 45 (zp_208.drop 2) (2, [(0, .ref r0), (1, .int i1), (2, .int i2)], [], lay, σ, 0, 0) = zb_208_2 lay σ r0 i1 i2 := rfl
theorem zg_208_2 {lay : zm_Lay} {σ : zm_Sig} {r0 : Nat} {i1 : Int32} {i2 : Int32} {out : zm_Out} {r : zm_St ⊕ zm_Out} (h : zb_208_2 lay σ r0 i1 i2 = some r) (hg : zm_end zp_P 208 out r) : zm_go zp_P 208 (2, [(0, .ref r0), (1, .int i1), (2, .int i2)], [], lay, σ, 0, 0) out :=
  zm_blk_go (M := zd_208) rfl zs_208 45 (zp_208.drop 2) _ r (fun _ h => List.mem_of_mem_drop h) ((zr_208_2 lay σ r0 i1 i2).trans h) hg
noncomputable def zb_208_20 (lay : zm_Lay) (σ : zm_Sig) (r0 : Nat) (i1 : Int32) (i2 : Int32) (i3 : Int32) (i4 : Int32) : Option (zm_St ⊕ zm_Out) :=
  (zm_is lay r0 10).bind fun _ =>
  if (((nI 2) : Int32) * (σ.1 r0 5)) ≤ i4 then (some (.inl (2, [(0, .ref r0), (1, .int i1), (2, .int (i2 + 1))], [], lay, σ, 0, 0)))
  else ((zm_is lay r0 10).bind fun _ => (zm_ai (zM 204 [.ref r0, .int i4, .int i1] lay σ)).bind fun q1 =>
   (zm_is q1.2.1 r0 10).bind fun _ => (zm_ai (zM 205 [.ref r0, .int i3, .int q1.1] q1.2.1 q1.2.2)).bind fun q2 =>
   (zm_is q2.2.1 r0 10).bind fun _ => (zm_ai (zM 206 [.ref r0, .int q2.1] q2.2.1 q2.2.2)).bind fun q3 =>
   if ¬ q3.1 = 0 then (some (.inl (20, [(0, .ref r0), (1, .int i1), (2, .int i2), (3, .int i3), (4, .int (i4 + 1))], [], q3.2.1, q3.2.2, 0, 0)))
   else ((zm_is q3.2.1 r0 10).bind fun _ => (zm_ai (zM 205 [.ref r0, .int i3, .int q1.1] q3.2.1 q3.2.2)).bind fun q4 =>
    (zm_is q4.2.1 r0 10).bind fun _ => (zm_av (zM 207 [.ref r0, .int q4.1, .int i3, .int q1.1] q4.2.1 q4.2.2)).bind fun q5 =>
    some (.inl (20, [(0, .ref r0), (1, .int i1), (2, .int i2), (3, .int i3), (4, .int (i4 + 1))], [], q5.1, q5.2, 0, 0))))
set_option maxRecDepth 100000 in
theorem zr_208_20 (lay : zm_Lay) (σ : zm_Sig) (r0 : Nat) (i1 : Int32) (i2 : Int32) (i3 : Int32) (i4 : Int32) : zm_blk zM zp_208 none 0 0 zc_208 45 (zp_208.drop 13) (20, [(0, .ref r0), (1, .int i1), (2, .int i2), (3, .int i3), (4, .int i4)], [], lay, σ, 0, 0) = zb_208_20 lay σ r0 i1 i2 i3 i4 := rfl
theorem zg_208_20 {lay : zm_Lay} {σ : zm_Sig} {r0 : Nat} {i1 : Int32} {i2 : Int32} {i3 : Int32} {i4 : Int32} {out : zm_Out} {r : zm_St ⊕ zm_Out} (h : zb_208_20 lay σ r0 i1 i2 i3 i4 = some r) (hg : zm_end zp_P 208 out r) : zm_go zp_P 208 (20, [(0, .ref r0), (1, .int i1), (2, .int i2), (3, .int i3), (4, .int i4)], [], lay, σ, 0, 0) out :=
  zm_blk_go (M := zd_208) rfl zs_208 45 (zp_208.drop 13) _ r (fun _ h => List.mem_of_mem_drop h) ((zr_208_20 lay σ r0 i1 i2 i3 i4).trans h) hg
/-! SubgroupWriterModel.isBranch(II)Z -/
theorem zs_209 : zm_srt zp_209 = true := by decide +kernel
noncomputable def zb_209_0 (lay : zm_Lay) (σ : zm_Sig) (r0 : Nat) (i1 : Int32) (i2 : Int32) : Option (zm_St ⊕ zm_Out) :=
  (zm_is lay r0 10).bind fun _ =>
  zm_opt (σ.2.2 r0 7) (fun q1 =>
  (zm_gI lay σ q1 ((((nI 5) : Int32) * i2) + i1)).bind fun v2 =>
  if v2 = 0 then (if i1 = 0 then (some (.inr (some (.int 0), lay, σ)))
   else ((zm_is lay r0 10).bind fun _ =>
    zm_opt (σ.2.2 r0 11) (fun q3 =>
    (zm_gI lay σ q3 i1).bind fun v4 =>
    if ¬ v4 = v2 then (some (.inr (some (.int 0), lay, σ)))
    else ((zm_is lay r0 10).bind fun _ =>
     zm_opt (σ.2.2 r0 12) (fun q5 =>
     (zm_gI lay σ q5 i1).bind fun v6 =>
     if ¬ v6 = ((-i2) - 1) then (some (.inr (some (.int 0), lay, σ)))
     else (some (.inr (some (.int 1), lay, σ)))) (none))) (none)))
  else ((zm_is lay r0 10).bind fun _ =>
   zm_opt (σ.2.2 r0 11) (fun q7 =>
   (zm_gI lay σ q7 v2).bind fun v8 =>
   if ¬ v8 = i1 then (if i1 = 0 then (some (.inr (some (.int 0), lay, σ)))
    else ((zm_is lay r0 10).bind fun _ =>
     zm_opt (σ.2.2 r0 11) (fun q9 =>
     (zm_gI lay σ q9 i1).bind fun v10 =>
     if ¬ v10 = v2 then (some (.inr (some (.int 0), lay, σ)))
     else ((zm_is lay r0 10).bind fun _ =>
      zm_opt (σ.2.2 r0 12) (fun q11 =>
      (zm_gI lay σ q11 i1).bind fun v12 =>
      if ¬ v12 = ((-i2) - 1) then (some (.inr (some (.int 0), lay, σ)))
      else (some (.inr (some (.int 1), lay, σ)))) (none))) (none)))
   else ((zm_is lay r0 10).bind fun _ =>
    zm_opt (σ.2.2 r0 12) (fun q13 =>
    (zm_gI lay σ q13 v2).bind fun v14 =>
    if v14 = (i2 + 1) then (some (.inr (some (.int 1), lay, σ)))
    else (if i1 = 0 then (some (.inr (some (.int 0), lay, σ)))
     else ((zm_is lay r0 10).bind fun _ =>
      zm_opt (σ.2.2 r0 11) (fun q15 =>
      (zm_gI lay σ q15 i1).bind fun v16 =>
      if ¬ v16 = v2 then (some (.inr (some (.int 0), lay, σ)))
      else ((zm_is lay r0 10).bind fun _ =>
       zm_opt (σ.2.2 r0 12) (fun q17 =>
       (zm_gI lay σ q17 i1).bind fun v18 =>
       if ¬ v18 = ((-i2) - 1) then (some (.inr (some (.int 0), lay, σ)))
       else (some (.inr (some (.int 1), lay, σ)))) (none))) (none)))) (none))) (none))) (none)
set_option maxRecDepth 100000 in
theorem zr_209_0 (lay : zm_Lay) (σ : zm_Sig) (r0 : Nat) (i1 : Int32) (i2 : Int32) : zm_blk zM zp_209 (some .boolean) 0 0 zc_209 47 (zp_209.drop 0) (0, [(0, .ref r0), (1, .int i1), (2, .int i2)], [], lay, σ, 0, 0) = zb_209_0 lay σ r0 i1 i2 := rfl
theorem ze_209 {lay : zm_Lay} {σ : zm_Sig} {r0 : Nat} {i1 : Int32} {i2 : Int32} {out : zm_Out} {r : zm_St ⊕ zm_Out} (h : zb_209_0 lay σ r0 i1 i2 = some r) (hg : zm_end zp_P 209 out r) : zM 209 [.ref r0, .int i1, .int i2] lay σ = some out :=
  zm_mean_go (M := zd_209) rfl (Nat.le_of_ble_eq_true rfl) (zm_blk_go (M := zd_209) rfl zs_209 47 (zp_209.drop 0) _ r (fun _ h => List.mem_of_mem_drop h) ((zr_209_0 lay σ r0 i1 i2).trans h) hg)
/-! SubgroupWriterModel.isTwin(II)Z -/
theorem zs_210 : zm_srt zp_210 = true := by decide +kernel
noncomputable def zb_210_0 (lay : zm_Lay) (σ : zm_Sig) (r0 : Nat) (i1 : Int32) (i2 : Int32) : Option (zm_St ⊕ zm_Out) :=
  if i1 = 0 then (if i2 = 0 then (some (.inr (some (.int 0), lay, σ)))
   else ((zm_is lay r0 10).bind fun _ =>
    zm_opt (σ.2.2 r0 11) (fun q1 =>
    (zm_gI lay σ q1 i2).bind fun v2 =>
    if ¬ v2 = i1 then (some (.inr (some (.int 0), lay, σ)))
    else (some (.inr (some (.int 1), lay, σ)))) (none)))
  else ((zm_is lay r0 10).bind fun _ =>
   zm_opt (σ.2.2 r0 11) (fun q3 =>
   (zm_gI lay σ q3 i1).bind fun v4 =>
   if v4 = i2 then (some (.inr (some (.int 1), lay, σ)))
   else (if i2 = 0 then (some (.inr (some (.int 0), lay, σ)))
    else ((zm_is lay r0 10).bind fun _ =>
     zm_opt (σ.2.2 r0 11) (fun q5 =>
     (zm_gI lay σ q5 i2).bind fun v6 =>
     if ¬ v6 = i1 then (some (.inr (some (.int 0), lay, σ)))
     else (some (.inr (some (.int 1), lay, σ)))) (none)))) (none))
set_option maxRecDepth 100000 in
theorem zr_210_0 (lay : zm_Lay) (σ : zm_Sig) (r0 : Nat) (i1 : Int32) (i2 : Int32) : zm_blk zM zp_210 (some .boolean) 0 0 zc_210 21 (zp_210.drop 0) (0, [(0, .ref r0), (1, .int i1), (2, .int i2)], [], lay, σ, 0, 0) = zb_210_0 lay σ r0 i1 i2 := rfl
theorem ze_210 {lay : zm_Lay} {σ : zm_Sig} {r0 : Nat} {i1 : Int32} {i2 : Int32} {out : zm_Out} {r : zm_St ⊕ zm_Out} (h : zb_210_0 lay σ r0 i1 i2 = some r) (hg : zm_end zp_P 210 out r) : zM 210 [.ref r0, .int i1, .int i2] lay σ = some out :=
  zm_mean_go (M := zd_210) rfl (Nat.le_of_ble_eq_true rfl) (zm_blk_go (M := zd_210) rfl zs_210 21 (zp_210.drop 0) _ r (fun _ h => List.mem_of_mem_drop h) ((zr_210_0 lay σ r0 i1 i2).trans h) hg)
/-! SubgroupWriterModel.laysRules()V -/
theorem zs_211 : zm_srt zp_211 = true := by decide +kernel
noncomputable def zb_211_0 (lay : zm_Lay) (σ : zm_Sig) (r0 : Nat) : Option (zm_St ⊕ zm_Out) :=
  (zm_is lay r0 10).bind fun _ =>
  zm_opt (σ.2.2 r0 21) (fun q1 =>
  (zm_sI lay σ q1 1 0).bind fun s2 =>
  (zm_is lay r0 10).bind fun _ =>
  zm_opt (s2.2.2 r0 21) (fun q3 =>
  (zm_is lay r0 10).bind fun _ =>
  (zm_sI lay s2 q3 (nI 2) (((1 : Int32) <<< ((s2.1 r0 20) &&& 31)) - 1)).bind fun s4 =>
  some (.inl (23, [(0, .ref r0), (1, .int 0)], [], lay, s4, 0, 0))) (none)) (none)
set_option maxRecDepth 100000 in
theorem zr_211_0 (lay : zm_Lay) (σ : zm_Sig) (r0 : Nat) : zm_blk zM zp_211 none 0 0 zc_211 85 (zp_211.drop 0) (0, [(0, .ref r0)], [], lay, σ, 0, 0) = zb_211_0 lay σ r0 := rfl
theorem ze_211 {lay : zm_Lay} {σ : zm_Sig} {r0 : Nat} {out : zm_Out} {r : zm_St ⊕ zm_Out} (h : zb_211_0 lay σ r0 = some r) (hg : zm_end zp_P 211 out r) : zM 211 [.ref r0] lay σ = some out :=
  zm_mean_go (M := zd_211) rfl (Nat.le_of_ble_eq_true rfl) (zm_blk_go (M := zd_211) rfl zs_211 85 (zp_211.drop 0) _ r (fun _ h => List.mem_of_mem_drop h) ((zr_211_0 lay σ r0).trans h) hg)
noncomputable def zb_211_23 (lay : zm_Lay) (σ : zm_Sig) (r0 : Nat) (i1 : Int32) : Option (zm_St ⊕ zm_Out) :=
  (zm_is lay r0 10).bind fun _ =>
  if (σ.1 r0 4) ≤ i1 then (some (.inr (none, lay, σ)))
  else (some (.inl (33, [(0, .ref r0), (1, .int i1), (2, .int 0)], [], lay, σ, 0, 0)))
set_option maxRecDepth 100000 in
theorem zr_211_23 (lay : zm_Lay) (σ : zm_Sig) (r0 : Nat) (i1 : Int32) : zm_blk zM zp_211 none 0 0 zc_211 85 (zp_211.drop 17) (23, [(0, .ref r0), (1, .int i1)], [], lay, σ, 0, 0) = zb_211_23 lay σ r0 i1 := rfl
theorem zg_211_23 {lay : zm_Lay} {σ : zm_Sig} {r0 : Nat} {i1 : Int32} {out : zm_Out} {r : zm_St ⊕ zm_Out} (h : zb_211_23 lay σ r0 i1 = some r) (hg : zm_end zp_P 211 out r) : zm_go zp_P 211 (23, [(0, .ref r0), (1, .int i1)], [], lay, σ, 0, 0) out :=
  zm_blk_go (M := zd_211) rfl zs_211 85 (zp_211.drop 17) _ r (fun _ h => List.mem_of_mem_drop h) ((zr_211_23 lay σ r0 i1).trans h) hg
noncomputable def zb_211_33 (lay : zm_Lay) (σ : zm_Sig) (r0 : Nat) (i1 : Int32) (i2 : Int32) : Option (zm_St ⊕ zm_Out) :=
  (zm_is lay r0 10).bind fun _ =>
  if (σ.1 r0 6) ≤ i2 then (some (.inl (23, [(0, .ref r0), (1, .int (i1 + 1))], [], lay, σ, 0, 0)))
  else ((zm_is lay r0 10).bind fun _ => (zm_fw σ r0 40 0 (.int 0)).bind fun s1 =>
   some (.inl (51, [(0, .ref r0), (1, .int i1), (2, .int i2), (3, .int i1), (4, .int 0)], [], lay, s1, 0, 0)))
set_option maxRecDepth 100000 in
theorem zr_211_33 (lay : zm_Lay) (σ : zm_Sig) (r0 : Nat) (i1 : Int32) (i2 : Int32) : zm_blk zM zp_211 none 0 0 zc_211 85 (zp_211.drop 23) (33, [(0, .ref r0), (1, .int i1), (2, .int i2)], [], lay, σ, 0, 0) = zb_211_33 lay σ r0 i1 i2 := rfl
theorem zg_211_33 {lay : zm_Lay} {σ : zm_Sig} {r0 : Nat} {i1 : Int32} {i2 : Int32} {out : zm_Out} {r : zm_St ⊕ zm_Out} (h : zb_211_33 lay σ r0 i1 i2 = some r) (hg : zm_end zp_P 211 out r) : zm_go zp_P 211 (33, [(0, .ref r0), (1, .int i1), (2, .int i2)], [], lay, σ, 0, 0) out :=
  zm_blk_go (M := zd_211) rfl zs_211 85 (zp_211.drop 23) _ r (fun _ h => List.mem_of_mem_drop h) ((zr_211_33 lay σ r0 i1 i2).trans h) hg
noncomputable def zb_211_51 (lay : zm_Lay) (σ : zm_Sig) (r0 : Nat) (i1 : Int32) (i2 : Int32) (i3 : Int32) (i4 : Int32) : Option (zm_St ⊕ zm_Out) :=
  (zm_is lay r0 10).bind fun _ =>
  zm_opt (σ.2.2 r0 9) (fun q1 =>
  (zm_gI lay σ q1 i2).bind fun v2 =>
  if v2 ≤ i4 then ((zm_is lay r0 10).bind fun _ =>
   zm_opt (σ.2.2 r0 21) (fun q3 =>
   (zm_gI lay σ q3 1).bind fun v4 =>
   (zm_is lay r0 10).bind fun _ => (zm_av (zM 214 [.ref r0, .int v4] lay σ)).bind fun q5 =>
   (zm_is q5.1 r0 10).bind fun _ =>
   zm_opt (q5.2.2.2 r0 21) (fun q6 =>
   (zm_gI q5.1 q5.2 q6 1).bind fun v7 =>
   (zm_sI q5.1 q5.2 q6 1 (v7 + 1)).bind fun s8 =>
   some (.inl (33, [(0, .ref r0), (1, .int i1), (2, .int (i2 + 1))], [], q5.1, s8, 0, 0))) (none)) (none))
  else ((zm_is lay r0 10).bind fun _ =>
   zm_opt (σ.2.2 r0 10) (fun q9 =>
   (zm_gI lay σ q9 ((((nI 8) : Int32) * i2) + i4)).bind fun v10 =>
   (zm_is lay r0 10).bind fun _ => (zm_av (zM 212 [.ref r0, .int i3, .int v10] lay σ)).bind fun q11 =>
   (zm_is q11.1 r0 10).bind fun _ =>
   zm_opt (q11.2.2.2 r0 10) (fun q12 =>
   (zm_gI q11.1 q11.2 q12 ((((nI 8) : Int32) * i2) + i4)).bind fun v13 =>
   (zm_is q11.1 r0 10).bind fun _ => (zm_ai (zM 205 [.ref r0, .int i3, .int v13] q11.1 q11.2)).bind fun q14 =>
   some (.inl (51, [(0, .ref r0), (1, .int i1), (2, .int i2), (3, .int q14.1), (4, .int (i4 + 1))], [], q14.2.1, q14.2.2, 0, 0))) (none)) (none))) (none)
set_option maxRecDepth 100000 in
theorem zr_211_51 (lay : zm_Lay) (σ : zm_Sig) (r0 : Nat) (i1 : Int32) (i2 : Int32) (i3 : Int32) (i4 : Int32) : zm_blk zM zp_211 none 0 0 zc_211 85 (zp_211.drop 34) (51, [(0, .ref r0), (1, .int i1), (2, .int i2), (3, .int i3), (4, .int i4)], [], lay, σ, 0, 0) = zb_211_51 lay σ r0 i1 i2 i3 i4 := rfl
theorem zg_211_51 {lay : zm_Lay} {σ : zm_Sig} {r0 : Nat} {i1 : Int32} {i2 : Int32} {i3 : Int32} {i4 : Int32} {out : zm_Out} {r : zm_St ⊕ zm_Out} (h : zb_211_51 lay σ r0 i1 i2 i3 i4 = some r) (hg : zm_end zp_P 211 out r) : zm_go zp_P 211 (51, [(0, .ref r0), (1, .int i1), (2, .int i2), (3, .int i3), (4, .int i4)], [], lay, σ, 0, 0) out :=
  zm_blk_go (M := zd_211) rfl zs_211 85 (zp_211.drop 34) _ r (fun _ h => List.mem_of_mem_drop h) ((zr_211_51 lay σ r0 i1 i2 i3 i4).trans h) hg
/-! SubgroupWriterModel.writes(II)V -/
theorem zs_212 : zm_srt zp_212 = true := by decide +kernel
noncomputable def zb_212_0 (lay : zm_Lay) (σ : zm_Sig) (r0 : Nat) (i1 : Int32) (i2 : Int32) : Option (zm_St ⊕ zm_Out) :=
  if i2 ≤ 0 then ((zm_is lay r0 10).bind fun _ => (zm_ai (zM 205 [.ref r0, .int i1, .int i2] lay σ)).bind fun q1 =>
   (zm_is q1.2.1 r0 10).bind fun _ =>
   zm_opt (q1.2.2.2.2 r0 18) (fun q2 =>
   (zm_is q1.2.1 r0 10).bind fun _ =>
   if i2 ≤ 0 then ((zm_gI q1.2.1 q1.2.2 q2 ((((q1.2.2.1 r0 5) * q1.1) + (-i2)) - 1)).bind fun v3 =>
    if v3 ≤ 0 then (some (.inr (none, q1.2.1, q1.2.2)))
    else (if i2 ≤ 0 then ((zm_is q1.2.1 r0 10).bind fun _ => (zm_av (zM 213 [.ref r0, .int (-v3)] q1.2.1 q1.2.2)).bind fun q4 =>
      some (.inr (none, q4.1, q4.2)))
     else ((zm_is q1.2.1 r0 10).bind fun _ => (zm_av (zM 213 [.ref r0, .int v3] q1.2.1 q1.2.2)).bind fun q5 =>
      some (.inr (none, q5.1, q5.2)))))
   else ((zm_gI q1.2.1 q1.2.2 q2 ((((q1.2.2.1 r0 5) * q1.1) + i2) - 1)).bind fun v6 =>
    if v6 ≤ 0 then (some (.inr (none, q1.2.1, q1.2.2)))
    else (if i2 ≤ 0 then ((zm_is q1.2.1 r0 10).bind fun _ => (zm_av (zM 213 [.ref r0, .int (-v6)] q1.2.1 q1.2.2)).bind fun q7 =>
      some (.inr (none, q7.1, q7.2)))
     else ((zm_is q1.2.1 r0 10).bind fun _ => (zm_av (zM 213 [.ref r0, .int v6] q1.2.1 q1.2.2)).bind fun q8 =>
      some (.inr (none, q8.1, q8.2)))))) (none))
  else ((zm_is lay r0 10).bind fun _ =>
   zm_opt (σ.2.2 r0 18) (fun q9 =>
   (zm_is lay r0 10).bind fun _ =>
   if i2 ≤ 0 then ((zm_gI lay σ q9 ((((σ.1 r0 5) * i1) + (-i2)) - 1)).bind fun v10 =>
    if v10 ≤ 0 then (some (.inr (none, lay, σ)))
    else (if i2 ≤ 0 then ((zm_is lay r0 10).bind fun _ => (zm_av (zM 213 [.ref r0, .int (-v10)] lay σ)).bind fun q11 =>
      some (.inr (none, q11.1, q11.2)))
     else ((zm_is lay r0 10).bind fun _ => (zm_av (zM 213 [.ref r0, .int v10] lay σ)).bind fun q12 =>
      some (.inr (none, q12.1, q12.2)))))
   else ((zm_gI lay σ q9 ((((σ.1 r0 5) * i1) + i2) - 1)).bind fun v13 =>
    if v13 ≤ 0 then (some (.inr (none, lay, σ)))
    else (if i2 ≤ 0 then ((zm_is lay r0 10).bind fun _ => (zm_av (zM 213 [.ref r0, .int (-v13)] lay σ)).bind fun q14 =>
      some (.inr (none, q14.1, q14.2)))
     else ((zm_is lay r0 10).bind fun _ => (zm_av (zM 213 [.ref r0, .int v13] lay σ)).bind fun q15 =>
      some (.inr (none, q15.1, q15.2)))))) (none))
set_option maxRecDepth 100000 in
theorem zr_212_0 (lay : zm_Lay) (σ : zm_Sig) (r0 : Nat) (i1 : Int32) (i2 : Int32) : zm_blk zM zp_212 none 0 0 zc_212 38 (zp_212.drop 0) (0, [(0, .ref r0), (1, .int i1), (2, .int i2)], [], lay, σ, 0, 0) = zb_212_0 lay σ r0 i1 i2 := rfl
theorem ze_212 {lay : zm_Lay} {σ : zm_Sig} {r0 : Nat} {i1 : Int32} {i2 : Int32} {out : zm_Out} {r : zm_St ⊕ zm_Out} (h : zb_212_0 lay σ r0 i1 i2 = some r) (hg : zm_end zp_P 212 out r) : zM 212 [.ref r0, .int i1, .int i2] lay σ = some out :=
  zm_mean_go (M := zd_212) rfl (Nat.le_of_ble_eq_true rfl) (zm_blk_go (M := zd_212) rfl zs_212 38 (zp_212.drop 0) _ r (fun _ h => List.mem_of_mem_drop h) ((zr_212_0 lay σ r0 i1 i2).trans h) hg)
/-! SubgroupWriterModel.grows(I)V -/
theorem zs_213 : zm_srt zp_213 = true := by decide +kernel
noncomputable def zb_213_0 (lay : zm_Lay) (σ : zm_Sig) (r0 : Nat) (i1 : Int32) : Option (zm_St ⊕ zm_Out) :=
  (zm_is lay r0 10).bind fun _ =>
  if (σ.1 r0 40) ≤ 0 then ((zm_is lay r0 10).bind fun _ =>
   zm_opt (σ.2.2 r0 39) (fun q1 =>
   (zm_is lay r0 10).bind fun _ =>
   (zm_sI lay σ q1 (σ.1 r0 40) i1).bind fun s2 =>
   (zm_is lay r0 10).bind fun _ =>
   (zm_is lay r0 10).bind fun _ => (zm_fw s2 r0 40 0 (.int ((s2.1 r0 40) + 1))).bind fun s3 =>
   some (.inr (none, lay, s3))) (none))
  else ((zm_is lay r0 10).bind fun _ =>
   zm_opt (σ.2.2 r0 39) (fun q4 =>
   (zm_is lay r0 10).bind fun _ =>
   (zm_gI lay σ q4 ((σ.1 r0 40) - 1)).bind fun v5 =>
   if ¬ v5 = (-i1) then ((zm_is lay r0 10).bind fun _ =>
    zm_opt (σ.2.2 r0 39) (fun q6 =>
    (zm_is lay r0 10).bind fun _ =>
    (zm_sI lay σ q6 (σ.1 r0 40) i1).bind fun s7 =>
    (zm_is lay r0 10).bind fun _ =>
    (zm_is lay r0 10).bind fun _ => (zm_fw s7 r0 40 0 (.int ((s7.1 r0 40) + 1))).bind fun s8 =>
    some (.inr (none, lay, s8))) (none))
   else ((zm_is lay r0 10).bind fun _ =>
    (zm_is lay r0 10).bind fun _ => (zm_fw σ r0 40 0 (.int ((σ.1 r0 40) - 1))).bind fun s9 =>
    some (.inr (none, lay, s9)))) (none))
set_option maxRecDepth 100000 in
theorem zr_213_0 (lay : zm_Lay) (σ : zm_Sig) (r0 : Nat) (i1 : Int32) : zm_blk zM zp_213 none 0 0 zc_213 34 (zp_213.drop 0) (0, [(0, .ref r0), (1, .int i1)], [], lay, σ, 0, 0) = zb_213_0 lay σ r0 i1 := rfl
theorem ze_213 {lay : zm_Lay} {σ : zm_Sig} {r0 : Nat} {i1 : Int32} {out : zm_Out} {r : zm_St ⊕ zm_Out} (h : zb_213_0 lay σ r0 i1 = some r) (hg : zm_end zp_P 213 out r) : zM 213 [.ref r0, .int i1] lay σ = some out :=
  zm_mean_go (M := zd_213) rfl (Nat.le_of_ble_eq_true rfl) (zm_blk_go (M := zd_213) rfl zs_213 34 (zp_213.drop 0) _ r (fun _ h => List.mem_of_mem_drop h) ((zr_213_0 lay σ r0 i1).trans h) hg)
/-! SubgroupWriterModel.puts(I)V -/
theorem zs_214 : zm_srt zp_214 = true := by decide +kernel
noncomputable def zb_214_0 (lay : zm_Lay) (σ : zm_Sig) (r0 : Nat) (i1 : Int32) : Option (zm_St ⊕ zm_Out) :=
  (zm_is lay r0 10).bind fun _ =>
  zm_opt (σ.2.2 r0 21) (fun q1 =>
  (zm_is lay r0 10).bind fun _ =>
  (zm_sI lay σ q1 (((nI 3) : Int32) + i1) (σ.1 r0 40)).bind fun s2 =>
  (zm_is lay r0 10).bind fun _ =>
  zm_opt (s2.2.2 r0 39) (fun q3 =>
  (zm_is lay r0 10).bind fun _ =>
  zm_opt (s2.2.2 r0 21) (fun q4 =>
  (zm_is lay r0 10).bind fun _ =>
  (zm_av (zM 200 [.ref q3, .int 0, .ref q4, .int (((nI 18) : Int32) + (((nI 16) : Int32) * i1)), .int (s2.1 r0 40)] lay s2)).bind fun q5 =>
  some (.inr (none, q5.1, q5.2))) (none)) (none)) (none)
set_option maxRecDepth 100000 in
theorem zr_214_0 (lay : zm_Lay) (σ : zm_Sig) (r0 : Nat) (i1 : Int32) : zm_blk zM zp_214 none 0 0 zc_214 23 (zp_214.drop 0) (0, [(0, .ref r0), (1, .int i1)], [], lay, σ, 0, 0) = zb_214_0 lay σ r0 i1 := rfl
theorem ze_214 {lay : zm_Lay} {σ : zm_Sig} {r0 : Nat} {i1 : Int32} {out : zm_Out} {r : zm_St ⊕ zm_Out} (h : zb_214_0 lay σ r0 i1 = some r) (hg : zm_end zp_P 214 out r) : zM 214 [.ref r0, .int i1] lay σ = some out :=
  zm_mean_go (M := zd_214) rfl (Nat.le_of_ble_eq_true rfl) (zm_blk_go (M := zd_214) rfl zs_214 23 (zp_214.drop 0) _ r (fun _ h => List.mem_of_mem_drop h) ((zr_214_0 lay σ r0 i1).trans h) hg)
/-! SubgroupWriterModel.goes(II)I -/
theorem zs_215 : zm_srt zp_215 = true := by decide +kernel
noncomputable def zb_215_0 (lay : zm_Lay) (σ : zm_Sig) (r0 : Nat) (i1 : Int32) (i2 : Int32) : Option (zm_St ⊕ zm_Out) :=
  (zm_is lay r0 10).bind fun _ => (zm_ai (zM 216 [.ref r0, .int i1] lay σ)).bind fun q1 =>
  if q1.1 = 0 then (some (.inr (some (.int (-1)), q1.2.1, q1.2.2)))
  else ((zm_is q1.2.1 r0 10).bind fun _ => (zm_ai (zM 217 [.ref r0, .int i2] q1.2.1 q1.2.2)).bind fun q2 =>
   if q2.1 = 0 then (some (.inr (some (.int (-1)), q2.2.1, q2.2.2)))
   else ((zm_is q2.2.1 r0 10).bind fun _ => (zm_ai (zM 205 [.ref r0, .int i1, .int i2] q2.2.1 q2.2.2)).bind fun q3 =>
    some (.inr (some (.int q3.1), q3.2.1, q3.2.2))))
set_option maxRecDepth 100000 in
theorem zr_215_0 (lay : zm_Lay) (σ : zm_Sig) (r0 : Nat) (i1 : Int32) (i2 : Int32) : zm_blk zM zp_215 (some .int) 0 0 zc_215 16 (zp_215.drop 0) (0, [(0, .ref r0), (1, .int i1), (2, .int i2)], [], lay, σ, 0, 0) = zb_215_0 lay σ r0 i1 i2 := rfl
theorem ze_215 {lay : zm_Lay} {σ : zm_Sig} {r0 : Nat} {i1 : Int32} {i2 : Int32} {out : zm_Out} {r : zm_St ⊕ zm_Out} (h : zb_215_0 lay σ r0 i1 i2 = some r) (hg : zm_end zp_P 215 out r) : zM 215 [.ref r0, .int i1, .int i2] lay σ = some out :=
  zm_mean_go (M := zd_215) rfl (Nat.le_of_ble_eq_true rfl) (zm_blk_go (M := zd_215) rfl zs_215 16 (zp_215.drop 0) _ r (fun _ h => List.mem_of_mem_drop h) ((zr_215_0 lay σ r0 i1 i2).trans h) hg)
/-! SubgroupWriterModel.isPoint(I)Z -/
theorem zs_216 : zm_srt zp_216 = true := by decide +kernel
noncomputable def zb_216_0 (lay : zm_Lay) (σ : zm_Sig) (r0 : Nat) (i1 : Int32) : Option (zm_St ⊕ zm_Out) :=
  (zm_is lay r0 10).bind fun _ =>
  (zm_ai (zM 176 [.int i1, .int 0, .int ((σ.1 r0 4) - 1)] lay σ)).bind fun q1 =>
  if q1.1 = 0 ∨ q1.1 = 1 then some (.inr (some (.int q1.1), q1.2.1, q1.2.2)) else none
set_option maxRecDepth 100000 in
theorem zr_216_0 (lay : zm_Lay) (σ : zm_Sig) (r0 : Nat) (i1 : Int32) : zm_blk zM zp_216 (some .boolean) 0 0 zc_216 9 (zp_216.drop 0) (0, [(0, .ref r0), (1, .int i1)], [], lay, σ, 0, 0) = zb_216_0 lay σ r0 i1 := rfl
theorem ze_216 {lay : zm_Lay} {σ : zm_Sig} {r0 : Nat} {i1 : Int32} {out : zm_Out} {r : zm_St ⊕ zm_Out} (h : zb_216_0 lay σ r0 i1 = some r) (hg : zm_end zp_P 216 out r) : zM 216 [.ref r0, .int i1] lay σ = some out :=
  zm_mean_go (M := zd_216) rfl (Nat.le_of_ble_eq_true rfl) (zm_blk_go (M := zd_216) rfl zs_216 9 (zp_216.drop 0) _ r (fun _ h => List.mem_of_mem_drop h) ((zr_216_0 lay σ r0 i1).trans h) hg)
/-! SubgroupWriterModel.isLetter(I)Z -/
theorem zs_217 : zm_srt zp_217 = true := by decide +kernel
noncomputable def zb_217_0 (lay : zm_Lay) (σ : zm_Sig) (r0 : Nat) (i1 : Int32) : Option (zm_St ⊕ zm_Out) :=
  if i1 = 0 then (some (.inr (some (.int 0), lay, σ)))
  else ((zm_is lay r0 10).bind fun _ =>
   (zm_is lay r0 10).bind fun _ =>
   (zm_ai (zM 176 [.int i1, .int (-(σ.1 r0 5)), .int (σ.1 r0 5)] lay σ)).bind fun q1 =>
   if q1.1 = 0 then (some (.inr (some (.int 0), q1.2.1, q1.2.2)))
   else (some (.inr (some (.int 1), q1.2.1, q1.2.2))))
set_option maxRecDepth 100000 in
theorem zr_217_0 (lay : zm_Lay) (σ : zm_Sig) (r0 : Nat) (i1 : Int32) : zm_blk zM zp_217 (some .boolean) 0 0 zc_217 15 (zp_217.drop 0) (0, [(0, .ref r0), (1, .int i1)], [], lay, σ, 0, 0) = zb_217_0 lay σ r0 i1 := rfl
theorem ze_217 {lay : zm_Lay} {σ : zm_Sig} {r0 : Nat} {i1 : Int32} {out : zm_Out} {r : zm_St ⊕ zm_Out} (h : zb_217_0 lay σ r0 i1 = some r) (hg : zm_end zp_P 217 out r) : zM 217 [.ref r0, .int i1] lay σ = some out :=
  zm_mean_go (M := zd_217) rfl (Nat.le_of_ble_eq_true rfl) (zm_blk_go (M := zd_217) rfl zs_217 15 (zp_217.drop 0) _ r (fun _ h => List.mem_of_mem_drop h) ((zr_217_0 lay σ r0 i1).trans h) hg)
/-! SubgroupWriterModel.reached(II)I -/
theorem zs_218 : zm_srt zp_218 = true := by decide +kernel
noncomputable def zb_218_0 (lay : zm_Lay) (σ : zm_Sig) (r0 : Nat) (i1 : Int32) (i2 : Int32) : Option (zm_St ⊕ zm_Out) :=
  (zm_is lay r0 10).bind fun _ => (zm_ai (zM 216 [.ref r0, .int i1] lay σ)).bind fun q1 =>
  if q1.1 = 0 then (some (.inr (some (.int (-1)), q1.2.1, q1.2.2)))
  else ((zm_ai (zM 176 [.int i2, .int 0, .int (nI 3)] q1.2.1 q1.2.2)).bind fun q2 =>
   if q2.1 = 0 then (some (.inr (some (.int (-1)), q2.2.1, q2.2.2)))
   else ((zm_is q2.2.1 r0 10).bind fun _ => (zm_ai (zM 219 [.ref r0, .int i1, .int i2] q2.2.1 q2.2.2)).bind fun q3 =>
    (zm_is q3.2.1 r0 10).bind fun _ => (zm_ai (zM 181 [.ref r0, .int q3.1, .int 1] q3.2.1 q3.2.2)).bind fun q4 =>
    some (.inr (some (.int q4.1), q4.2.1, q4.2.2))))
set_option maxRecDepth 100000 in
theorem zr_218_0 (lay : zm_Lay) (σ : zm_Sig) (r0 : Nat) (i1 : Int32) (i2 : Int32) : zm_blk zM zp_218 (some .int) 0 0 zc_218 20 (zp_218.drop 0) (0, [(0, .ref r0), (1, .int i1), (2, .int i2)], [], lay, σ, 0, 0) = zb_218_0 lay σ r0 i1 i2 := rfl
theorem ze_218 {lay : zm_Lay} {σ : zm_Sig} {r0 : Nat} {i1 : Int32} {i2 : Int32} {out : zm_Out} {r : zm_St ⊕ zm_Out} (h : zb_218_0 lay σ r0 i1 i2 = some r) (hg : zm_end zp_P 218 out r) : zM 218 [.ref r0, .int i1, .int i2] lay σ = some out :=
  zm_mean_go (M := zd_218) rfl (Nat.le_of_ble_eq_true rfl) (zm_blk_go (M := zd_218) rfl zs_218 20 (zp_218.drop 0) _ r (fun _ h => List.mem_of_mem_drop h) ((zr_218_0 lay σ r0 i1 i2).trans h) hg)
/-! SubgroupWriterModel.reachedOf(II)I -/
theorem zs_219 : zm_srt zp_219 = true := by decide +kernel
noncomputable def zb_219_0 (lay : zm_Lay) (σ : zm_Sig) (r0 : Nat) (i1 : Int32) (i2 : Int32) : Option (zm_St ⊕ zm_Out) :=
  if ¬ i2 = 0 then (if ¬ i2 = 1 then (if ¬ i2 = (nI 2) then ((zm_is lay r0 10).bind fun _ =>
     zm_opt (σ.2.2 r0 14) (fun q1 =>
     (zm_gI lay σ q1 i1).bind fun v2 =>
     some (.inr (some (.int v2), lay, σ))) (none))
    else ((zm_is lay r0 10).bind fun _ =>
     zm_opt (σ.2.2 r0 13) (fun q3 =>
     (zm_gI lay σ q3 i1).bind fun v4 =>
     some (.inr (some (.int v4), lay, σ))) (none)))
   else ((zm_is lay r0 10).bind fun _ =>
    zm_opt (σ.2.2 r0 12) (fun q5 =>
    (zm_gI lay σ q5 i1).bind fun v6 =>
    some (.inr (some (.int v6), lay, σ))) (none)))
  else ((zm_is lay r0 10).bind fun _ =>
   zm_opt (σ.2.2 r0 11) (fun q7 =>
   (zm_gI lay σ q7 i1).bind fun v8 =>
   some (.inr (some (.int v8), lay, σ))) (none))
set_option maxRecDepth 100000 in
theorem zr_219_0 (lay : zm_Lay) (σ : zm_Sig) (r0 : Nat) (i1 : Int32) (i2 : Int32) : zm_blk zM zp_219 (some .int) 0 0 zc_219 29 (zp_219.drop 0) (0, [(0, .ref r0), (1, .int i1), (2, .int i2)], [], lay, σ, 0, 0) = zb_219_0 lay σ r0 i1 i2 := rfl
theorem ze_219 {lay : zm_Lay} {σ : zm_Sig} {r0 : Nat} {i1 : Int32} {i2 : Int32} {out : zm_Out} {r : zm_St ⊕ zm_Out} (h : zb_219_0 lay σ r0 i1 i2 = some r) (hg : zm_end zp_P 219 out r) : zM 219 [.ref r0, .int i1, .int i2] lay σ = some out :=
  zm_mean_go (M := zd_219) rfl (Nat.le_of_ble_eq_true rfl) (zm_blk_go (M := zd_219) rfl zs_219 29 (zp_219.drop 0) _ r (fun _ h => List.mem_of_mem_drop h) ((zr_219_0 lay σ r0 i1 i2).trans h) hg)
/-! SubgroupWriterModel.way(II)I -/
theorem zs_220 : zm_srt zp_220 = true := by decide +kernel
noncomputable def zb_220_0 (lay : zm_Lay) (σ : zm_Sig) (r0 : Nat) (i1 : Int32) (i2 : Int32) : Option (zm_St ⊕ zm_Out) :=
  (zm_is lay r0 10).bind fun _ => (zm_ai (zM 216 [.ref r0, .int i1] lay σ)).bind fun q1 =>
  if q1.1 = 0 then (some (.inr (some (.int (-1)), q1.2.1, q1.2.2)))
  else ((zm_ai (zM 175 [.int i2] q1.2.1 q1.2.2)).bind fun q2 =>
   if ¬ q2.1 = 0 then ((zm_is q2.2.1 r0 10).bind fun _ =>
    zm_opt (q2.2.2.2.2 r0 13) (fun q3 =>
    (zm_gI q2.2.1 q2.2.2 q3 i1).bind fun v4 =>
    (zm_is q2.2.1 r0 10).bind fun _ => (zm_av (zM 178 [.ref r0, .int i2, .int v4] q2.2.1 q2.2.2)).bind fun q5 =>
    (zm_is q5.1 r0 10).bind fun _ =>
    zm_opt (q5.2.2.2 r0 13) (fun q6 =>
    (zm_gI q5.1 q5.2 q6 i1).bind fun v7 =>
    some (.inl (40, [(0, .ref r0), (1, .int i1), (2, .int i2), (3, .int i1), (4, .int (v7 - 1))], [], q5.1, q5.2, 0, 0))) (none)) (none))
   else (some (.inr (some (.int (-1)), q2.2.1, q2.2.2))))
set_option maxRecDepth 100000 in
theorem zr_220_0 (lay : zm_Lay) (σ : zm_Sig) (r0 : Nat) (i1 : Int32) (i2 : Int32) : zm_blk zM zp_220 (some .int) 0 0 zc_220 52 (zp_220.drop 0) (0, [(0, .ref r0), (1, .int i1), (2, .int i2)], [], lay, σ, 0, 0) = zb_220_0 lay σ r0 i1 i2 := rfl
theorem ze_220 {lay : zm_Lay} {σ : zm_Sig} {r0 : Nat} {i1 : Int32} {i2 : Int32} {out : zm_Out} {r : zm_St ⊕ zm_Out} (h : zb_220_0 lay σ r0 i1 i2 = some r) (hg : zm_end zp_P 220 out r) : zM 220 [.ref r0, .int i1, .int i2] lay σ = some out :=
  zm_mean_go (M := zd_220) rfl (Nat.le_of_ble_eq_true rfl) (zm_blk_go (M := zd_220) rfl zs_220 52 (zp_220.drop 0) _ r (fun _ h => List.mem_of_mem_drop h) ((zr_220_0 lay σ r0 i1 i2).trans h) hg)
noncomputable def zb_220_40 (lay : zm_Lay) (σ : zm_Sig) (r0 : Nat) (i1 : Int32) (i2 : Int32) (i3 : Int32) (i4 : Int32) : Option (zm_St ⊕ zm_Out) :=
  if i4 < 0 then ((zm_is lay r0 10).bind fun _ =>
   zm_opt (σ.2.2 r0 13) (fun q1 =>
   (zm_gI lay σ q1 i1).bind fun v2 =>
   some (.inr (some (.int v2), lay, σ))) (none))
  else ((zm_is lay r0 10).bind fun _ =>
   zm_opt (σ.2.2 r0 1) (fun q3 =>
   (zm_is lay r0 10).bind fun _ =>
   zm_opt (σ.2.2 r0 12) (fun q4 =>
   (zm_gI lay σ q4 i3).bind fun v5 =>
   (zm_sI lay σ q3 ((((nI 40) : Int32) * i2) + i4) v5).bind fun s6 =>
   (zm_is lay r0 10).bind fun _ =>
   zm_opt (s6.2.2 r0 11) (fun q7 =>
   (zm_gI lay s6 q7 i3).bind fun v8 =>
   some (.inl (40, [(0, .ref r0), (1, .int i1), (2, .int i2), (3, .int v8), (4, .int (i4 + (-1)))], [], lay, s6, 0, 0))) (none)) (none)) (none))
set_option maxRecDepth 100000 in
theorem zr_220_40 (lay : zm_Lay) (σ : zm_Sig) (r0 : Nat) (i1 : Int32) (i2 : Int32) (i3 : Int32) (i4 : Int32) : zm_blk zM zp_220 (some .int) 0 0 zc_220 52 (zp_220.drop 25) (40, [(0, .ref r0), (1, .int i1), (2, .int i2), (3, .int i3), (4, .int i4)], [], lay, σ, 0, 0) = zb_220_40 lay σ r0 i1 i2 i3 i4 := rfl
theorem zg_220_40 {lay : zm_Lay} {σ : zm_Sig} {r0 : Nat} {i1 : Int32} {i2 : Int32} {i3 : Int32} {i4 : Int32} {out : zm_Out} {r : zm_St ⊕ zm_Out} (h : zb_220_40 lay σ r0 i1 i2 i3 i4 = some r) (hg : zm_end zp_P 220 out r) : zm_go zp_P 220 (40, [(0, .ref r0), (1, .int i1), (2, .int i2), (3, .int i3), (4, .int i4)], [], lay, σ, 0, 0) out :=
  zm_blk_go (M := zd_220) rfl zs_220 52 (zp_220.drop 25) _ r (fun _ h => List.mem_of_mem_drop h) ((zr_220_40 lay σ r0 i1 i2 i3 i4).trans h) hg
/-! SubgroupWriterModel.edge(II)I -/
theorem zs_221 : zm_srt zp_221 = true := by decide +kernel
noncomputable def zb_221_0 (lay : zm_Lay) (σ : zm_Sig) (r0 : Nat) (i1 : Int32) (i2 : Int32) : Option (zm_St ⊕ zm_Out) :=
  (zm_is lay r0 10).bind fun _ => (zm_ai (zM 222 [.ref r0, .int i1] lay σ)).bind fun q1 =>
  if q1.1 = 0 then (some (.inr (some (.int (-1)), q1.2.1, q1.2.2)))
  else ((zm_ai (zM 176 [.int i2, .int 0, .int (nI 4)] q1.2.1 q1.2.2)).bind fun q2 =>
   if q2.1 = 0 then (some (.inr (some (.int (-1)), q2.2.1, q2.2.2)))
   else ((zm_is q2.2.1 r0 10).bind fun _ => (zm_ai (zM 223 [.ref r0, .int i1, .int i2] q2.2.1 q2.2.2)).bind fun q3 =>
    (zm_is q3.2.1 r0 10).bind fun _ => (zm_ai (zM 181 [.ref r0, .int q3.1, .int 1] q3.2.1 q3.2.2)).bind fun q4 =>
    some (.inr (some (.int q4.1), q4.2.1, q4.2.2))))
set_option maxRecDepth 100000 in
theorem zr_221_0 (lay : zm_Lay) (σ : zm_Sig) (r0 : Nat) (i1 : Int32) (i2 : Int32) : zm_blk zM zp_221 (some .int) 0 0 zc_221 20 (zp_221.drop 0) (0, [(0, .ref r0), (1, .int i1), (2, .int i2)], [], lay, σ, 0, 0) = zb_221_0 lay σ r0 i1 i2 := rfl
theorem ze_221 {lay : zm_Lay} {σ : zm_Sig} {r0 : Nat} {i1 : Int32} {i2 : Int32} {out : zm_Out} {r : zm_St ⊕ zm_Out} (h : zb_221_0 lay σ r0 i1 i2 = some r) (hg : zm_end zp_P 221 out r) : zM 221 [.ref r0, .int i1, .int i2] lay σ = some out :=
  zm_mean_go (M := zd_221) rfl (Nat.le_of_ble_eq_true rfl) (zm_blk_go (M := zd_221) rfl zs_221 20 (zp_221.drop 0) _ r (fun _ h => List.mem_of_mem_drop h) ((zr_221_0 lay σ r0 i1 i2).trans h) hg)
/-! SubgroupWriterModel.isEdge(I)Z -/
theorem zs_222 : zm_srt zp_222 = true := by decide +kernel
noncomputable def zb_222_0 (lay : zm_Lay) (σ : zm_Sig) (r0 : Nat) (i1 : Int32) : Option (zm_St ⊕ zm_Out) :=
  (zm_is lay r0 10).bind fun _ =>
  (zm_is lay r0 10).bind fun _ =>
  (zm_ai (zM 176 [.int i1, .int 0, .int (((σ.1 r0 4) * (σ.1 r0 5)) - 1)] lay σ)).bind fun q1 =>
  if q1.1 = 0 ∨ q1.1 = 1 then some (.inr (some (.int q1.1), q1.2.1, q1.2.2)) else none
set_option maxRecDepth 100000 in
theorem zr_222_0 (lay : zm_Lay) (σ : zm_Sig) (r0 : Nat) (i1 : Int32) : zm_blk zM zp_222 (some .boolean) 0 0 zc_222 12 (zp_222.drop 0) (0, [(0, .ref r0), (1, .int i1)], [], lay, σ, 0, 0) = zb_222_0 lay σ r0 i1 := rfl
theorem ze_222 {lay : zm_Lay} {σ : zm_Sig} {r0 : Nat} {i1 : Int32} {out : zm_Out} {r : zm_St ⊕ zm_Out} (h : zb_222_0 lay σ r0 i1 = some r) (hg : zm_end zp_P 222 out r) : zM 222 [.ref r0, .int i1] lay σ = some out :=
  zm_mean_go (M := zd_222) rfl (Nat.le_of_ble_eq_true rfl) (zm_blk_go (M := zd_222) rfl zs_222 12 (zp_222.drop 0) _ r (fun _ h => List.mem_of_mem_drop h) ((zr_222_0 lay σ r0 i1).trans h) hg)
/-! SubgroupWriterModel.edgeTold(II)I -/
theorem zs_223 : zm_srt zp_223 = true := by decide +kernel
noncomputable def zb_223_0 (lay : zm_Lay) (σ : zm_Sig) (r0 : Nat) (i1 : Int32) (i2 : Int32) : Option (zm_St ⊕ zm_Out) :=
  if i2 = 0 then ((zm_is lay r0 10).bind fun _ =>
   zm_opt (σ.2.2 r0 17) (fun q1 =>
   (zm_gI lay σ q1 i1).bind fun v2 =>
   some (.inr (some (.int v2), lay, σ))) (none))
  else if i2 = 1 then ((zm_is lay r0 10).bind fun _ =>
   if (σ.1 r0 5) = 0 then none
   else (some (.inr (some (.int (i1 / (σ.1 r0 5))), lay, σ))))
  else if i2 = (nI 2) then ((zm_is lay r0 10).bind fun _ => (zm_ai (zM 224 [.ref r0, .int i1] lay σ)).bind fun q3 =>
   some (.inr (some (.int q3.1), q3.2.1, q3.2.2)))
  else if i2 = (nI 3) then ((zm_is lay r0 10).bind fun _ =>
   zm_opt (σ.2.2 r0 18) (fun q4 =>
   (zm_gI lay σ q4 i1).bind fun v5 =>
   some (.inr (some (.int v5), lay, σ))) (none))
  else ((zm_is lay r0 10).bind fun _ =>
   zm_opt (σ.2.2 r0 18) (fun q6 =>
   (zm_gI lay σ q6 i1).bind fun v7 =>
   if v7 ≤ 0 then (some (.inr (some (.int 0), lay, σ)))
   else ((zm_is lay r0 10).bind fun _ =>
    zm_opt (σ.2.2 r0 21) (fun q8 =>
    (zm_gI lay σ q8 (nI 2)).bind fun v9 =>
    (zm_is lay r0 10).bind fun _ =>
    zm_opt (σ.2.2 r0 18) (fun q10 =>
    (zm_gI lay σ q10 i1).bind fun v11 =>
    (zm_ai (zM 194 [.int v9, .int (v11 - 1)] lay σ)).bind fun q12 =>
    if q12.1 = 0 then (some (.inr (some (.int 0), q12.2.1, q12.2.2)))
    else (some (.inr (some (.int 1), q12.2.1, q12.2.2)))) (none)) (none))) (none))
set_option maxRecDepth 100000 in
theorem zr_223_0 (lay : zm_Lay) (σ : zm_Sig) (r0 : Nat) (i1 : Int32) (i2 : Int32) : zm_blk zM zp_223 (some .int) 0 0 zc_223 43 (zp_223.drop 0) (0, [(0, .ref r0), (1, .int i1), (2, .int i2)], [], lay, σ, 0, 0) = zb_223_0 lay σ r0 i1 i2 := rfl
theorem ze_223 {lay : zm_Lay} {σ : zm_Sig} {r0 : Nat} {i1 : Int32} {i2 : Int32} {out : zm_Out} {r : zm_St ⊕ zm_Out} (h : zb_223_0 lay σ r0 i1 i2 = some r) (hg : zm_end zp_P 223 out r) : zM 223 [.ref r0, .int i1, .int i2] lay σ = some out :=
  zm_mean_go (M := zd_223) rfl (Nat.le_of_ble_eq_true rfl) (zm_blk_go (M := zd_223) rfl zs_223 43 (zp_223.drop 0) _ r (fun _ h => List.mem_of_mem_drop h) ((zr_223_0 lay σ r0 i1 i2).trans h) hg)
/-! SubgroupWriterModel.endOf(I)I -/
theorem zs_224 : zm_srt zp_224 = true := by decide +kernel
noncomputable def zb_224_0 (lay : zm_Lay) (σ : zm_Sig) (r0 : Nat) (i1 : Int32) : Option (zm_St ⊕ zm_Out) :=
  (zm_is lay r0 10).bind fun _ =>
  zm_opt (σ.2.2 r0 7) (fun q1 =>
  (zm_is lay r0 10).bind fun _ =>
  if (σ.1 r0 5) = 0 then none
  else ((zm_is lay r0 10).bind fun _ =>
  if (σ.1 r0 5) = 0 then none
  else ((zm_gI lay σ q1 ((((nI 5) : Int32) * (i1 - i1 / (σ.1 r0 5) * (σ.1 r0 5))) + (i1 / (σ.1 r0 5)))).bind fun v2 =>
  some (.inr (some (.int v2), lay, σ))))) (none)
set_option maxRecDepth 100000 in
theorem zr_224_0 (lay : zm_Lay) (σ : zm_Sig) (r0 : Nat) (i1 : Int32) : zm_blk zM zp_224 (some .int) 0 0 zc_224 16 (zp_224.drop 0) (0, [(0, .ref r0), (1, .int i1)], [], lay, σ, 0, 0) = zb_224_0 lay σ r0 i1 := rfl
theorem ze_224 {lay : zm_Lay} {σ : zm_Sig} {r0 : Nat} {i1 : Int32} {out : zm_Out} {r : zm_St ⊕ zm_Out} (h : zb_224_0 lay σ r0 i1 = some r) (hg : zm_end zp_P 224 out r) : zM 224 [.ref r0, .int i1] lay σ = some out :=
  zm_mean_go (M := zd_224) rfl (Nat.le_of_ble_eq_true rfl) (zm_blk_go (M := zd_224) rfl zs_224 16 (zp_224.drop 0) _ r (fun _ h => List.mem_of_mem_drop h) ((zr_224_0 lay σ r0 i1).trans h) hg)
/-! SubgroupWriterModel.mark(II)I -/
theorem zs_225 : zm_srt zp_225 = true := by decide +kernel
noncomputable def zb_225_0 (lay : zm_Lay) (σ : zm_Sig) (r0 : Nat) (i1 : Int32) (i2 : Int32) : Option (zm_St ⊕ zm_Out) :=
  (zm_is lay r0 10).bind fun _ => (zm_ai (zM 222 [.ref r0, .int i1] lay σ)).bind fun q1 =>
  if q1.1 = 0 then (some (.inr (some (.int (-1)), q1.2.1, q1.2.2)))
  else ((zm_ai (zM 176 [.int i2, .int 1, .int (nI 4)] q1.2.1 q1.2.2)).bind fun q2 =>
   if ¬ q2.1 = 0 then ((zm_is q2.2.1 r0 10).bind fun _ =>
    zm_opt (q2.2.2.2.2 r0 17) (fun q3 =>
    (zm_gI q2.2.1 q2.2.2 q3 i1).bind fun v4 =>
    (zm_ai (zM 226 [.int v4, .int i2] q2.2.1 q2.2.2)).bind fun q5 =>
    if ¬ q5.1 = 0 then ((zm_is q5.2.1 r0 10).bind fun _ =>
     if (q5.2.2.1 r0 5) = 0 then none
     else ((zm_is q5.2.1 r0 10).bind fun _ => (zm_ai (zM 224 [.ref r0, .int i1] q5.2.1 q5.2.2)).bind fun q6 =>
     if i2 = 1 then ((zm_is q6.2.1 r0 10).bind fun _ =>
      zm_opt (q6.2.2.2.2 r0 14) (fun q7 =>
      (zm_gI q6.2.1 q6.2.2 q7 (i1 / (q5.2.2.1 r0 5))).bind fun v8 =>
      (zm_is q6.2.1 r0 10).bind fun _ =>
      zm_opt (q6.2.2.2.2 r0 14) (fun q9 =>
      (zm_gI q6.2.1 q6.2.2 q9 q6.1).bind fun v10 =>
      if v8 ≤ v10 then ((zm_is q6.2.1 r0 10).bind fun _ => (zm_ai (zM 181 [.ref r0, .int q6.1, .int 1] q6.2.1 q6.2.2)).bind fun q11 =>
       some (.inr (some (.int q11.1), q11.2.1, q11.2.2)))
      else ((zm_is q6.2.1 r0 10).bind fun _ => (zm_ai (zM 181 [.ref r0, .int (i1 / (q5.2.2.1 r0 5)), .int 1] q6.2.1 q6.2.2)).bind fun q12 =>
       some (.inr (some (.int q12.1), q12.2.1, q12.2.2)))) (none)) (none))
     else if i2 = (nI 2) then ((zm_is q6.2.1 r0 10).bind fun _ =>
      zm_opt (q6.2.2.2.2 r0 13) (fun q13 =>
      (zm_gI q6.2.1 q6.2.2 q13 (i1 / (q5.2.2.1 r0 5))).bind fun v14 =>
      (zm_is q6.2.1 r0 10).bind fun _ =>
      zm_opt (q6.2.2.2.2 r0 13) (fun q15 =>
      (zm_gI q6.2.1 q6.2.2 q15 q6.1).bind fun v16 =>
      (zm_is q6.2.1 r0 10).bind fun _ => (zm_ai (zM 181 [.ref r0, .int ((v14 + v16) + 1), .int 1] q6.2.1 q6.2.2)).bind fun q17 =>
      some (.inr (some (.int q17.1), q17.2.1, q17.2.2))) (none)) (none))
     else if i2 = (nI 3) then ((zm_is q6.2.1 r0 10).bind fun _ => (zm_ai (zM 227 [.ref r0, .int (i1 / (q5.2.2.1 r0 5))] q6.2.1 q6.2.2)).bind fun q18 =>
      (zm_is q18.2.1 r0 10).bind fun _ => (zm_ai (zM 181 [.ref r0, .int q18.1, .int 1] q18.2.1 q18.2.2)).bind fun q19 =>
      some (.inr (some (.int q19.1), q19.2.1, q19.2.2)))
     else ((zm_is q6.2.1 r0 10).bind fun _ => (zm_ai (zM 228 [.ref r0, .int i1] q6.2.1 q6.2.2)).bind fun q20 =>
      (zm_is q20.2.1 r0 10).bind fun _ => (zm_ai (zM 181 [.ref r0, .int q20.1, .int 1] q20.2.1 q20.2.2)).bind fun q21 =>
      some (.inr (some (.int q21.1), q21.2.1, q21.2.2)))))
    else ((zm_is q5.2.1 r0 10).bind fun _ => (zm_ai (zM 177 [.ref r0, .int (nI 3)] q5.2.1 q5.2.2)).bind fun q22 =>
     some (.inr (some (.int q22.1), q22.2.1, q22.2.2)))) (none))
   else (some (.inr (some (.int (-1)), q2.2.1, q2.2.2))))
set_option maxRecDepth 100000 in
theorem zr_225_0 (lay : zm_Lay) (σ : zm_Sig) (r0 : Nat) (i1 : Int32) (i2 : Int32) : zm_blk zM zp_225 (some .int) 0 0 zc_225 79 (zp_225.drop 0) (0, [(0, .ref r0), (1, .int i1), (2, .int i2)], [], lay, σ, 0, 0) = zb_225_0 lay σ r0 i1 i2 := rfl
theorem ze_225 {lay : zm_Lay} {σ : zm_Sig} {r0 : Nat} {i1 : Int32} {i2 : Int32} {out : zm_Out} {r : zm_St ⊕ zm_Out} (h : zb_225_0 lay σ r0 i1 i2 = some r) (hg : zm_end zp_P 225 out r) : zM 225 [.ref r0, .int i1, .int i2] lay σ = some out :=
  zm_mean_go (M := zd_225) rfl (Nat.le_of_ble_eq_true rfl) (zm_blk_go (M := zd_225) rfl zs_225 79 (zp_225.drop 0) _ r (fun _ h => List.mem_of_mem_drop h) ((zr_225_0 lay σ r0 i1 i2).trans h) hg)
/-! SubgroupWriterModel.isA(II)Z -/
theorem zs_226 : zm_srt zp_226 = true := by decide +kernel
noncomputable def zb_226_0 (lay : zm_Lay) (σ : zm_Sig) (i0 : Int32) (i1 : Int32) : Option (zm_St ⊕ zm_Out) :=
  if i0 = i1 then (some (.inr (some (.int 1), lay, σ)))
  else (if ¬ i1 = (nI 2) then (some (.inr (some (.int 0), lay, σ)))
   else (if i0 ≤ (nI 2) then (some (.inr (some (.int 0), lay, σ)))
    else (some (.inr (some (.int 1), lay, σ)))))
set_option maxRecDepth 100000 in
theorem zr_226_0 (lay : zm_Lay) (σ : zm_Sig) (i0 : Int32) (i1 : Int32) : zm_blk zM zp_226 (some .boolean) 0 0 zc_226 14 (zp_226.drop 0) (0, [(0, .int i0), (1, .int i1)], [], lay, σ, 0, 0) = zb_226_0 lay σ i0 i1 := rfl
theorem ze_226 {lay : zm_Lay} {σ : zm_Sig} {i0 : Int32} {i1 : Int32} {out : zm_Out} {r : zm_St ⊕ zm_Out} (h : zb_226_0 lay σ i0 i1 = some r) (hg : zm_end zp_P 226 out r) : zM 226 [.int i0, .int i1] lay σ = some out :=
  zm_mean_go (M := zd_226) rfl (Nat.le_of_ble_eq_true rfl) (zm_blk_go (M := zd_226) rfl zs_226 14 (zp_226.drop 0) _ r (fun _ h => List.mem_of_mem_drop h) ((zr_226_0 lay σ i0 i1).trans h) hg)
/-! SubgroupWriterModel.loopsAt(I)I -/
theorem zs_227 : zm_srt zp_227 = true := by decide +kernel
noncomputable def zb_227_0 (lay : zm_Lay) (σ : zm_Sig) (r0 : Nat) (i1 : Int32) : Option (zm_St ⊕ zm_Out) :=
  some (.inl (4, [(0, .ref r0), (1, .int i1), (2, .int 0), (3, .int 0)], [], lay, σ, 0, 0))
set_option maxRecDepth 100000 in
theorem zr_227_0 (lay : zm_Lay) (σ : zm_Sig) (r0 : Nat) (i1 : Int32) : zm_blk zM zp_227 (some .int) 0 0 zc_227 29 (zp_227.drop 0) (0, [(0, .ref r0), (1, .int i1)], [], lay, σ, 0, 0) = zb_227_0 lay σ r0 i1 := rfl
theorem ze_227 {lay : zm_Lay} {σ : zm_Sig} {r0 : Nat} {i1 : Int32} {out : zm_Out} {r : zm_St ⊕ zm_Out} (h : zb_227_0 lay σ r0 i1 = some r) (hg : zm_end zp_P 227 out r) : zM 227 [.ref r0, .int i1] lay σ = some out :=
  zm_mean_go (M := zd_227) rfl (Nat.le_of_ble_eq_true rfl) (zm_blk_go (M := zd_227) rfl zs_227 29 (zp_227.drop 0) _ r (fun _ h => List.mem_of_mem_drop h) ((zr_227_0 lay σ r0 i1).trans h) hg)
noncomputable def zb_227_4 (lay : zm_Lay) (σ : zm_Sig) (r0 : Nat) (i1 : Int32) (i2 : Int32) (i3 : Int32) : Option (zm_St ⊕ zm_Out) :=
  (zm_is lay r0 10).bind fun _ =>
  if (σ.1 r0 5) ≤ i3 then (some (.inr (some (.int i2), lay, σ)))
  else ((zm_is lay r0 10).bind fun _ =>
   zm_opt (σ.2.2 r0 7) (fun q1 =>
   (zm_gI lay σ q1 ((((nI 5) : Int32) * i3) + i1)).bind fun v2 =>
   if ¬ v2 = i1 then (some (.inl (4, [(0, .ref r0), (1, .int i1), (2, .int (i2 + 0)), (3, .int (i3 + 1))], [], lay, σ, 0, 0)))
   else (some (.inl (4, [(0, .ref r0), (1, .int i1), (2, .int (i2 + 1)), (3, .int (i3 + 1))], [], lay, σ, 0, 0)))) (none))
set_option maxRecDepth 100000 in
theorem zr_227_4 (lay : zm_Lay) (σ : zm_Sig) (r0 : Nat) (i1 : Int32) (i2 : Int32) (i3 : Int32) : zm_blk zM zp_227 (some .int) 0 0 zc_227 29 (zp_227.drop 4) (4, [(0, .ref r0), (1, .int i1), (2, .int i2), (3, .int i3)], [], lay, σ, 0, 0) = zb_227_4 lay σ r0 i1 i2 i3 := rfl
theorem zg_227_4 {lay : zm_Lay} {σ : zm_Sig} {r0 : Nat} {i1 : Int32} {i2 : Int32} {i3 : Int32} {out : zm_Out} {r : zm_St ⊕ zm_Out} (h : zb_227_4 lay σ r0 i1 i2 i3 = some r) (hg : zm_end zp_P 227 out r) : zm_go zp_P 227 (4, [(0, .ref r0), (1, .int i1), (2, .int i2), (3, .int i3)], [], lay, σ, 0, 0) out :=
  zm_blk_go (M := zd_227) rfl zs_227 29 (zp_227.drop 4) _ r (fun _ h => List.mem_of_mem_drop h) ((zr_227_4 lay σ r0 i1 i2 i3).trans h) hg
/-! SubgroupWriterModel.branchBeside(I)I -/
theorem zs_228 : zm_srt zp_228 = true := by decide +kernel
noncomputable def zb_228_0 (lay : zm_Lay) (σ : zm_Sig) (r0 : Nat) (i1 : Int32) : Option (zm_St ⊕ zm_Out) :=
  (zm_is lay r0 10).bind fun _ =>
  if (σ.1 r0 5) = 0 then none
  else ((zm_is lay r0 10).bind fun _ => (zm_ai (zM 224 [.ref r0, .int i1] lay σ)).bind fun q1 =>
  (zm_is q1.2.1 r0 10).bind fun _ =>
  (zm_is q1.2.1 r0 10).bind fun _ =>
  some (.inl (29, [(0, .ref r0), (2, .int (i1 / (σ.1 r0 5))), (3, .int q1.1), (4, .int 0), (5, .int (((q1.2.2.1 r0 4) * (q1.2.2.1 r0 5)) - 1))], [], q1.2.1, q1.2.2, 0, 0)))
set_option maxRecDepth 100000 in
theorem zr_228_0 (lay : zm_Lay) (σ : zm_Sig) (r0 : Nat) (i1 : Int32) : zm_blk zM zp_228 (some .int) 0 0 zc_228 63 (zp_228.drop 0) (0, [(0, .ref r0), (1, .int i1)], [], lay, σ, 0, 0) = zb_228_0 lay σ r0 i1 := rfl
theorem ze_228 {lay : zm_Lay} {σ : zm_Sig} {r0 : Nat} {i1 : Int32} {out : zm_Out} {r : zm_St ⊕ zm_Out} (h : zb_228_0 lay σ r0 i1 = some r) (hg : zm_end zp_P 228 out r) : zM 228 [.ref r0, .int i1] lay σ = some out :=
  zm_mean_go (M := zd_228) rfl (Nat.le_of_ble_eq_true rfl) (zm_blk_go (M := zd_228) rfl zs_228 63 (zp_228.drop 0) _ r (fun _ h => List.mem_of_mem_drop h) ((zr_228_0 lay σ r0 i1).trans h) hg)
noncomputable def zb_228_29 (lay : zm_Lay) (σ : zm_Sig) (r0 : Nat) (i2 : Int32) (i3 : Int32) (i4 : Int32) (i5 : Int32) : Option (zm_St ⊕ zm_Out) :=
  if i5 < 0 then (some (.inr (some (.int i4), lay, σ)))
  else ((zm_is lay r0 10).bind fun _ =>
   if (σ.1 r0 5) = 0 then none
   else ((zm_is lay r0 10).bind fun _ => (zm_ai (zM 224 [.ref r0, .int i5] lay σ)).bind fun q1 =>
   if ¬ i2 = (i5 / (σ.1 r0 5)) then (if ¬ i2 = q1.1 then (some (.inl (29, [(0, .ref r0), (2, .int i2), (3, .int i3), (4, .int i4), (5, .int (i5 + (-1)))], [], q1.2.1, q1.2.2, 0, 0)))
    else (if ¬ i3 = (i5 / (σ.1 r0 5)) then (some (.inl (29, [(0, .ref r0), (2, .int i2), (3, .int i3), (4, .int i4), (5, .int (i5 + (-1)))], [], q1.2.1, q1.2.2, 0, 0)))
     else ((zm_is q1.2.1 r0 10).bind fun _ =>
       zm_opt (q1.2.2.2.2 r0 17) (fun q2 =>
       (zm_gI q1.2.1 q1.2.2 q2 i5).bind fun v3 =>
       if ¬ v3 = 1 then (some (.inl (29, [(0, .ref r0), (2, .int i2), (3, .int i3), (4, .int i4), (5, .int (i5 + (-1)))], [], q1.2.1, q1.2.2, 0, 0)))
       else (some (.inl (29, [(0, .ref r0), (2, .int i2), (3, .int i3), (4, .int i5), (5, .int (i5 + (-1)))], [], q1.2.1, q1.2.2, 0, 0)))) (none))))
   else (if i3 = q1.1 then ((zm_is q1.2.1 r0 10).bind fun _ =>
      zm_opt (q1.2.2.2.2 r0 17) (fun q4 =>
      (zm_gI q1.2.1 q1.2.2 q4 i5).bind fun v5 =>
      if ¬ v5 = 1 then (some (.inl (29, [(0, .ref r0), (2, .int i2), (3, .int i3), (4, .int i4), (5, .int (i5 + (-1)))], [], q1.2.1, q1.2.2, 0, 0)))
      else (some (.inl (29, [(0, .ref r0), (2, .int i2), (3, .int i3), (4, .int i5), (5, .int (i5 + (-1)))], [], q1.2.1, q1.2.2, 0, 0)))) (none))
    else (if ¬ i2 = q1.1 then (some (.inl (29, [(0, .ref r0), (2, .int i2), (3, .int i3), (4, .int i4), (5, .int (i5 + (-1)))], [], q1.2.1, q1.2.2, 0, 0)))
     else (if ¬ i3 = (i5 / (σ.1 r0 5)) then (some (.inl (29, [(0, .ref r0), (2, .int i2), (3, .int i3), (4, .int i4), (5, .int (i5 + (-1)))], [], q1.2.1, q1.2.2, 0, 0)))
      else ((zm_is q1.2.1 r0 10).bind fun _ =>
        zm_opt (q1.2.2.2.2 r0 17) (fun q6 =>
        (zm_gI q1.2.1 q1.2.2 q6 i5).bind fun v7 =>
        if ¬ v7 = 1 then (some (.inl (29, [(0, .ref r0), (2, .int i2), (3, .int i3), (4, .int i4), (5, .int (i5 + (-1)))], [], q1.2.1, q1.2.2, 0, 0)))
        else (some (.inl (29, [(0, .ref r0), (2, .int i2), (3, .int i3), (4, .int i5), (5, .int (i5 + (-1)))], [], q1.2.1, q1.2.2, 0, 0)))) (none)))))))
set_option maxRecDepth 100000 in
theorem zr_228_29 (lay : zm_Lay) (σ : zm_Sig) (r0 : Nat) (i2 : Int32) (i3 : Int32) (i4 : Int32) (i5 : Int32) : zm_blk zM zp_228 (some .int) 0 0 zc_228 63 (zp_228.drop 19) (29, [(0, .ref r0), (2, .int i2), (3, .int i3), (4, .int i4), (5, .int i5)], [], lay, σ, 0, 0) = zb_228_29 lay σ r0 i2 i3 i4 i5 := rfl
theorem zg_228_29 {lay : zm_Lay} {σ : zm_Sig} {r0 : Nat} {i2 : Int32} {i3 : Int32} {i4 : Int32} {i5 : Int32} {out : zm_Out} {r : zm_St ⊕ zm_Out} (h : zb_228_29 lay σ r0 i2 i3 i4 i5 = some r) (hg : zm_end zp_P 228 out r) : zm_go zp_P 228 (29, [(0, .ref r0), (2, .int i2), (3, .int i3), (4, .int i4), (5, .int i5)], [], lay, σ, 0, 0) out :=
  zm_blk_go (M := zd_228) rfl zs_228 63 (zp_228.drop 19) _ r (fun _ h => List.mem_of_mem_drop h) ((zr_228_29 lay σ r0 i2 i3 i4 i5).trans h) hg
/-! SubgroupWriterModel.written(III)I -/
theorem zs_229 : zm_srt zp_229 = true := by decide +kernel
noncomputable def zb_229_0 (lay : zm_Lay) (σ : zm_Sig) (r0 : Nat) (i1 : Int32) (i2 : Int32) (i3 : Int32) : Option (zm_St ⊕ zm_Out) :=
  (zm_is lay r0 10).bind fun _ => (zm_ai (zM 216 [.ref r0, .int i1] lay σ)).bind fun q1 =>
  if q1.1 = 0 then (some (.inr (some (.int (-1)), q1.2.1, q1.2.2)))
  else ((zm_ai (zM 175 [.int i2] q1.2.1 q1.2.2)).bind fun q2 =>
   if q2.1 = 0 then (some (.inr (some (.int (-1)), q2.2.1, q2.2.2)))
   else ((zm_ai (zM 175 [.int i3] q2.2.1 q2.2.2)).bind fun q3 =>
    if ¬ q3.1 = 0 then ((zm_is q3.2.1 r0 10).bind fun _ =>
     zm_opt (q3.2.2.2.2 r0 0) (fun q4 =>
     (zm_gI q3.2.1 q3.2.2 q4 i2).bind fun v5 =>
     if (0 : Int32) ≤ v5 then ((zm_is q3.2.1 r0 10).bind fun _ =>
      (zm_is q3.2.1 r0 10).bind fun _ => (zm_ai (zM 230 [.ref r0, .int i2, .int (q3.2.2.1 r0 5)] q3.2.1 q3.2.2)).bind fun q6 =>
      if ¬ q6.1 = 0 then ((zm_is q6.2.1 r0 10).bind fun _ => (zm_fw q6.2.2 r0 40 0 (.int 0)).bind fun s7 =>
       some (.inl (68, [(0, .ref r0), (2, .int i2), (3, .int i3), (4, .int i1), (5, .int 0)], [], q6.2.1, s7, 0, 0)))
      else ((zm_is q6.2.1 r0 10).bind fun _ => (zm_ai (zM 177 [.ref r0, .int (nI 3)] q6.2.1 q6.2.2)).bind fun q8 =>
       some (.inr (some (.int q8.1), q8.2.1, q8.2.2))))
     else ((zm_is q3.2.1 r0 10).bind fun _ => (zm_ai (zM 177 [.ref r0, .int 1] q3.2.1 q3.2.2)).bind fun q9 =>
      some (.inr (some (.int q9.1), q9.2.1, q9.2.2)))) (none))
    else (some (.inr (some (.int (-1)), q3.2.1, q3.2.2)))))
set_option maxRecDepth 100000 in
theorem zr_229_0 (lay : zm_Lay) (σ : zm_Sig) (r0 : Nat) (i1 : Int32) (i2 : Int32) (i3 : Int32) : zm_blk zM zp_229 (some .int) 0 0 zc_229 79 (zp_229.drop 0) (0, [(0, .ref r0), (1, .int i1), (2, .int i2), (3, .int i3)], [], lay, σ, 0, 0) = zb_229_0 lay σ r0 i1 i2 i3 := rfl
theorem ze_229 {lay : zm_Lay} {σ : zm_Sig} {r0 : Nat} {i1 : Int32} {i2 : Int32} {i3 : Int32} {out : zm_Out} {r : zm_St ⊕ zm_Out} (h : zb_229_0 lay σ r0 i1 i2 i3 = some r) (hg : zm_end zp_P 229 out r) : zM 229 [.ref r0, .int i1, .int i2, .int i3] lay σ = some out :=
  zm_mean_go (M := zd_229) rfl (Nat.le_of_ble_eq_true rfl) (zm_blk_go (M := zd_229) rfl zs_229 79 (zp_229.drop 0) _ r (fun _ h => List.mem_of_mem_drop h) ((zr_229_0 lay σ r0 i1 i2 i3).trans h) hg)
noncomputable def zb_229_68 (lay : zm_Lay) (σ : zm_Sig) (r0 : Nat) (i2 : Int32) (i3 : Int32) (i4 : Int32) (i5 : Int32) : Option (zm_St ⊕ zm_Out) :=
  (zm_is lay r0 10).bind fun _ =>
  zm_opt (σ.2.2 r0 0) (fun q1 =>
  (zm_gI lay σ q1 i2).bind fun v2 =>
  if v2 ≤ i5 then ((zm_is lay r0 10).bind fun _ => (zm_av (zM 231 [.ref r0, .int i3] lay σ)).bind fun q3 =>
   (zm_is q3.1 r0 10).bind fun _ =>
   (zm_is q3.1 r0 10).bind fun _ => (zm_ai (zM 181 [.ref r0, .int i4, .int (q3.2.1 r0 40)] q3.1 q3.2)).bind fun q4 =>
   some (.inr (some (.int q4.1), q4.2.1, q4.2.2)))
  else ((zm_is lay r0 10).bind fun _ =>
   zm_opt (σ.2.2 r0 1) (fun q5 =>
   (zm_gI lay σ q5 ((((nI 40) : Int32) * i2) + i5)).bind fun v6 =>
   (zm_is lay r0 10).bind fun _ => (zm_av (zM 212 [.ref r0, .int i4, .int v6] lay σ)).bind fun q7 =>
   (zm_is q7.1 r0 10).bind fun _ =>
   zm_opt (q7.2.2.2 r0 1) (fun q8 =>
   (zm_gI q7.1 q7.2 q8 ((((nI 40) : Int32) * i2) + i5)).bind fun v9 =>
   (zm_is q7.1 r0 10).bind fun _ => (zm_ai (zM 205 [.ref r0, .int i4, .int v9] q7.1 q7.2)).bind fun q10 =>
   some (.inl (68, [(0, .ref r0), (2, .int i2), (3, .int i3), (4, .int q10.1), (5, .int (i5 + 1))], [], q10.2.1, q10.2.2, 0, 0))) (none)) (none))) (none)
set_option maxRecDepth 100000 in
theorem zr_229_68 (lay : zm_Lay) (σ : zm_Sig) (r0 : Nat) (i2 : Int32) (i3 : Int32) (i4 : Int32) (i5 : Int32) : zm_blk zM zp_229 (some .int) 0 0 zc_229 79 (zp_229.drop 38) (68, [(0, .ref r0), (2, .int i2), (3, .int i3), (4, .int i4), (5, .int i5)], [], lay, σ, 0, 0) = zb_229_68 lay σ r0 i2 i3 i4 i5 := rfl
theorem zg_229_68 {lay : zm_Lay} {σ : zm_Sig} {r0 : Nat} {i2 : Int32} {i3 : Int32} {i4 : Int32} {i5 : Int32} {out : zm_Out} {r : zm_St ⊕ zm_Out} (h : zb_229_68 lay σ r0 i2 i3 i4 i5 = some r) (hg : zm_end zp_P 229 out r) : zm_go zp_P 229 (68, [(0, .ref r0), (2, .int i2), (3, .int i3), (4, .int i4), (5, .int i5)], [], lay, σ, 0, 0) out :=
  zm_blk_go (M := zd_229) rfl zs_229 79 (zp_229.drop 38) _ r (fun _ h => List.mem_of_mem_drop h) ((zr_229_68 lay σ r0 i2 i3 i4 i5).trans h) hg
