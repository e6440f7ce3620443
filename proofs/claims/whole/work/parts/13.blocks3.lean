/-! SubgroupWriter$Tree.countKind(LSubgroupWriter$Group;I)I -/
theorem zs_165 : zm_srt zp_165 = true := by decide +kernel
noncomputable def zb_165_0 (lay : zm_Lay) (σ : zm_Sig) (r0 : Nat) (r1 : Nat) (i2 : Int32) : Option (zm_St ⊕ zm_Out) :=
  some (.inl (5, [(0, .ref r0), (1, .ref r1), (2, .int i2), (3, .int 0), (4, .int 0)], [], lay, σ, 0, 0))
set_option maxRecDepth 100000 in
theorem zr_165_0 (lay : zm_Lay) (σ : zm_Sig) (r0 : Nat) (r1 : Nat) (i2 : Int32) : zm_blk zM zp_165 (some .int) 0 0 zc_165 20 (zp_165.drop 0) (0, [(0, .ref r0), (1, .ref r1), (2, .int i2)], [], lay, σ, 0, 0) = zb_165_0 lay σ r0 r1 i2 := rfl
theorem ze_165 {lay : zm_Lay} {σ : zm_Sig} {r0 : Nat} {r1 : Nat} {i2 : Int32} {out : zm_Out} {r : zm_St ⊕ zm_Out} (h : zb_165_0 lay σ r0 r1 i2 = some r) (hg : match r with | .inl x => zm_go zp_P 165 x out | .inr o => o = out) : zM 165 [.ref r0, .ref r1, .int i2] lay σ = some out :=
  zm_mean_go (M := zd_165) rfl (Nat.le_of_ble_eq_true rfl) (zm_blk_go (M := zd_165) rfl zs_165 20 (zp_165.drop 0) _ r (fun _ h => List.mem_of_mem_drop h) ((zr_165_0 lay σ r0 r1 i2).trans h) hg)
noncomputable def zb_165_5 (lay : zm_Lay) (σ : zm_Sig) (r0 : Nat) (r1 : Nat) (i2 : Int32) (i3 : Int32) (i4 : Int32) : Option (zm_St ⊕ zm_Out) :=
  (zm_is lay r1 1).bind fun _ => (zm_ai (zM 78 [.ref r1] lay σ)).bind fun q1 =>
  if q1.1 ≤ i4 then (some (.inr (some (.int i3), q1.2.1, q1.2.2)))
  else ((zm_is q1.2.1 r0 7).bind fun _ =>
   zm_opt (q1.2.2.2.2 r0 0) (fun q2 =>
   (zm_gI q1.2.1 q1.2.2 q2 i4).bind fun v3 =>
   if ¬ v3 = i2 then (some (.inl (5, [(0, .ref r0), (1, .ref r1), (2, .int i2), (3, .int i3), (4, .int (i4 + 1))], [], q1.2.1, q1.2.2, 0, 0)))
   else (some (.inl (5, [(0, .ref r0), (1, .ref r1), (2, .int i2), (3, .int (i3 + 1)), (4, .int (i4 + 1))], [], q1.2.1, q1.2.2, 0, 0)))) (none))
set_option maxRecDepth 100000 in
theorem zr_165_5 (lay : zm_Lay) (σ : zm_Sig) (r0 : Nat) (r1 : Nat) (i2 : Int32) (i3 : Int32) (i4 : Int32) : zm_blk zM zp_165 (some .int) 0 0 zc_165 20 (zp_165.drop 4) (5, [(0, .ref r0), (1, .ref r1), (2, .int i2), (3, .int i3), (4, .int i4)], [], lay, σ, 0, 0) = zb_165_5 lay σ r0 r1 i2 i3 i4 := rfl
theorem zg_165_5 {lay : zm_Lay} {σ : zm_Sig} {r0 : Nat} {r1 : Nat} {i2 : Int32} {i3 : Int32} {i4 : Int32} {out : zm_Out} {r : zm_St ⊕ zm_Out} (h : zb_165_5 lay σ r0 r1 i2 i3 i4 = some r) (hg : match r with | .inl x => zm_go zp_P 165 x out | .inr o => o = out) : zm_go zp_P 165 (5, [(0, .ref r0), (1, .ref r1), (2, .int i2), (3, .int i3), (4, .int i4)], [], lay, σ, 0, 0) out :=
  zm_blk_go (M := zd_165) rfl zs_165 20 (zp_165.drop 4) _ r (fun _ h => List.mem_of_mem_drop h) ((zr_165_5 lay σ r0 r1 i2 i3 i4).trans h) hg
/-! SubgroupWriter$Shelf.there()I -/
theorem zs_166 : zm_srt zp_166 = true := by decide +kernel
noncomputable def zb_166_0 (lay : zm_Lay) (σ : zm_Sig) (r0 : Nat) : Option (zm_St ⊕ zm_Out) :=
  some (.inl (4, [(0, .ref r0), (1, .int 0), (2, .int 0)], [], lay, σ, 0, 0))
set_option maxRecDepth 100000 in
theorem zr_166_0 (lay : zm_Lay) (σ : zm_Sig) (r0 : Nat) : zm_blk zM zp_166 (some .int) 0 0 zc_166 21 (zp_166.drop 0) (0, [(0, .ref r0)], [], lay, σ, 0, 0) = zb_166_0 lay σ r0 := rfl
theorem ze_166 {lay : zm_Lay} {σ : zm_Sig} {r0 : Nat} {out : zm_Out} {r : zm_St ⊕ zm_Out} (h : zb_166_0 lay σ r0 = some r) (hg : match r with | .inl x => zm_go zp_P 166 x out | .inr o => o = out) : zM 166 [.ref r0] lay σ = some out :=
  zm_mean_go (M := zd_166) rfl (Nat.le_of_ble_eq_true rfl) (zm_blk_go (M := zd_166) rfl zs_166 21 (zp_166.drop 0) _ r (fun _ h => List.mem_of_mem_drop h) ((zr_166_0 lay σ r0).trans h) hg)
noncomputable def zb_166_4 (lay : zm_Lay) (σ : zm_Sig) (r0 : Nat) (i1 : Int32) (i2 : Int32) : Option (zm_St ⊕ zm_Out) :=
  (zm_is lay r0 5).bind fun _ =>
  zm_opt (σ.2.2 r0 1) (fun q1 =>
  (zm_len lay q1).bind fun v2 =>
  if v2 ≤ i2 then (some (.inr (some (.int i1), lay, σ)))
  else ((zm_is lay r0 5).bind fun _ =>
   zm_opt (σ.2.2 r0 1) (fun q3 =>
   (zm_gI lay σ q3 i2).bind fun v4 =>
   if v4 = (-1) then (some (.inl (4, [(0, .ref r0), (1, .int i1), (2, .int (i2 + 1))], [], lay, σ, 0, 0)))
   else (some (.inl (4, [(0, .ref r0), (1, .int (i1 + 1)), (2, .int (i2 + 1))], [], lay, σ, 0, 0)))) (none))) (none)
set_option maxRecDepth 100000 in
theorem zr_166_4 (lay : zm_Lay) (σ : zm_Sig) (r0 : Nat) (i1 : Int32) (i2 : Int32) : zm_blk zM zp_166 (some .int) 0 0 zc_166 21 (zp_166.drop 4) (4, [(0, .ref r0), (1, .int i1), (2, .int i2)], [], lay, σ, 0, 0) = zb_166_4 lay σ r0 i1 i2 := rfl
theorem zg_166_4 {lay : zm_Lay} {σ : zm_Sig} {r0 : Nat} {i1 : Int32} {i2 : Int32} {out : zm_Out} {r : zm_St ⊕ zm_Out} (h : zb_166_4 lay σ r0 i1 i2 = some r) (hg : match r with | .inl x => zm_go zp_P 166 x out | .inr o => o = out) : zm_go zp_P 166 (4, [(0, .ref r0), (1, .int i1), (2, .int i2)], [], lay, σ, 0, 0) out :=
  zm_blk_go (M := zd_166) rfl zs_166 21 (zp_166.drop 4) _ r (fun _ h => List.mem_of_mem_drop h) ((zr_166_4 lay σ r0 i1 i2).trans h) hg
/-! SubgroupWriter.keptBooks()I -/
theorem zs_167 : zm_srt zp_167 = true := by decide +kernel
noncomputable def zb_167_0 (lay : zm_Lay) (σ : zm_Sig) (r0 : Nat) : Option (zm_St ⊕ zm_Out) :=
  some (.inl (4, [(0, .ref r0), (1, .int 0), (2, .int 0)], [], lay, σ, 0, 0))
set_option maxRecDepth 100000 in
theorem zr_167_0 (lay : zm_Lay) (σ : zm_Sig) (r0 : Nat) : zm_blk zM zp_167 (some .int) 0 0 zc_167 20 (zp_167.drop 0) (0, [(0, .ref r0)], [], lay, σ, 0, 0) = zb_167_0 lay σ r0 := rfl
theorem ze_167 {lay : zm_Lay} {σ : zm_Sig} {r0 : Nat} {out : zm_Out} {r : zm_St ⊕ zm_Out} (h : zb_167_0 lay σ r0 = some r) (hg : match r with | .inl x => zm_go zp_P 167 x out | .inr o => o = out) : zM 167 [.ref r0] lay σ = some out :=
  zm_mean_go (M := zd_167) rfl (Nat.le_of_ble_eq_true rfl) (zm_blk_go (M := zd_167) rfl zs_167 20 (zp_167.drop 0) _ r (fun _ h => List.mem_of_mem_drop h) ((zr_167_0 lay σ r0).trans h) hg)
noncomputable def zb_167_4 (lay : zm_Lay) (σ : zm_Sig) (r0 : Nat) (i1 : Int32) (i2 : Int32) : Option (zm_St ⊕ zm_Out) :=
  if ((nI 3) : Int32) ≤ i2 then (some (.inr (some (.int i1), lay, σ)))
  else ((zm_is lay r0 9).bind fun _ =>
   zm_opt (σ.2.2 r0 4) (fun q1 =>
   (zm_gR lay σ q1 i2).bind fun o2 => zm_opt o2 (fun q3 =>
   (zm_is lay q3 6).bind fun _ =>
   if (σ.1 q3 3) = (-1) then (some (.inl (4, [(0, .ref r0), (1, .int i1), (2, .int (i2 + 1))], [], lay, σ, 0, 0)))
   else (some (.inl (4, [(0, .ref r0), (1, .int (i1 + 1)), (2, .int (i2 + 1))], [], lay, σ, 0, 0)))) (none)) (none))
set_option maxRecDepth 100000 in
theorem zr_167_4 (lay : zm_Lay) (σ : zm_Sig) (r0 : Nat) (i1 : Int32) (i2 : Int32) : zm_blk zM zp_167 (some .int) 0 0 zc_167 20 (zp_167.drop 4) (4, [(0, .ref r0), (1, .int i1), (2, .int i2)], [], lay, σ, 0, 0) = zb_167_4 lay σ r0 i1 i2 := rfl
theorem zg_167_4 {lay : zm_Lay} {σ : zm_Sig} {r0 : Nat} {i1 : Int32} {i2 : Int32} {out : zm_Out} {r : zm_St ⊕ zm_Out} (h : zb_167_4 lay σ r0 i1 i2 = some r) (hg : match r with | .inl x => zm_go zp_P 167 x out | .inr o => o = out) : zm_go zp_P 167 (4, [(0, .ref r0), (1, .int i1), (2, .int i2)], [], lay, σ, 0, 0) out :=
  zm_blk_go (M := zd_167) rfl zs_167 20 (zp_167.drop 4) _ r (fun _ h => List.mem_of_mem_drop h) ((zr_167_4 lay σ r0 i1 i2).trans h) hg
/-! SubgroupWriter.finding()I -/
theorem zs_168 : zm_srt zp_168 = true := by decide +kernel
noncomputable def zb_168_0 (lay : zm_Lay) (σ : zm_Sig) (r0 : Nat) : Option (zm_St ⊕ zm_Out) :=
  (zm_is lay r0 9).bind fun _ =>
  some (.inr (some (.int (σ.1 r0 16)), lay, σ))
set_option maxRecDepth 100000 in
theorem zr_168_0 (lay : zm_Lay) (σ : zm_Sig) (r0 : Nat) : zm_blk zM zp_168 (some .int) 0 0 zc_168 4 (zp_168.drop 0) (0, [(0, .ref r0)], [], lay, σ, 0, 0) = zb_168_0 lay σ r0 := rfl
theorem ze_168 {lay : zm_Lay} {σ : zm_Sig} {r0 : Nat} {out : zm_Out} {r : zm_St ⊕ zm_Out} (h : zb_168_0 lay σ r0 = some r) (hg : match r with | .inl x => zm_go zp_P 168 x out | .inr o => o = out) : zM 168 [.ref r0] lay σ = some out :=
  zm_mean_go (M := zd_168) rfl (Nat.le_of_ble_eq_true rfl) (zm_blk_go (M := zd_168) rfl zs_168 4 (zp_168.drop 0) _ r (fun _ h => List.mem_of_mem_drop h) ((zr_168_0 lay σ r0).trans h) hg)
/-! SubgroupWriter.findings(I)I -/
theorem zs_169 : zm_srt zp_169 = true := by decide +kernel
noncomputable def zb_169_0 (lay : zm_Lay) (σ : zm_Sig) (r0 : Nat) (i1 : Int32) : Option (zm_St ⊕ zm_Out) :=
  if i1 < 1 then (some (.inr (some (.int (-1)), lay, σ)))
  else (if i1 ≤ (nI 5) then ((zm_is lay r0 9).bind fun _ =>
    zm_opt (σ.2.2 r0 7) (fun q1 =>
    (zm_gI lay σ q1 i1).bind fun v2 =>
    some (.inr (some (.int v2), lay, σ))) (none))
   else (some (.inr (some (.int (-1)), lay, σ))))
set_option maxRecDepth 100000 in
theorem zr_169_0 (lay : zm_Lay) (σ : zm_Sig) (r0 : Nat) (i1 : Int32) : zm_blk zM zp_169 (some .int) 0 0 zc_169 14 (zp_169.drop 0) (0, [(0, .ref r0), (1, .int i1)], [], lay, σ, 0, 0) = zb_169_0 lay σ r0 i1 := rfl
theorem ze_169 {lay : zm_Lay} {σ : zm_Sig} {r0 : Nat} {i1 : Int32} {out : zm_Out} {r : zm_St ⊕ zm_Out} (h : zb_169_0 lay σ r0 i1 = some r) (hg : match r with | .inl x => zm_go zp_P 169 x out | .inr o => o = out) : zM 169 [.ref r0, .int i1] lay σ = some out :=
  zm_mean_go (M := zd_169) rfl (Nat.le_of_ble_eq_true rfl) (zm_blk_go (M := zd_169) rfl zs_169 14 (zp_169.drop 0) _ r (fun _ h => List.mem_of_mem_drop h) ((zr_169_0 lay σ r0 i1).trans h) hg)
/-! SubgroupWriter.digest()J -/
theorem zs_170 : zm_srt zp_170 = true := by decide +kernel
noncomputable def zb_170_0 (lay : zm_Lay) (σ : zm_Sig) (r0 : Nat) : Option (zm_St ⊕ zm_Out) :=
  some (.inl (6, [(0, .ref r0), (1, .long (Int64.ofNat 17)), (3, .int 0)], [], lay, σ, 0, 0))
set_option maxRecDepth 100000 in
theorem zr_170_0 (lay : zm_Lay) (σ : zm_Sig) (r0 : Nat) : zm_blk zM zp_170 (some .long) 0 0 zc_170 105 (zp_170.drop 0) (0, [(0, .ref r0)], [], lay, σ, 0, 0) = zb_170_0 lay σ r0 := rfl
theorem ze_170 {lay : zm_Lay} {σ : zm_Sig} {r0 : Nat} {out : zm_Out} {r : zm_St ⊕ zm_Out} (h : zb_170_0 lay σ r0 = some r) (hg : match r with | .inl x => zm_go zp_P 170 x out | .inr o => o = out) : zM 170 [.ref r0] lay σ = some out :=
  zm_mean_go (M := zd_170) rfl (Nat.le_of_ble_eq_true rfl) (zm_blk_go (M := zd_170) rfl zs_170 105 (zp_170.drop 0) _ r (fun _ h => List.mem_of_mem_drop h) ((zr_170_0 lay σ r0).trans h) hg)
noncomputable def zb_170_6 (lay : zm_Lay) (σ : zm_Sig) (r0 : Nat) (l1 : Int64) (i3 : Int32) : Option (zm_St ⊕ zm_Out) :=
  if ((nI 13) : Int32) < i3 then (some (.inl (33, [(0, .ref r0), (1, .long l1), (3, .int 0)], [], lay, σ, 0, 0)))
  else ((zm_is lay r0 9).bind fun _ => (zm_ai (zM 163 [.ref r0, .int i3] lay σ)).bind fun q1 =>
   some (.inl (6, [(0, .ref r0), (1, .long (((Int64.ofNat 31) * l1) + (q1.1 : Int32).toInt64)), (3, .int (i3 + 1))], [], q1.2.1, q1.2.2, 0, 0)))
set_option maxRecDepth 100000 in
theorem zr_170_6 (lay : zm_Lay) (σ : zm_Sig) (r0 : Nat) (l1 : Int64) (i3 : Int32) : zm_blk zM zp_170 (some .long) 0 0 zc_170 105 (zp_170.drop 4) (6, [(0, .ref r0), (1, .long l1), (3, .int i3)], [], lay, σ, 0, 0) = zb_170_6 lay σ r0 l1 i3 := rfl
theorem zg_170_6 {lay : zm_Lay} {σ : zm_Sig} {r0 : Nat} {l1 : Int64} {i3 : Int32} {out : zm_Out} {r : zm_St ⊕ zm_Out} (h : zb_170_6 lay σ r0 l1 i3 = some r) (hg : match r with | .inl x => zm_go zp_P 170 x out | .inr o => o = out) : zm_go zp_P 170 (6, [(0, .ref r0), (1, .long l1), (3, .int i3)], [], lay, σ, 0, 0) out :=
  zm_blk_go (M := zd_170) rfl zs_170 105 (zp_170.drop 4) _ r (fun _ h => List.mem_of_mem_drop h) ((zr_170_6 lay σ r0 l1 i3).trans h) hg
noncomputable def zb_170_33 (lay : zm_Lay) (σ : zm_Sig) (r0 : Nat) (l1 : Int64) (i3 : Int32) : Option (zm_St ⊕ zm_Out) :=
  (zm_is lay r0 9).bind fun _ =>
  zm_opt (σ.2.2 r0 11) (fun q1 =>
  (zm_is lay q1 1).bind fun _ =>
  if (σ.1 q1 0) ≤ i3 then (some (.inl (88, [(0, .ref r0), (1, .long l1), (3, .int 0)], [], lay, σ, 0, 0)))
  else (some (.inl (47, [(0, .ref r0), (1, .long l1), (3, .int i3), (4, .int 0)], [], lay, σ, 0, 0)))) (none)
set_option maxRecDepth 100000 in
theorem zr_170_33 (lay : zm_Lay) (σ : zm_Sig) (r0 : Nat) (l1 : Int64) (i3 : Int32) : zm_blk zM zp_170 (some .long) 0 0 zc_170 105 (zp_170.drop 20) (33, [(0, .ref r0), (1, .long l1), (3, .int i3)], [], lay, σ, 0, 0) = zb_170_33 lay σ r0 l1 i3 := rfl
theorem zg_170_33 {lay : zm_Lay} {σ : zm_Sig} {r0 : Nat} {l1 : Int64} {i3 : Int32} {out : zm_Out} {r : zm_St ⊕ zm_Out} (h : zb_170_33 lay σ r0 l1 i3 = some r) (hg : match r with | .inl x => zm_go zp_P 170 x out | .inr o => o = out) : zm_go zp_P 170 (33, [(0, .ref r0), (1, .long l1), (3, .int i3)], [], lay, σ, 0, 0) out :=
  zm_blk_go (M := zd_170) rfl zs_170 105 (zp_170.drop 20) _ r (fun _ h => List.mem_of_mem_drop h) ((zr_170_33 lay σ r0 l1 i3).trans h) hg
noncomputable def zb_170_47 (lay : zm_Lay) (σ : zm_Sig) (r0 : Nat) (l1 : Int64) (i3 : Int32) (i4 : Int32) : Option (zm_St ⊕ zm_Out) :=
  if ((nI 3) : Int32) < i4 then (some (.inl (33, [(0, .ref r0), (1, .long l1), (3, .int (i3 + 1))], [], lay, σ, 0, 0)))
  else ((zm_is lay r0 9).bind fun _ =>
   zm_opt (σ.2.2 r0 3) (fun q1 =>
   (zm_is lay q1 0).bind fun _ =>
   zm_opt (σ.2.2 q1 0) (fun q2 =>
   (zm_is lay q2 7).bind fun _ => (zm_ai (zM 71 [.ref q2, .int i3, .int i4] lay σ)).bind fun q3 =>
   some (.inl (47, [(0, .ref r0), (1, .long (((Int64.ofNat 31) * l1) + (q3.1 : Int32).toInt64)), (3, .int i3), (4, .int (i4 + 1))], [], q3.2.1, q3.2.2, 0, 0))) (none)) (none))
set_option maxRecDepth 100000 in
theorem zr_170_47 (lay : zm_Lay) (σ : zm_Sig) (r0 : Nat) (l1 : Int64) (i3 : Int32) (i4 : Int32) : zm_blk zM zp_170 (some .long) 0 0 zc_170 105 (zp_170.drop 27) (47, [(0, .ref r0), (1, .long l1), (3, .int i3), (4, .int i4)], [], lay, σ, 0, 0) = zb_170_47 lay σ r0 l1 i3 i4 := rfl
theorem zg_170_47 {lay : zm_Lay} {σ : zm_Sig} {r0 : Nat} {l1 : Int64} {i3 : Int32} {i4 : Int32} {out : zm_Out} {r : zm_St ⊕ zm_Out} (h : zb_170_47 lay σ r0 l1 i3 i4 = some r) (hg : match r with | .inl x => zm_go zp_P 170 x out | .inr o => o = out) : zm_go zp_P 170 (47, [(0, .ref r0), (1, .long l1), (3, .int i3), (4, .int i4)], [], lay, σ, 0, 0) out :=
  zm_blk_go (M := zd_170) rfl zs_170 105 (zp_170.drop 27) _ r (fun _ h => List.mem_of_mem_drop h) ((zr_170_47 lay σ r0 l1 i3 i4).trans h) hg
noncomputable def zb_170_88 (lay : zm_Lay) (σ : zm_Sig) (r0 : Nat) (l1 : Int64) (i3 : Int32) : Option (zm_St ⊕ zm_Out) :=
  (zm_is lay r0 9).bind fun _ =>
  zm_opt (σ.2.2 r0 11) (fun q1 =>
  (zm_is lay q1 1).bind fun _ => (zm_ai (zM 78 [.ref q1] lay σ)).bind fun q2 =>
  if q2.1 ≤ i3 then ((zm_is q2.2.1 r0 9).bind fun _ =>
   zm_opt (q2.2.2.2.2 r0 3) (fun q3 =>
   (zm_is q2.2.1 q3 0).bind fun _ =>
   zm_opt (q2.2.2.2.2 q3 1) (fun q4 =>
   (zm_is q2.2.1 q4 4).bind fun _ => (zm_al (zM 171 [.ref q4, .long l1] q2.2.1 q2.2.2)).bind fun q5 =>
   some (.inl (149, [(0, .ref r0), (1, .long q5.1), (3, .int 0)], [], q5.2.1, q5.2.2, 0, 0))) (none)) (none))
  else (some (.inl (102, [(0, .ref r0), (1, .long l1), (3, .int i3), (4, .int 0)], [], q2.2.1, q2.2.2, 0, 0)))) (none)
set_option maxRecDepth 100000 in
theorem zr_170_88 (lay : zm_Lay) (σ : zm_Sig) (r0 : Nat) (l1 : Int64) (i3 : Int32) : zm_blk zM zp_170 (some .long) 0 0 zc_170 105 (zp_170.drop 48) (88, [(0, .ref r0), (1, .long l1), (3, .int i3)], [], lay, σ, 0, 0) = zb_170_88 lay σ r0 l1 i3 := rfl
theorem zg_170_88 {lay : zm_Lay} {σ : zm_Sig} {r0 : Nat} {l1 : Int64} {i3 : Int32} {out : zm_Out} {r : zm_St ⊕ zm_Out} (h : zb_170_88 lay σ r0 l1 i3 = some r) (hg : match r with | .inl x => zm_go zp_P 170 x out | .inr o => o = out) : zm_go zp_P 170 (88, [(0, .ref r0), (1, .long l1), (3, .int i3)], [], lay, σ, 0, 0) out :=
  zm_blk_go (M := zd_170) rfl zs_170 105 (zp_170.drop 48) _ r (fun _ h => List.mem_of_mem_drop h) ((zr_170_88 lay σ r0 l1 i3).trans h) hg
noncomputable def zb_170_102 (lay : zm_Lay) (σ : zm_Sig) (r0 : Nat) (l1 : Int64) (i3 : Int32) (i4 : Int32) : Option (zm_St ⊕ zm_Out) :=
  if ((nI 4) : Int32) < i4 then (some (.inl (88, [(0, .ref r0), (1, .long l1), (3, .int (i3 + 1))], [], lay, σ, 0, 0)))
  else ((zm_is lay r0 9).bind fun _ => (zm_ai (zM 79 [.ref r0, .int i3, .int i4] lay σ)).bind fun q1 =>
   some (.inl (102, [(0, .ref r0), (1, .long (((Int64.ofNat 31) * l1) + (q1.1 : Int32).toInt64)), (3, .int i3), (4, .int (i4 + 1))], [], q1.2.1, q1.2.2, 0, 0)))
set_option maxRecDepth 100000 in
theorem zr_170_102 (lay : zm_Lay) (σ : zm_Sig) (r0 : Nat) (l1 : Int64) (i3 : Int32) (i4 : Int32) : zm_blk zM zp_170 (some .long) 0 0 zc_170 105 (zp_170.drop 55) (102, [(0, .ref r0), (1, .long l1), (3, .int i3), (4, .int i4)], [], lay, σ, 0, 0) = zb_170_102 lay σ r0 l1 i3 i4 := rfl
theorem zg_170_102 {lay : zm_Lay} {σ : zm_Sig} {r0 : Nat} {l1 : Int64} {i3 : Int32} {i4 : Int32} {out : zm_Out} {r : zm_St ⊕ zm_Out} (h : zb_170_102 lay σ r0 l1 i3 i4 = some r) (hg : match r with | .inl x => zm_go zp_P 170 x out | .inr o => o = out) : zm_go zp_P 170 (102, [(0, .ref r0), (1, .long l1), (3, .int i3), (4, .int i4)], [], lay, σ, 0, 0) out :=
  zm_blk_go (M := zd_170) rfl zs_170 105 (zp_170.drop 55) _ r (fun _ h => List.mem_of_mem_drop h) ((zr_170_102 lay σ r0 l1 i3 i4).trans h) hg
noncomputable def zb_170_149 (lay : zm_Lay) (σ : zm_Sig) (r0 : Nat) (l1 : Int64) (i3 : Int32) : Option (zm_St ⊕ zm_Out) :=
  if ((nI 3) : Int32) ≤ i3 then ((zm_is lay r0 9).bind fun _ =>
   zm_opt (σ.2.2 r0 1) (fun q1 =>
   (zm_is lay r0 9).bind fun _ =>
   zm_opt (σ.2.2 r0 0) (fun q2 =>
   (zm_is lay q2 5).bind fun _ => (zm_al (zM 172 [.ref q2, .long l1] lay σ)).bind fun q3 =>
   (zm_is q3.2.1 q1 5).bind fun _ => (zm_al (zM 172 [.ref q1, .long q3.1] q3.2.1 q3.2.2)).bind fun q4 =>
   some (.inr (some (.long q4.1), q4.2.1, q4.2.2))) (none)) ((zm_is lay r0 9).bind fun _ =>
   zm_opt (σ.2.2 r0 0) (fun q5 =>
   (zm_is lay q5 5).bind fun _ => (zm_al (zM 172 [.ref q5, .long l1] lay σ)).bind fun q6 =>
   none) (none)))
  else ((zm_is lay r0 9).bind fun _ =>
   zm_opt (σ.2.2 r0 4) (fun q7 =>
   (zm_gR lay σ q7 i3).bind fun o8 => zm_opt o8 (fun q9 =>
   (zm_is lay q9 6).bind fun _ =>
   some (.inl (149, [(0, .ref r0), (1, .long (((Int64.ofNat 31) * l1) + ((σ.1 q9 3) : Int32).toInt64)), (3, .int (i3 + 1))], [], lay, σ, 0, 0))) (none)) (none))
set_option maxRecDepth 100000 in
theorem zr_170_149 (lay : zm_Lay) (σ : zm_Sig) (r0 : Nat) (l1 : Int64) (i3 : Int32) : zm_blk zM zp_170 (some .long) 0 0 zc_170 105 (zp_170.drop 80) (149, [(0, .ref r0), (1, .long l1), (3, .int i3)], [], lay, σ, 0, 0) = zb_170_149 lay σ r0 l1 i3 := rfl
theorem zg_170_149 {lay : zm_Lay} {σ : zm_Sig} {r0 : Nat} {l1 : Int64} {i3 : Int32} {out : zm_Out} {r : zm_St ⊕ zm_Out} (h : zb_170_149 lay σ r0 l1 i3 = some r) (hg : match r with | .inl x => zm_go zp_P 170 x out | .inr o => o = out) : zm_go zp_P 170 (149, [(0, .ref r0), (1, .long l1), (3, .int i3)], [], lay, σ, 0, 0) out :=
  zm_blk_go (M := zd_170) rfl zs_170 105 (zp_170.drop 80) _ r (fun _ h => List.mem_of_mem_drop h) ((zr_170_149 lay σ r0 l1 i3).trans h) hg
/-! SubgroupWriter$Rules.digestOn(J)J -/
theorem zs_171 : zm_srt zp_171 = true := by decide +kernel
noncomputable def zb_171_0 (lay : zm_Lay) (σ : zm_Sig) (r0 : Nat) (l1 : Int64) : Option (zm_St ⊕ zm_Out) :=
  some (.inl (5, [(0, .ref r0), (3, .long l1), (5, .int 0)], [], lay, σ, 0, 0))
set_option maxRecDepth 100000 in
theorem zr_171_0 (lay : zm_Lay) (σ : zm_Sig) (r0 : Nat) (l1 : Int64) : zm_blk zM zp_171 (some .long) 0 0 zc_171 45 (zp_171.drop 0) (0, [(0, .ref r0), (1, .long l1)], [], lay, σ, 0, 0) = zb_171_0 lay σ r0 l1 := rfl
theorem ze_171 {lay : zm_Lay} {σ : zm_Sig} {r0 : Nat} {l1 : Int64} {out : zm_Out} {r : zm_St ⊕ zm_Out} (h : zb_171_0 lay σ r0 l1 = some r) (hg : match r with | .inl x => zm_go zp_P 171 x out | .inr o => o = out) : zM 171 [.ref r0, .long l1] lay σ = some out :=
  zm_mean_go (M := zd_171) rfl (Nat.le_of_ble_eq_true rfl) (zm_blk_go (M := zd_171) rfl zs_171 45 (zp_171.drop 0) _ r (fun _ h => List.mem_of_mem_drop h) ((zr_171_0 lay σ r0 l1).trans h) hg)
noncomputable def zb_171_5 (lay : zm_Lay) (σ : zm_Sig) (r0 : Nat) (l3 : Int64) (i5 : Int32) : Option (zm_St ⊕ zm_Out) :=
  (zm_is lay r0 4).bind fun _ =>
  if (σ.1 r0 2) ≤ i5 then (some (.inr (some (.long l3), lay, σ)))
  else ((zm_is lay r0 4).bind fun _ =>
   zm_opt (σ.2.2 r0 1) (fun q1 =>
   (zm_gI lay σ q1 i5).bind fun v2 =>
   some (.inl (32, [(0, .ref r0), (3, .long (((Int64.ofNat 31) * l3) + (v2 : Int32).toInt64)), (5, .int i5), (6, .int 0)], [], lay, σ, 0, 0))) (none))
set_option maxRecDepth 100000 in
theorem zr_171_5 (lay : zm_Lay) (σ : zm_Sig) (r0 : Nat) (l3 : Int64) (i5 : Int32) : zm_blk zM zp_171 (some .long) 0 0 zc_171 45 (zp_171.drop 4) (5, [(0, .ref r0), (3, .long l3), (5, .int i5)], [], lay, σ, 0, 0) = zb_171_5 lay σ r0 l3 i5 := rfl
theorem zg_171_5 {lay : zm_Lay} {σ : zm_Sig} {r0 : Nat} {l3 : Int64} {i5 : Int32} {out : zm_Out} {r : zm_St ⊕ zm_Out} (h : zb_171_5 lay σ r0 l3 i5 = some r) (hg : match r with | .inl x => zm_go zp_P 171 x out | .inr o => o = out) : zm_go zp_P 171 (5, [(0, .ref r0), (3, .long l3), (5, .int i5)], [], lay, σ, 0, 0) out :=
  zm_blk_go (M := zd_171) rfl zs_171 45 (zp_171.drop 4) _ r (fun _ h => List.mem_of_mem_drop h) ((zr_171_5 lay σ r0 l3 i5).trans h) hg
noncomputable def zb_171_32 (lay : zm_Lay) (σ : zm_Sig) (r0 : Nat) (l3 : Int64) (i5 : Int32) (i6 : Int32) : Option (zm_St ⊕ zm_Out) :=
  (zm_is lay r0 4).bind fun _ =>
  zm_opt (σ.2.2 r0 1) (fun q1 =>
  (zm_gI lay σ q1 i5).bind fun v2 =>
  if v2 ≤ i6 then (some (.inl (5, [(0, .ref r0), (3, .long l3), (5, .int (i5 + 1))], [], lay, σ, 0, 0)))
  else ((zm_is lay r0 4).bind fun _ =>
   zm_opt (σ.2.2 r0 0) (fun q3 =>
   (zm_gR lay σ q3 i5).bind fun o4 => zm_opt o4 (fun q5 =>
   (zm_gI lay σ q5 i6).bind fun v6 =>
   some (.inl (32, [(0, .ref r0), (3, .long (((Int64.ofNat 31) * l3) + (v6 : Int32).toInt64)), (5, .int i5), (6, .int (i6 + 1))], [], lay, σ, 0, 0))) (none)) (none))) (none)
set_option maxRecDepth 100000 in
theorem zr_171_32 (lay : zm_Lay) (σ : zm_Sig) (r0 : Nat) (l3 : Int64) (i5 : Int32) (i6 : Int32) : zm_blk zM zp_171 (some .long) 0 0 zc_171 45 (zp_171.drop 20) (32, [(0, .ref r0), (3, .long l3), (5, .int i5), (6, .int i6)], [], lay, σ, 0, 0) = zb_171_32 lay σ r0 l3 i5 i6 := rfl
theorem zg_171_32 {lay : zm_Lay} {σ : zm_Sig} {r0 : Nat} {l3 : Int64} {i5 : Int32} {i6 : Int32} {out : zm_Out} {r : zm_St ⊕ zm_Out} (h : zb_171_32 lay σ r0 l3 i5 i6 = some r) (hg : match r with | .inl x => zm_go zp_P 171 x out | .inr o => o = out) : zm_go zp_P 171 (32, [(0, .ref r0), (3, .long l3), (5, .int i5), (6, .int i6)], [], lay, σ, 0, 0) out :=
  zm_blk_go (M := zd_171) rfl zs_171 45 (zp_171.drop 20) _ r (fun _ h => List.mem_of_mem_drop h) ((zr_171_32 lay σ r0 l3 i5 i6).trans h) hg
/-! SubgroupWriter$Shelf.digestOn(J)J -/
theorem zs_172 : zm_srt zp_172 = true := by decide +kernel
noncomputable def zb_172_0 (lay : zm_Lay) (σ : zm_Sig) (r0 : Nat) (l1 : Int64) : Option (zm_St ⊕ zm_Out) :=
  some (.inl (5, [(0, .ref r0), (3, .long l1), (5, .int 0)], [], lay, σ, 0, 0))
set_option maxRecDepth 100000 in
theorem zr_172_0 (lay : zm_Lay) (σ : zm_Sig) (r0 : Nat) (l1 : Int64) : zm_blk zM zp_172 (some .long) 0 0 zc_172 46 (zp_172.drop 0) (0, [(0, .ref r0), (1, .long l1)], [], lay, σ, 0, 0) = zb_172_0 lay σ r0 l1 := rfl
theorem ze_172 {lay : zm_Lay} {σ : zm_Sig} {r0 : Nat} {l1 : Int64} {out : zm_Out} {r : zm_St ⊕ zm_Out} (h : zb_172_0 lay σ r0 l1 = some r) (hg : match r with | .inl x => zm_go zp_P 172 x out | .inr o => o = out) : zM 172 [.ref r0, .long l1] lay σ = some out :=
  zm_mean_go (M := zd_172) rfl (Nat.le_of_ble_eq_true rfl) (zm_blk_go (M := zd_172) rfl zs_172 46 (zp_172.drop 0) _ r (fun _ h => List.mem_of_mem_drop h) ((zr_172_0 lay σ r0 l1).trans h) hg)
noncomputable def zb_172_5 (lay : zm_Lay) (σ : zm_Sig) (r0 : Nat) (l3 : Int64) (i5 : Int32) : Option (zm_St ⊕ zm_Out) :=
  (zm_is lay r0 5).bind fun _ =>
  zm_opt (σ.2.2 r0 1) (fun q1 =>
  (zm_len lay q1).bind fun v2 =>
  if v2 ≤ i5 then (some (.inr (some (.long l3), lay, σ)))
  else ((zm_is lay r0 5).bind fun _ =>
   zm_opt (σ.2.2 r0 1) (fun q3 =>
   (zm_gI lay σ q3 i5).bind fun v4 =>
   some (.inl (33, [(0, .ref r0), (3, .long (((Int64.ofNat 31) * l3) + (v4 : Int32).toInt64)), (5, .int i5), (6, .int 0)], [], lay, σ, 0, 0))) (none))) (none)
set_option maxRecDepth 100000 in
theorem zr_172_5 (lay : zm_Lay) (σ : zm_Sig) (r0 : Nat) (l3 : Int64) (i5 : Int32) : zm_blk zM zp_172 (some .long) 0 0 zc_172 46 (zp_172.drop 4) (5, [(0, .ref r0), (3, .long l3), (5, .int i5)], [], lay, σ, 0, 0) = zb_172_5 lay σ r0 l3 i5 := rfl
theorem zg_172_5 {lay : zm_Lay} {σ : zm_Sig} {r0 : Nat} {l3 : Int64} {i5 : Int32} {out : zm_Out} {r : zm_St ⊕ zm_Out} (h : zb_172_5 lay σ r0 l3 i5 = some r) (hg : match r with | .inl x => zm_go zp_P 172 x out | .inr o => o = out) : zm_go zp_P 172 (5, [(0, .ref r0), (3, .long l3), (5, .int i5)], [], lay, σ, 0, 0) out :=
  zm_blk_go (M := zd_172) rfl zs_172 46 (zp_172.drop 4) _ r (fun _ h => List.mem_of_mem_drop h) ((zr_172_5 lay σ r0 l3 i5).trans h) hg
noncomputable def zb_172_33 (lay : zm_Lay) (σ : zm_Sig) (r0 : Nat) (l3 : Int64) (i5 : Int32) (i6 : Int32) : Option (zm_St ⊕ zm_Out) :=
  (zm_is lay r0 5).bind fun _ =>
  zm_opt (σ.2.2 r0 1) (fun q1 =>
  (zm_gI lay σ q1 i5).bind fun v2 =>
  if v2 ≤ i6 then (some (.inl (5, [(0, .ref r0), (3, .long l3), (5, .int (i5 + 1))], [], lay, σ, 0, 0)))
  else ((zm_is lay r0 5).bind fun _ =>
   zm_opt (σ.2.2 r0 0) (fun q3 =>
   (zm_gR lay σ q3 i5).bind fun o4 => zm_opt o4 (fun q5 =>
   (zm_gI lay σ q5 i6).bind fun v6 =>
   some (.inl (33, [(0, .ref r0), (3, .long (((Int64.ofNat 31) * l3) + (v6 : Int32).toInt64)), (5, .int i5), (6, .int (i6 + 1))], [], lay, σ, 0, 0))) (none)) (none))) (none)
set_option maxRecDepth 100000 in
theorem zr_172_33 (lay : zm_Lay) (σ : zm_Sig) (r0 : Nat) (l3 : Int64) (i5 : Int32) (i6 : Int32) : zm_blk zM zp_172 (some .long) 0 0 zc_172 46 (zp_172.drop 21) (33, [(0, .ref r0), (3, .long l3), (5, .int i5), (6, .int i6)], [], lay, σ, 0, 0) = zb_172_33 lay σ r0 l3 i5 i6 := rfl
theorem zg_172_33 {lay : zm_Lay} {σ : zm_Sig} {r0 : Nat} {l3 : Int64} {i5 : Int32} {i6 : Int32} {out : zm_Out} {r : zm_St ⊕ zm_Out} (h : zb_172_33 lay σ r0 l3 i5 i6 = some r) (hg : match r with | .inl x => zm_go zp_P 172 x out | .inr o => o = out) : zm_go zp_P 172 (33, [(0, .ref r0), (3, .long l3), (5, .int i5), (6, .int i6)], [], lay, σ, 0, 0) out :=
  zm_blk_go (M := zd_172) rfl zs_172 46 (zp_172.drop 21) _ r (fun _ h => List.mem_of_mem_drop h) ((zr_172_33 lay σ r0 l3 i5 i6).trans h) hg
/-! SubgroupWriterModel.row(II)I -/
theorem zs_174 : zm_srt zp_174 = true := by decide +kernel
noncomputable def zb_174_0 (lay : zm_Lay) (σ : zm_Sig) (r0 : Nat) (i1 : Int32) (i2 : Int32) : Option (zm_St ⊕ zm_Out) :=
  (zm_ai (zM 175 [.int i1] lay σ)).bind fun q1 =>
  if q1.1 = 0 then (some (.inr (some (.int (-1)), q1.2.1, q1.2.2)))
  else (if i2 ≤ (nI 40) then (if (0 : Int32) ≤ i2 then ((zm_is q1.2.1 r0 10).bind fun _ => (zm_av (zM 178 [.ref r0, .int i1, .int i2] q1.2.1 q1.2.2)).bind fun q2 =>
     some (.inr (some (.int i2), q2.1, q2.2)))
    else ((zm_is q1.2.1 r0 10).bind fun _ => (zm_ai (zM 177 [.ref r0, .int (nI 5)] q1.2.1 q1.2.2)).bind fun q3 =>
     some (.inr (some (.int q3.1), q3.2.1, q3.2.2))))
   else (some (.inr (some (.int (-1)), q1.2.1, q1.2.2))))
set_option maxRecDepth 100000 in
theorem zr_174_0 (lay : zm_Lay) (σ : zm_Sig) (r0 : Nat) (i1 : Int32) (i2 : Int32) : zm_blk zM zp_174 (some .int) 0 0 zc_174 21 (zp_174.drop 0) (0, [(0, .ref r0), (1, .int i1), (2, .int i2)], [], lay, σ, 0, 0) = zb_174_0 lay σ r0 i1 i2 := rfl
theorem ze_174 {lay : zm_Lay} {σ : zm_Sig} {r0 : Nat} {i1 : Int32} {i2 : Int32} {out : zm_Out} {r : zm_St ⊕ zm_Out} (h : zb_174_0 lay σ r0 i1 i2 = some r) (hg : match r with | .inl x => zm_go zp_P 174 x out | .inr o => o = out) : zM 174 [.ref r0, .int i1, .int i2] lay σ = some out :=
  zm_mean_go (M := zd_174) rfl (Nat.le_of_ble_eq_true rfl) (zm_blk_go (M := zd_174) rfl zs_174 21 (zp_174.drop 0) _ r (fun _ h => List.mem_of_mem_drop h) ((zr_174_0 lay σ r0 i1 i2).trans h) hg)
/-! SubgroupWriterModel.isRow(I)Z -/
theorem zs_175 : zm_srt zp_175 = true := by decide +kernel
noncomputable def zb_175_0 (lay : zm_Lay) (σ : zm_Sig) (i0 : Int32) : Option (zm_St ⊕ zm_Out) :=
  (zm_ai (zM 176 [.int i0, .int 0, .int (nI 5)] lay σ)).bind fun q1 =>
  if q1.1 = 0 ∨ q1.1 = 1 then some (.inr (some (.int q1.1), q1.2.1, q1.2.2)) else none
set_option maxRecDepth 100000 in
theorem zr_175_0 (lay : zm_Lay) (σ : zm_Sig) (i0 : Int32) : zm_blk zM zp_175 (some .boolean) 0 0 zc_175 6 (zp_175.drop 0) (0, [(0, .int i0)], [], lay, σ, 0, 0) = zb_175_0 lay σ i0 := rfl
theorem ze_175 {lay : zm_Lay} {σ : zm_Sig} {i0 : Int32} {out : zm_Out} {r : zm_St ⊕ zm_Out} (h : zb_175_0 lay σ i0 = some r) (hg : match r with | .inl x => zm_go zp_P 175 x out | .inr o => o = out) : zM 175 [.int i0] lay σ = some out :=
  zm_mean_go (M := zd_175) rfl (Nat.le_of_ble_eq_true rfl) (zm_blk_go (M := zd_175) rfl zs_175 6 (zp_175.drop 0) _ r (fun _ h => List.mem_of_mem_drop h) ((zr_175_0 lay σ i0).trans h) hg)
/-! SubgroupWriterModel.in(III)Z -/
theorem zs_176 : zm_srt zp_176 = true := by decide +kernel
noncomputable def zb_176_0 (lay : zm_Lay) (σ : zm_Sig) (i0 : Int32) (i1 : Int32) (i2 : Int32) : Option (zm_St ⊕ zm_Out) :=
  if i0 < i1 then (some (.inr (some (.int 0), lay, σ)))
  else (if i2 < i0 then (some (.inr (some (.int 0), lay, σ)))
   else (some (.inr (some (.int 1), lay, σ))))
set_option maxRecDepth 100000 in
theorem zr_176_0 (lay : zm_Lay) (σ : zm_Sig) (i0 : Int32) (i1 : Int32) (i2 : Int32) : zm_blk zM zp_176 (some .boolean) 0 0 zc_176 11 (zp_176.drop 0) (0, [(0, .int i0), (1, .int i1), (2, .int i2)], [], lay, σ, 0, 0) = zb_176_0 lay σ i0 i1 i2 := rfl
theorem ze_176 {lay : zm_Lay} {σ : zm_Sig} {i0 : Int32} {i1 : Int32} {i2 : Int32} {out : zm_Out} {r : zm_St ⊕ zm_Out} (h : zb_176_0 lay σ i0 i1 i2 = some r) (hg : match r with | .inl x => zm_go zp_P 176 x out | .inr o => o = out) : zM 176 [.int i0, .int i1, .int i2] lay σ = some out :=
  zm_mean_go (M := zd_176) rfl (Nat.le_of_ble_eq_true rfl) (zm_blk_go (M := zd_176) rfl zs_176 11 (zp_176.drop 0) _ r (fun _ h => List.mem_of_mem_drop h) ((zr_176_0 lay σ i0 i1 i2).trans h) hg)
/-! SubgroupWriterModel.found(I)I -/
theorem zs_177 : zm_srt zp_177 = true := by decide +kernel
noncomputable def zb_177_0 (lay : zm_Lay) (σ : zm_Sig) (r0 : Nat) (i1 : Int32) : Option (zm_St ⊕ zm_Out) :=
  (zm_is lay r0 10).bind fun _ => (zm_fw σ r0 29 0 (.int i1)).bind fun s1 =>
  (zm_is lay r0 10).bind fun _ =>
  zm_opt (s1.2.2 r0 30) (fun q2 =>
  (zm_gI lay s1 q2 i1).bind fun v3 =>
  (zm_sI lay s1 q2 i1 (v3 + 1)).bind fun s4 =>
  some (.inr (some (.int (-3)), lay, s4))) (none)
set_option maxRecDepth 100000 in
theorem zr_177_0 (lay : zm_Lay) (σ : zm_Sig) (r0 : Nat) (i1 : Int32) : zm_blk zM zp_177 (some .int) 0 0 zc_177 14 (zp_177.drop 0) (0, [(0, .ref r0), (1, .int i1)], [], lay, σ, 0, 0) = zb_177_0 lay σ r0 i1 := rfl
theorem ze_177 {lay : zm_Lay} {σ : zm_Sig} {r0 : Nat} {i1 : Int32} {out : zm_Out} {r : zm_St ⊕ zm_Out} (h : zb_177_0 lay σ r0 i1 = some r) (hg : match r with | .inl x => zm_go zp_P 177 x out | .inr o => o = out) : zM 177 [.ref r0, .int i1] lay σ = some out :=
  zm_mean_go (M := zd_177) rfl (Nat.le_of_ble_eq_true rfl) (zm_blk_go (M := zd_177) rfl zs_177 14 (zp_177.drop 0) _ r (fun _ h => List.mem_of_mem_drop h) ((zr_177_0 lay σ r0 i1).trans h) hg)
/-! SubgroupWriterModel.makesRow(II)V -/
theorem zs_178 : zm_srt zp_178 = true := by decide +kernel
noncomputable def zb_178_0 (lay : zm_Lay) (σ : zm_Sig) (r0 : Nat) (i1 : Int32) (i2 : Int32) : Option (zm_St ⊕ zm_Out) :=
  (zm_is lay r0 10).bind fun _ =>
  zm_opt (σ.2.2 r0 0) (fun q1 =>
  (zm_sI lay σ q1 i1 i2).bind fun s2 =>
  some (.inl (9, [(0, .ref r0), (1, .int i1), (2, .int i2), (3, .int 0)], [], lay, s2, 0, 0))) (none)
set_option maxRecDepth 100000 in
theorem zr_178_0 (lay : zm_Lay) (σ : zm_Sig) (r0 : Nat) (i1 : Int32) (i2 : Int32) : zm_blk zM zp_178 none 0 0 zc_178 23 (zp_178.drop 0) (0, [(0, .ref r0), (1, .int i1), (2, .int i2)], [], lay, σ, 0, 0) = zb_178_0 lay σ r0 i1 i2 := rfl
theorem ze_178 {lay : zm_Lay} {σ : zm_Sig} {r0 : Nat} {i1 : Int32} {i2 : Int32} {out : zm_Out} {r : zm_St ⊕ zm_Out} (h : zb_178_0 lay σ r0 i1 i2 = some r) (hg : match r with | .inl x => zm_go zp_P 178 x out | .inr o => o = out) : zM 178 [.ref r0, .int i1, .int i2] lay σ = some out :=
  zm_mean_go (M := zd_178) rfl (Nat.le_of_ble_eq_true rfl) (zm_blk_go (M := zd_178) rfl zs_178 23 (zp_178.drop 0) _ r (fun _ h => List.mem_of_mem_drop h) ((zr_178_0 lay σ r0 i1 i2).trans h) hg)
noncomputable def zb_178_9 (lay : zm_Lay) (σ : zm_Sig) (r0 : Nat) (i1 : Int32) (i2 : Int32) (i3 : Int32) : Option (zm_St ⊕ zm_Out) :=
  if i2 ≤ i3 then (some (.inr (none, lay, σ)))
  else ((zm_is lay r0 10).bind fun _ =>
   zm_opt (σ.2.2 r0 1) (fun q1 =>
   (zm_sI lay σ q1 ((((nI 40) : Int32) * i1) + i3) 0).bind fun s2 =>
   some (.inl (9, [(0, .ref r0), (1, .int i1), (2, .int i2), (3, .int (i3 + 1))], [], lay, s2, 0, 0))) (none))
set_option maxRecDepth 100000 in
theorem zr_178_9 (lay : zm_Lay) (σ : zm_Sig) (r0 : Nat) (i1 : Int32) (i2 : Int32) (i3 : Int32) : zm_blk zM zp_178 none 0 0 zc_178 23 (zp_178.drop 7) (9, [(0, .ref r0), (1, .int i1), (2, .int i2), (3, .int i3)], [], lay, σ, 0, 0) = zb_178_9 lay σ r0 i1 i2 i3 := rfl
theorem zg_178_9 {lay : zm_Lay} {σ : zm_Sig} {r0 : Nat} {i1 : Int32} {i2 : Int32} {i3 : Int32} {out : zm_Out} {r : zm_St ⊕ zm_Out} (h : zb_178_9 lay σ r0 i1 i2 i3 = some r) (hg : match r with | .inl x => zm_go zp_P 178 x out | .inr o => o = out) : zm_go zp_P 178 (9, [(0, .ref r0), (1, .int i1), (2, .int i2), (3, .int i3)], [], lay, σ, 0, 0) out :=
  zm_blk_go (M := zd_178) rfl zs_178 23 (zp_178.drop 7) _ r (fun _ h => List.mem_of_mem_drop h) ((zr_178_9 lay σ r0 i1 i2 i3).trans h) hg
/-! SubgroupWriterModel.lay(III)I -/
theorem zs_179 : zm_srt zp_179 = true := by decide +kernel
noncomputable def zb_179_0 (lay : zm_Lay) (σ : zm_Sig) (r0 : Nat) (i1 : Int32) (i2 : Int32) (i3 : Int32) : Option (zm_St ⊕ zm_Out) :=
  (zm_ai (zM 175 [.int i1] lay σ)).bind fun q1 =>
  if ¬ q1.1 = 0 then ((zm_is q1.2.1 r0 10).bind fun _ => (zm_ai (zM 180 [.ref r0, .int i1, .int i2] q1.2.1 q1.2.2)).bind fun q2 =>
   if q2.1 = 0 then ((zm_is q2.2.1 r0 10).bind fun _ =>
    zm_opt (q2.2.2.2.2 r0 1) (fun q3 =>
    (zm_gI q2.2.1 q2.2.2 q3 ((((nI 40) : Int32) * i1) + i2)).bind fun v4 =>
    (zm_is q2.2.1 r0 10).bind fun _ =>
    zm_opt (q2.2.2.2.2 r0 1) (fun q5 =>
    (zm_sI q2.2.1 q2.2.2 q5 ((((nI 40) : Int32) * i1) + i2) i3).bind fun s6 =>
    (zm_is q2.2.1 r0 10).bind fun _ => (zm_ai (zM 181 [.ref r0, .int v4, .int 1] q2.2.1 s6)).bind fun q7 =>
    some (.inr (some (.int q7.1), q7.2.1, q7.2.2))) (none)) (none))
   else ((zm_is q2.2.1 r0 10).bind fun _ => (zm_ai (zM 177 [.ref r0, .int q2.1] q2.2.1 q2.2.2)).bind fun q8 =>
    some (.inr (some (.int q8.1), q8.2.1, q8.2.2))))
  else (some (.inr (some (.int (-1)), q1.2.1, q1.2.2)))
set_option maxRecDepth 100000 in
theorem zr_179_0 (lay : zm_Lay) (σ : zm_Sig) (r0 : Nat) (i1 : Int32) (i2 : Int32) (i3 : Int32) : zm_blk zM zp_179 (some .int) 0 0 zc_179 40 (zp_179.drop 0) (0, [(0, .ref r0), (1, .int i1), (2, .int i2), (3, .int i3)], [], lay, σ, 0, 0) = zb_179_0 lay σ r0 i1 i2 i3 := rfl
theorem ze_179 {lay : zm_Lay} {σ : zm_Sig} {r0 : Nat} {i1 : Int32} {i2 : Int32} {i3 : Int32} {out : zm_Out} {r : zm_St ⊕ zm_Out} (h : zb_179_0 lay σ r0 i1 i2 i3 = some r) (hg : match r with | .inl x => zm_go zp_P 179 x out | .inr o => o = out) : zM 179 [.ref r0, .int i1, .int i2, .int i3] lay σ = some out :=
  zm_mean_go (M := zd_179) rfl (Nat.le_of_ble_eq_true rfl) (zm_blk_go (M := zd_179) rfl zs_179 40 (zp_179.drop 0) _ r (fun _ h => List.mem_of_mem_drop h) ((zr_179_0 lay σ r0 i1 i2 i3).trans h) hg)
/-! SubgroupWriterModel.placeOf(II)I -/
theorem zs_180 : zm_srt zp_180 = true := by decide +kernel
noncomputable def zb_180_0 (lay : zm_Lay) (σ : zm_Sig) (r0 : Nat) (i1 : Int32) (i2 : Int32) : Option (zm_St ⊕ zm_Out) :=
  (zm_is lay r0 10).bind fun _ =>
  zm_opt (σ.2.2 r0 0) (fun q1 =>
  (zm_gI lay σ q1 i1).bind fun v2 =>
  if (0 : Int32) ≤ v2 then ((zm_is lay r0 10).bind fun _ =>
   zm_opt (σ.2.2 r0 0) (fun q3 =>
   (zm_gI lay σ q3 i1).bind fun v4 =>
   (zm_ai (zM 176 [.int i2, .int 0, .int (v4 - 1)] lay σ)).bind fun q5 =>
   if q5.1 = 0 then (some (.inr (some (.int (nI 2)), q5.2.1, q5.2.2)))
   else (some (.inr (some (.int 0), q5.2.1, q5.2.2)))) (none))
  else (some (.inr (some (.int 1), lay, σ)))) (none)
set_option maxRecDepth 100000 in
theorem zr_180_0 (lay : zm_Lay) (σ : zm_Sig) (r0 : Nat) (i1 : Int32) (i2 : Int32) : zm_blk zM zp_180 (some .int) 0 0 zc_180 22 (zp_180.drop 0) (0, [(0, .ref r0), (1, .int i1), (2, .int i2)], [], lay, σ, 0, 0) = zb_180_0 lay σ r0 i1 i2 := rfl
theorem ze_180 {lay : zm_Lay} {σ : zm_Sig} {r0 : Nat} {i1 : Int32} {i2 : Int32} {out : zm_Out} {r : zm_St ⊕ zm_Out} (h : zb_180_0 lay σ r0 i1 i2 = some r) (hg : match r with | .inl x => zm_go zp_P 180 x out | .inr o => o = out) : zM 180 [.ref r0, .int i1, .int i2] lay σ = some out :=
  zm_mean_go (M := zd_180) rfl (Nat.le_of_ble_eq_true rfl) (zm_blk_go (M := zd_180) rfl zs_180 22 (zp_180.drop 0) _ r (fun _ h => List.mem_of_mem_drop h) ((zr_180_0 lay σ r0 i1 i2).trans h) hg)
/-! SubgroupWriterModel.tells(II)I -/
theorem zs_181 : zm_srt zp_181 = true := by decide +kernel
noncomputable def zb_181_0 (lay : zm_Lay) (σ : zm_Sig) (r0 : Nat) (i1 : Int32) (i2 : Int32) : Option (zm_St ⊕ zm_Out) :=
  (zm_is lay r0 10).bind fun _ => (zm_fw σ r0 26 0 (.int i1)).bind fun s1 =>
  some (.inr (some (.int i2), lay, s1))
set_option maxRecDepth 100000 in
theorem zr_181_0 (lay : zm_Lay) (σ : zm_Sig) (r0 : Nat) (i1 : Int32) (i2 : Int32) : zm_blk zM zp_181 (some .int) 0 0 zc_181 6 (zp_181.drop 0) (0, [(0, .ref r0), (1, .int i1), (2, .int i2)], [], lay, σ, 0, 0) = zb_181_0 lay σ r0 i1 i2 := rfl
theorem ze_181 {lay : zm_Lay} {σ : zm_Sig} {r0 : Nat} {i1 : Int32} {i2 : Int32} {out : zm_Out} {r : zm_St ⊕ zm_Out} (h : zb_181_0 lay σ r0 i1 i2 = some r) (hg : match r with | .inl x => zm_go zp_P 181 x out | .inr o => o = out) : zM 181 [.ref r0, .int i1, .int i2] lay σ = some out :=
  zm_mean_go (M := zd_181) rfl (Nat.le_of_ble_eq_true rfl) (zm_blk_go (M := zd_181) rfl zs_181 6 (zp_181.drop 0) _ r (fun _ h => List.mem_of_mem_drop h) ((zr_181_0 lay σ r0 i1 i2).trans h) hg)
/-! SubgroupWriterModel.at(II)I -/
theorem zs_182 : zm_srt zp_182 = true := by decide +kernel
noncomputable def zb_182_0 (lay : zm_Lay) (σ : zm_Sig) (r0 : Nat) (i1 : Int32) (i2 : Int32) : Option (zm_St ⊕ zm_Out) :=
  (zm_ai (zM 175 [.int i1] lay σ)).bind fun q1 =>
  if ¬ q1.1 = 0 then ((zm_is q1.2.1 r0 10).bind fun _ => (zm_ai (zM 180 [.ref r0, .int i1, .int i2] q1.2.1 q1.2.2)).bind fun q2 =>
   if q2.1 = 0 then ((zm_is q2.2.1 r0 10).bind fun _ =>
    zm_opt (q2.2.2.2.2 r0 1) (fun q3 =>
    (zm_gI q2.2.1 q2.2.2 q3 ((((nI 40) : Int32) * i1) + i2)).bind fun v4 =>
    (zm_is q2.2.1 r0 10).bind fun _ => (zm_ai (zM 181 [.ref r0, .int v4, .int 1] q2.2.1 q2.2.2)).bind fun q5 =>
    some (.inr (some (.int q5.1), q5.2.1, q5.2.2))) (none))
   else ((zm_is q2.2.1 r0 10).bind fun _ => (zm_ai (zM 177 [.ref r0, .int q2.1] q2.2.1 q2.2.2)).bind fun q6 =>
    some (.inr (some (.int q6.1), q6.2.1, q6.2.2))))
  else (some (.inr (some (.int (-1)), q1.2.1, q1.2.2)))
set_option maxRecDepth 100000 in
theorem zr_182_0 (lay : zm_Lay) (σ : zm_Sig) (r0 : Nat) (i1 : Int32) (i2 : Int32) : zm_blk zM zp_182 (some .int) 0 0 zc_182 29 (zp_182.drop 0) (0, [(0, .ref r0), (1, .int i1), (2, .int i2)], [], lay, σ, 0, 0) = zb_182_0 lay σ r0 i1 i2 := rfl
theorem ze_182 {lay : zm_Lay} {σ : zm_Sig} {r0 : Nat} {i1 : Int32} {i2 : Int32} {out : zm_Out} {r : zm_St ⊕ zm_Out} (h : zb_182_0 lay σ r0 i1 i2 = some r) (hg : match r with | .inl x => zm_go zp_P 182 x out | .inr o => o = out) : zM 182 [.ref r0, .int i1, .int i2] lay σ = some out :=
  zm_mean_go (M := zd_182) rfl (Nat.le_of_ble_eq_true rfl) (zm_blk_go (M := zd_182) rfl zs_182 29 (zp_182.drop 0) _ r (fun _ h => List.mem_of_mem_drop h) ((zr_182_0 lay σ r0 i1 i2).trans h) hg)
/-! SubgroupWriterModel.tear(I)I -/
theorem zs_183 : zm_srt zp_183 = true := by decide +kernel
noncomputable def zb_183_0 (lay : zm_Lay) (σ : zm_Sig) (r0 : Nat) (i1 : Int32) : Option (zm_St ⊕ zm_Out) :=
  (zm_ai (zM 175 [.int i1] lay σ)).bind fun q1 =>
  if ¬ q1.1 = 0 then ((zm_is q1.2.1 r0 10).bind fun _ =>
   zm_opt (q1.2.2.2.2 r0 0) (fun q2 =>
   (zm_gI q1.2.1 q1.2.2 q2 i1).bind fun v3 =>
   if (0 : Int32) ≤ v3 then ((zm_is q1.2.1 r0 10).bind fun _ =>
    zm_opt (q1.2.2.2.2 r0 0) (fun q4 =>
    (zm_sI q1.2.1 q1.2.2 q4 i1 (-1)).bind fun s5 =>
    some (.inr (some (.int 1), q1.2.1, s5))) (none))
   else ((zm_is q1.2.1 r0 10).bind fun _ => (zm_ai (zM 177 [.ref r0, .int 1] q1.2.1 q1.2.2)).bind fun q6 =>
    some (.inr (some (.int q6.1), q6.2.1, q6.2.2)))) (none))
  else (some (.inr (some (.int (-1)), q1.2.1, q1.2.2)))
set_option maxRecDepth 100000 in
theorem zr_183_0 (lay : zm_Lay) (σ : zm_Sig) (r0 : Nat) (i1 : Int32) : zm_blk zM zp_183 (some .int) 0 0 zc_183 22 (zp_183.drop 0) (0, [(0, .ref r0), (1, .int i1)], [], lay, σ, 0, 0) = zb_183_0 lay σ r0 i1 := rfl
theorem ze_183 {lay : zm_Lay} {σ : zm_Sig} {r0 : Nat} {i1 : Int32} {out : zm_Out} {r : zm_St ⊕ zm_Out} (h : zb_183_0 lay σ r0 i1 = some r) (hg : match r with | .inl x => zm_go zp_P 183 x out | .inr o => o = out) : zM 183 [.ref r0, .int i1] lay σ = some out :=
  zm_mean_go (M := zd_183) rfl (Nat.le_of_ble_eq_true rfl) (zm_blk_go (M := zd_183) rfl zs_183 22 (zp_183.drop 0) _ r (fun _ h => List.mem_of_mem_drop h) ((zr_183_0 lay σ r0 i1).trans h) hg)
/-! SubgroupWriterModel.copy(IIIII)I -/
theorem zs_184 : zm_srt zp_184 = true := by decide +kernel
noncomputable def zb_184_0 (lay : zm_Lay) (σ : zm_Sig) (r0 : Nat) (i1 : Int32) (i2 : Int32) (i3 : Int32) (i4 : Int32) (i5 : Int32) : Option (zm_St ⊕ zm_Out) :=
  (zm_ai (zM 175 [.int i1] lay σ)).bind fun q1 =>
  if q1.1 = 0 then (some (.inr (some (.int (-1)), q1.2.1, q1.2.2)))
  else ((zm_ai (zM 175 [.int i3] q1.2.1 q1.2.2)).bind fun q2 =>
   if ¬ q2.1 = 0 then (if (0 : Int32) ≤ i5 then ((zm_is q2.2.1 r0 10).bind fun _ =>
     zm_opt (q2.2.2.2.2 r0 0) (fun q3 =>
     (zm_gI q2.2.1 q2.2.2 q3 i1).bind fun v4 =>
     if v4 < 0 then ((zm_is q2.2.1 r0 10).bind fun _ => (zm_ai (zM 177 [.ref r0, .int 1] q2.2.1 q2.2.2)).bind fun q5 =>
      some (.inr (some (.int q5.1), q5.2.1, q5.2.2)))
     else ((zm_is q2.2.1 r0 10).bind fun _ =>
      zm_opt (q2.2.2.2.2 r0 0) (fun q6 =>
      (zm_gI q2.2.1 q2.2.2 q6 i3).bind fun v7 =>
      if (0 : Int32) ≤ v7 then (if i2 < 0 then ((zm_is q2.2.1 r0 10).bind fun _ => (zm_ai (zM 177 [.ref r0, .int (nI 2)] q2.2.1 q2.2.2)).bind fun q8 =>
        some (.inr (some (.int q8.1), q8.2.1, q8.2.2)))
       else (if i4 < 0 then ((zm_is q2.2.1 r0 10).bind fun _ => (zm_ai (zM 177 [.ref r0, .int (nI 2)] q2.2.1 q2.2.2)).bind fun q9 =>
         some (.inr (some (.int q9.1), q9.2.1, q9.2.2)))
        else (if ((nI 40) : Int32) < i5 then ((zm_is q2.2.1 r0 10).bind fun _ => (zm_ai (zM 177 [.ref r0, .int (nI 2)] q2.2.1 q2.2.2)).bind fun q10 =>
          some (.inr (some (.int q10.1), q10.2.1, q10.2.2)))
         else ((zm_is q2.2.1 r0 10).bind fun _ =>
          zm_opt (q2.2.2.2.2 r0 0) (fun q11 =>
          (zm_gI q2.2.1 q2.2.2 q11 i1).bind fun v12 =>
          if (v12 - i5) < i2 then ((zm_is q2.2.1 r0 10).bind fun _ => (zm_ai (zM 177 [.ref r0, .int (nI 2)] q2.2.1 q2.2.2)).bind fun q13 =>
           some (.inr (some (.int q13.1), q13.2.1, q13.2.2)))
          else ((zm_is q2.2.1 r0 10).bind fun _ =>
           zm_opt (q2.2.2.2.2 r0 0) (fun q14 =>
           (zm_gI q2.2.1 q2.2.2 q14 i3).bind fun v15 =>
           if i4 ≤ (v15 - i5) then (if i4 ≤ i2 then (some (.inl (116, [(0, .ref r0), (1, .int i1), (2, .int i2), (3, .int i3), (4, .int i4), (5, .int i5), (6, .int 0), (7, .int 0)], [], q2.2.1, q2.2.2, 0, 0)))
            else (some (.inl (116, [(0, .ref r0), (1, .int i1), (2, .int i2), (3, .int i3), (4, .int i4), (5, .int i5), (6, .int 1), (7, .int 0)], [], q2.2.1, q2.2.2, 0, 0))))
           else ((zm_is q2.2.1 r0 10).bind fun _ => (zm_ai (zM 177 [.ref r0, .int (nI 2)] q2.2.1 q2.2.2)).bind fun q16 =>
            some (.inr (some (.int q16.1), q16.2.1, q16.2.2)))) (none))) (none)))))
      else ((zm_is q2.2.1 r0 10).bind fun _ => (zm_ai (zM 177 [.ref r0, .int 1] q2.2.1 q2.2.2)).bind fun q17 =>
       some (.inr (some (.int q17.1), q17.2.1, q17.2.2)))) (none))) (none))
    else ((zm_is q2.2.1 r0 10).bind fun _ => (zm_ai (zM 177 [.ref r0, .int (nI 5)] q2.2.1 q2.2.2)).bind fun q18 =>
     some (.inr (some (.int q18.1), q18.2.1, q18.2.2))))
   else (some (.inr (some (.int (-1)), q2.2.1, q2.2.2))))
set_option maxRecDepth 100000 in
theorem zr_184_0 (lay : zm_Lay) (σ : zm_Sig) (r0 : Nat) (i1 : Int32) (i2 : Int32) (i3 : Int32) (i4 : Int32) (i5 : Int32) : zm_blk zM zp_184 (some .int) 0 0 zc_184 102 (zp_184.drop 0) (0, [(0, .ref r0), (1, .int i1), (2, .int i2), (3, .int i3), (4, .int i4), (5, .int i5)], [], lay, σ, 0, 0) = zb_184_0 lay σ r0 i1 i2 i3 i4 i5 := rfl
theorem ze_184 {lay : zm_Lay} {σ : zm_Sig} {r0 : Nat} {i1 : Int32} {i2 : Int32} {i3 : Int32} {i4 : Int32} {i5 : Int32} {out : zm_Out} {r : zm_St ⊕ zm_Out} (h : zb_184_0 lay σ r0 i1 i2 i3 i4 i5 = some r) (hg : match r with | .inl x => zm_go zp_P 184 x out | .inr o => o = out) : zM 184 [.ref r0, .int i1, .int i2, .int i3, .int i4, .int i5] lay σ = some out :=
  zm_mean_go (M := zd_184) rfl (Nat.le_of_ble_eq_true rfl) (zm_blk_go (M := zd_184) rfl zs_184 102 (zp_184.drop 0) _ r (fun _ h => List.mem_of_mem_drop h) ((zr_184_0 lay σ r0 i1 i2 i3 i4 i5).trans h) hg)
noncomputable def zb_184_116 (lay : zm_Lay) (σ : zm_Sig) (r0 : Nat) (i1 : Int32) (i2 : Int32) (i3 : Int32) (i4 : Int32) (i5 : Int32) (i6 : Int32) (i7 : Int32) : Option (zm_St ⊕ zm_Out) :=
  if i5 ≤ i7 then (some (.inr (some (.int 1), lay, σ)))
  else (if i6 = 0 then ((zm_is lay r0 10).bind fun _ =>
    zm_opt (σ.2.2 r0 1) (fun q1 =>
    (zm_is lay r0 10).bind fun _ =>
    zm_opt (σ.2.2 r0 1) (fun q2 =>
    (zm_gI lay σ q2 (((((nI 40) : Int32) * i1) + i2) + i7)).bind fun v3 =>
    (zm_sI lay σ q1 (((((nI 40) : Int32) * i3) + i4) + i7) v3).bind fun s4 =>
    some (.inl (116, [(0, .ref r0), (1, .int i1), (2, .int i2), (3, .int i3), (4, .int i4), (5, .int i5), (6, .int i6), (7, .int (i7 + 1))], [], lay, s4, 0, 0))) (none)) ((zm_is lay r0 10).bind fun _ =>
    zm_opt (σ.2.2 r0 1) (fun q5 =>
    (zm_gI lay σ q5 (((((nI 40) : Int32) * i1) + i2) + i7)).bind fun v6 =>
    none) (none)))
   else ((zm_is lay r0 10).bind fun _ =>
    zm_opt (σ.2.2 r0 1) (fun q7 =>
    (zm_is lay r0 10).bind fun _ =>
    zm_opt (σ.2.2 r0 1) (fun q8 =>
    (zm_gI lay σ q8 (((((nI 40) : Int32) * i1) + i2) + ((i5 - 1) - i7))).bind fun v9 =>
    (zm_sI lay σ q7 (((((nI 40) : Int32) * i3) + i4) + ((i5 - 1) - i7)) v9).bind fun s10 =>
    some (.inl (116, [(0, .ref r0), (1, .int i1), (2, .int i2), (3, .int i3), (4, .int i4), (5, .int i5), (6, .int i6), (7, .int (i7 + 1))], [], lay, s10, 0, 0))) (none)) ((zm_is lay r0 10).bind fun _ =>
    zm_opt (σ.2.2 r0 1) (fun q11 =>
    (zm_gI lay σ q11 (((((nI 40) : Int32) * i1) + i2) + ((i5 - 1) - i7))).bind fun v12 =>
    none) (none))))
set_option maxRecDepth 100000 in
theorem zr_184_116 (lay : zm_Lay) (σ : zm_Sig) (r0 : Nat) (i1 : Int32) (i2 : Int32) (i3 : Int32) (i4 : Int32) (i5 : Int32) (i6 : Int32) (i7 : Int32) : zm_blk zM zp_184 (some .int) 0 0 zc_184 102 (zp_184.drop 64) (116, [(0, .ref r0), (1, .int i1), (2, .int i2), (3, .int i3), (4, .int i4), (5, .int i5), (6, .int i6), (7, .int i7)], [], lay, σ, 0, 0) = zb_184_116 lay σ r0 i1 i2 i3 i4 i5 i6 i7 := rfl
theorem zg_184_116 {lay : zm_Lay} {σ : zm_Sig} {r0 : Nat} {i1 : Int32} {i2 : Int32} {i3 : Int32} {i4 : Int32} {i5 : Int32} {i6 : Int32} {i7 : Int32} {out : zm_Out} {r : zm_St ⊕ zm_Out} (h : zb_184_116 lay σ r0 i1 i2 i3 i4 i5 i6 i7 = some r) (hg : match r with | .inl x => zm_go zp_P 184 x out | .inr o => o = out) : zm_go zp_P 184 (116, [(0, .ref r0), (1, .int i1), (2, .int i2), (3, .int i3), (4, .int i4), (5, .int i5), (6, .int i6), (7, .int i7)], [], lay, σ, 0, 0) out :=
  zm_blk_go (M := zd_184) rfl zs_184 102 (zp_184.drop 64) _ r (fun _ h => List.mem_of_mem_drop h) ((zr_184_116 lay σ r0 i1 i2 i3 i4 i5 i6 i7).trans h) hg
/-! SubgroupWriterModel.mean(I)I -/
theorem zs_185 : zm_srt zp_185 = true := by decide +kernel
noncomputable def zb_185_0 (lay : zm_Lay) (σ : zm_Sig) (r0 : Nat) (i1 : Int32) : Option (zm_St ⊕ zm_Out) :=
  (zm_ai (zM 175 [.int i1] lay σ)).bind fun q1 =>
  if ¬ q1.1 = 0 then ((zm_is q1.2.1 r0 10).bind fun _ =>
   zm_opt (q1.2.2.2.2 r0 0) (fun q2 =>
   (zm_gI q1.2.1 q1.2.2 q2 i1).bind fun v3 =>
   if (0 : Int32) ≤ v3 then ((zm_is q1.2.1 r0 10).bind fun _ =>
    zm_opt (q1.2.2.2.2 r0 0) (fun q4 =>
    (zm_gI q1.2.1 q1.2.2 q4 i1).bind fun v5 =>
    if ¬ v5 = 0 then (some (.inl (44, [(0, .ref r0), (1, .int i1), (2, .long (Int64.ofNat 0)), (4, .int 0)], [], q1.2.1, q1.2.2, 0, 0)))
    else ((zm_is q1.2.1 r0 10).bind fun _ => (zm_ai (zM 177 [.ref r0, .int (nI 4)] q1.2.1 q1.2.2)).bind fun q6 =>
     some (.inr (some (.int q6.1), q6.2.1, q6.2.2)))) (none))
   else ((zm_is q1.2.1 r0 10).bind fun _ => (zm_ai (zM 177 [.ref r0, .int 1] q1.2.1 q1.2.2)).bind fun q7 =>
    some (.inr (some (.int q7.1), q7.2.1, q7.2.2)))) (none))
  else (some (.inr (some (.int (-1)), q1.2.1, q1.2.2)))
set_option maxRecDepth 100000 in
theorem zr_185_0 (lay : zm_Lay) (σ : zm_Sig) (r0 : Nat) (i1 : Int32) : zm_blk zM zp_185 (some .int) 0 0 zc_185 60 (zp_185.drop 0) (0, [(0, .ref r0), (1, .int i1)], [], lay, σ, 0, 0) = zb_185_0 lay σ r0 i1 := rfl
theorem ze_185 {lay : zm_Lay} {σ : zm_Sig} {r0 : Nat} {i1 : Int32} {out : zm_Out} {r : zm_St ⊕ zm_Out} (h : zb_185_0 lay σ r0 i1 = some r) (hg : match r with | .inl x => zm_go zp_P 185 x out | .inr o => o = out) : zM 185 [.ref r0, .int i1] lay σ = some out :=
  zm_mean_go (M := zd_185) rfl (Nat.le_of_ble_eq_true rfl) (zm_blk_go (M := zd_185) rfl zs_185 60 (zp_185.drop 0) _ r (fun _ h => List.mem_of_mem_drop h) ((zr_185_0 lay σ r0 i1).trans h) hg)
noncomputable def zb_185_44 (lay : zm_Lay) (σ : zm_Sig) (r0 : Nat) (i1 : Int32) (l2 : Int64) (i4 : Int32) : Option (zm_St ⊕ zm_Out) :=
  (zm_is lay r0 10).bind fun _ =>
  zm_opt (σ.2.2 r0 0) (fun q1 =>
  (zm_gI lay σ q1 i1).bind fun v2 =>
  if v2 ≤ i4 then ((zm_is lay r0 10).bind fun _ =>
   zm_opt (σ.2.2 r0 0) (fun q3 =>
   (zm_gI lay σ q3 i1).bind fun v4 =>
   if (v4 : Int32).toInt64 = 0 then none
   else ((zm_is lay r0 10).bind fun _ => (zm_ai (zM 181 [.ref r0, .int ((l2 / (v4 : Int32).toInt64) : Int64).toInt32, .int 1] lay σ)).bind fun q5 =>
   some (.inr (some (.int q5.1), q5.2.1, q5.2.2)))) (none))
  else ((zm_is lay r0 10).bind fun _ =>
   zm_opt (σ.2.2 r0 1) (fun q6 =>
   (zm_gI lay σ q6 ((((nI 40) : Int32) * i1) + i4)).bind fun v7 =>
   some (.inl (44, [(0, .ref r0), (1, .int i1), (2, .long (l2 + (v7 : Int32).toInt64)), (4, .int (i4 + 1))], [], lay, σ, 0, 0))) (none))) (none)
set_option maxRecDepth 100000 in
theorem zr_185_44 (lay : zm_Lay) (σ : zm_Sig) (r0 : Nat) (i1 : Int32) (l2 : Int64) (i4 : Int32) : zm_blk zM zp_185 (some .int) 0 0 zc_185 60 (zp_185.drop 27) (44, [(0, .ref r0), (1, .int i1), (2, .long l2), (4, .int i4)], [], lay, σ, 0, 0) = zb_185_44 lay σ r0 i1 l2 i4 := rfl
theorem zg_185_44 {lay : zm_Lay} {σ : zm_Sig} {r0 : Nat} {i1 : Int32} {l2 : Int64} {i4 : Int32} {out : zm_Out} {r : zm_St ⊕ zm_Out} (h : zb_185_44 lay σ r0 i1 l2 i4 = some r) (hg : match r with | .inl x => zm_go zp_P 185 x out | .inr o => o = out) : zm_go zp_P 185 (44, [(0, .ref r0), (1, .int i1), (2, .long l2), (4, .int i4)], [], lay, σ, 0, 0) out :=
  zm_blk_go (M := zd_185) rfl zs_185 60 (zp_185.drop 27) _ r (fun _ h => List.mem_of_mem_drop h) ((zr_185_44 lay σ r0 i1 l2 i4).trans h) hg
/-! SubgroupWriterModel.text(II)I -/
theorem zs_186 : zm_srt zp_186 = true := by decide +kernel
noncomputable def zb_186_0 (lay : zm_Lay) (σ : zm_Sig) (r0 : Nat) (i1 : Int32) (i2 : Int32) : Option (zm_St ⊕ zm_Out) :=
  (zm_ai (zM 187 [.int i1] lay σ)).bind fun q1 =>
  if q1.1 = 0 then (some (.inr (some (.int (-1)), q1.2.1, q1.2.2)))
  else (if i2 ≤ (nI 60) then (if (0 : Int32) ≤ i2 then ((zm_is q1.2.1 r0 10).bind fun _ =>
     zm_opt (q1.2.2.2.2 r0 2) (fun q2 =>
     (zm_sI q1.2.1 q1.2.2 q2 i1 i2).bind fun s3 =>
     some (.inl (34, [(0, .ref r0), (1, .int i1), (2, .int i2), (3, .int 0)], [], q1.2.1, s3, 0, 0))) (none))
    else ((zm_is q1.2.1 r0 10).bind fun _ => (zm_ai (zM 177 [.ref r0, .int (nI 5)] q1.2.1 q1.2.2)).bind fun q4 =>
     some (.inr (some (.int q4.1), q4.2.1, q4.2.2))))
   else (some (.inr (some (.int (-1)), q1.2.1, q1.2.2))))
set_option maxRecDepth 100000 in
theorem zr_186_0 (lay : zm_Lay) (σ : zm_Sig) (r0 : Nat) (i1 : Int32) (i2 : Int32) : zm_blk zM zp_186 (some .int) 0 0 zc_186 38 (zp_186.drop 0) (0, [(0, .ref r0), (1, .int i1), (2, .int i2)], [], lay, σ, 0, 0) = zb_186_0 lay σ r0 i1 i2 := rfl
theorem ze_186 {lay : zm_Lay} {σ : zm_Sig} {r0 : Nat} {i1 : Int32} {i2 : Int32} {out : zm_Out} {r : zm_St ⊕ zm_Out} (h : zb_186_0 lay σ r0 i1 i2 = some r) (hg : match r with | .inl x => zm_go zp_P 186 x out | .inr o => o = out) : zM 186 [.ref r0, .int i1, .int i2] lay σ = some out :=
  zm_mean_go (M := zd_186) rfl (Nat.le_of_ble_eq_true rfl) (zm_blk_go (M := zd_186) rfl zs_186 38 (zp_186.drop 0) _ r (fun _ h => List.mem_of_mem_drop h) ((zr_186_0 lay σ r0 i1 i2).trans h) hg)
noncomputable def zb_186_34 (lay : zm_Lay) (σ : zm_Sig) (r0 : Nat) (i1 : Int32) (i2 : Int32) (i3 : Int32) : Option (zm_St ⊕ zm_Out) :=
  if i2 ≤ i3 then (some (.inr (some (.int i2), lay, σ)))
  else ((zm_is lay r0 10).bind fun _ =>
   zm_opt (σ.2.2 r0 3) (fun q1 =>
   (zm_sI lay σ q1 ((((nI 60) : Int32) * i1) + i3) (nI 32)).bind fun s2 =>
   some (.inl (34, [(0, .ref r0), (1, .int i1), (2, .int i2), (3, .int (i3 + 1))], [], lay, s2, 0, 0))) (none))
set_option maxRecDepth 100000 in
theorem zr_186_34 (lay : zm_Lay) (σ : zm_Sig) (r0 : Nat) (i1 : Int32) (i2 : Int32) (i3 : Int32) : zm_blk zM zp_186 (some .int) 0 0 zc_186 38 (zp_186.drop 21) (34, [(0, .ref r0), (1, .int i1), (2, .int i2), (3, .int i3)], [], lay, σ, 0, 0) = zb_186_34 lay σ r0 i1 i2 i3 := rfl
theorem zg_186_34 {lay : zm_Lay} {σ : zm_Sig} {r0 : Nat} {i1 : Int32} {i2 : Int32} {i3 : Int32} {out : zm_Out} {r : zm_St ⊕ zm_Out} (h : zb_186_34 lay σ r0 i1 i2 i3 = some r) (hg : match r with | .inl x => zm_go zp_P 186 x out | .inr o => o = out) : zm_go zp_P 186 (34, [(0, .ref r0), (1, .int i1), (2, .int i2), (3, .int i3)], [], lay, σ, 0, 0) out :=
  zm_blk_go (M := zd_186) rfl zs_186 38 (zp_186.drop 21) _ r (fun _ h => List.mem_of_mem_drop h) ((zr_186_34 lay σ r0 i1 i2 i3).trans h) hg
/-! SubgroupWriterModel.isText(I)Z -/
theorem zs_187 : zm_srt zp_187 = true := by decide +kernel
noncomputable def zb_187_0 (lay : zm_Lay) (σ : zm_Sig) (i0 : Int32) : Option (zm_St ⊕ zm_Out) :=
  (zm_ai (zM 176 [.int i0, .int 0, .int (nI 3)] lay σ)).bind fun q1 =>
  if q1.1 = 0 ∨ q1.1 = 1 then some (.inr (some (.int q1.1), q1.2.1, q1.2.2)) else none
set_option maxRecDepth 100000 in
theorem zr_187_0 (lay : zm_Lay) (σ : zm_Sig) (i0 : Int32) : zm_blk zM zp_187 (some .boolean) 0 0 zc_187 6 (zp_187.drop 0) (0, [(0, .int i0)], [], lay, σ, 0, 0) = zb_187_0 lay σ i0 := rfl
theorem ze_187 {lay : zm_Lay} {σ : zm_Sig} {i0 : Int32} {out : zm_Out} {r : zm_St ⊕ zm_Out} (h : zb_187_0 lay σ i0 = some r) (hg : match r with | .inl x => zm_go zp_P 187 x out | .inr o => o = out) : zM 187 [.int i0] lay σ = some out :=
  zm_mean_go (M := zd_187) rfl (Nat.le_of_ble_eq_true rfl) (zm_blk_go (M := zd_187) rfl zs_187 6 (zp_187.drop 0) _ r (fun _ h => List.mem_of_mem_drop h) ((zr_187_0 lay σ i0).trans h) hg)
/-! SubgroupWriterModel.put(III)I -/
theorem zs_188 : zm_srt zp_188 = true := by decide +kernel
noncomputable def zb_188_0 (lay : zm_Lay) (σ : zm_Sig) (r0 : Nat) (i1 : Int32) (i2 : Int32) (i3 : Int32) : Option (zm_St ⊕ zm_Out) :=
  (zm_ai (zM 187 [.int i1] lay σ)).bind fun q1 =>
  if ¬ q1.1 = 0 then ((zm_is q1.2.1 r0 10).bind fun _ =>
   zm_opt (q1.2.2.2.2 r0 2) (fun q2 =>
   (zm_gI q1.2.1 q1.2.2 q2 i1).bind fun v3 =>
   if (0 : Int32) ≤ v3 then ((zm_is q1.2.1 r0 10).bind fun _ =>
    zm_opt (q1.2.2.2.2 r0 2) (fun q4 =>
    (zm_gI q1.2.1 q1.2.2 q4 i1).bind fun v5 =>
    (zm_ai (zM 176 [.int i2, .int 0, .int (v5 - 1)] q1.2.1 q1.2.2)).bind fun q6 =>
    if ¬ q6.1 = 0 then ((zm_is q6.2.1 r0 10).bind fun _ =>
     zm_opt (q6.2.2.2.2 r0 3) (fun q7 =>
     (zm_gI q6.2.1 q6.2.2 q7 ((((nI 60) : Int32) * i1) + i2)).bind fun v8 =>
     (zm_is q6.2.1 r0 10).bind fun _ =>
     zm_opt (q6.2.2.2.2 r0 3) (fun q9 =>
     (zm_sI q6.2.1 q6.2.2 q9 ((((nI 60) : Int32) * i1) + i2) ((i3 <<< (((nI 24) : Int32) &&& 31)) >>> (((nI 24) : Int32) &&& 31))).bind fun s10 =>
     some (.inr (some (.int (v8 + (nI 1000))), q6.2.1, s10))) (none)) (none))
    else ((zm_is q6.2.1 r0 10).bind fun _ => (zm_ai (zM 177 [.ref r0, .int (nI 2)] q6.2.1 q6.2.2)).bind fun q11 =>
     some (.inr (some (.int q11.1), q11.2.1, q11.2.2)))) (none))
   else ((zm_is q1.2.1 r0 10).bind fun _ => (zm_ai (zM 177 [.ref r0, .int 1] q1.2.1 q1.2.2)).bind fun q12 =>
    some (.inr (some (.int q12.1), q12.2.1, q12.2.2)))) (none))
  else (some (.inr (some (.int (-1)), q1.2.1, q1.2.2)))
set_option maxRecDepth 100000 in
theorem zr_188_0 (lay : zm_Lay) (σ : zm_Sig) (r0 : Nat) (i1 : Int32) (i2 : Int32) (i3 : Int32) : zm_blk zM zp_188 (some .int) 0 0 zc_188 55 (zp_188.drop 0) (0, [(0, .ref r0), (1, .int i1), (2, .int i2), (3, .int i3)], [], lay, σ, 0, 0) = zb_188_0 lay σ r0 i1 i2 i3 := rfl
theorem ze_188 {lay : zm_Lay} {σ : zm_Sig} {r0 : Nat} {i1 : Int32} {i2 : Int32} {i3 : Int32} {out : zm_Out} {r : zm_St ⊕ zm_Out} (h : zb_188_0 lay σ r0 i1 i2 i3 = some r) (hg : match r with | .inl x => zm_go zp_P 188 x out | .inr o => o = out) : zM 188 [.ref r0, .int i1, .int i2, .int i3] lay σ = some out :=
  zm_mean_go (M := zd_188) rfl (Nat.le_of_ble_eq_true rfl) (zm_blk_go (M := zd_188) rfl zs_188 55 (zp_188.drop 0) _ r (fun _ h => List.mem_of_mem_drop h) ((zr_188_0 lay σ r0 i1 i2 i3).trans h) hg)
/-! SubgroupWriterModel.fault(I)I -/
theorem zs_189 : zm_srt zp_189 = true := by decide +kernel
noncomputable def zb_189_0 (lay : zm_Lay) (σ : zm_Sig) (r0 : Nat) (i1 : Int32) : Option (zm_St ⊕ zm_Out) :=
  (zm_ai (zM 187 [.int i1] lay σ)).bind fun q1 =>
  if ¬ q1.1 = 0 then ((zm_is q1.2.1 r0 10).bind fun _ =>
   zm_opt (q1.2.2.2.2 r0 2) (fun q2 =>
   (zm_gI q1.2.1 q1.2.2 q2 i1).bind fun v3 =>
   if (0 : Int32) ≤ v3 then ((zm_is q1.2.1 r0 10).bind fun _ => (zm_ai (zM 190 [.ref r0, .int i1] q1.2.1 q1.2.2)).bind fun q4 =>
    some (.inr (some (.int q4.1), q4.2.1, q4.2.2)))
   else ((zm_is q1.2.1 r0 10).bind fun _ => (zm_ai (zM 177 [.ref r0, .int 1] q1.2.1 q1.2.2)).bind fun q5 =>
    some (.inr (some (.int q5.1), q5.2.1, q5.2.2)))) (none))
  else (some (.inr (some (.int (-1)), q1.2.1, q1.2.2)))
set_option maxRecDepth 100000 in
theorem zr_189_0 (lay : zm_Lay) (σ : zm_Sig) (r0 : Nat) (i1 : Int32) : zm_blk zM zp_189 (some .int) 0 0 zc_189 19 (zp_189.drop 0) (0, [(0, .ref r0), (1, .int i1)], [], lay, σ, 0, 0) = zb_189_0 lay σ r0 i1 := rfl
theorem ze_189 {lay : zm_Lay} {σ : zm_Sig} {r0 : Nat} {i1 : Int32} {out : zm_Out} {r : zm_St ⊕ zm_Out} (h : zb_189_0 lay σ r0 i1 = some r) (hg : match r with | .inl x => zm_go zp_P 189 x out | .inr o => o = out) : zM 189 [.ref r0, .int i1] lay σ = some out :=
  zm_mean_go (M := zd_189) rfl (Nat.le_of_ble_eq_true rfl) (zm_blk_go (M := zd_189) rfl zs_189 19 (zp_189.drop 0) _ r (fun _ h => List.mem_of_mem_drop h) ((zr_189_0 lay σ r0 i1).trans h) hg)
/-! SubgroupWriterModel.reading(I)I -/
theorem zs_190 : zm_srt zp_190 = true := by decide +kernel
noncomputable def zb_190_0 (lay : zm_Lay) (σ : zm_Sig) (r0 : Nat) (i1 : Int32) : Option (zm_St ⊕ zm_Out) :=
  (zm_is lay r0 10).bind fun _ => (zm_fw σ r0 31 0 (.int 0)).bind fun s1 =>
  (zm_is lay r0 10).bind fun _ => (zm_fw s1 r0 32 0 (.int 0)).bind fun s2 =>
  (zm_is lay r0 10).bind fun _ => (zm_fw s2 r0 33 0 (.int 0)).bind fun s3 =>
  (zm_is lay r0 10).bind fun _ => (zm_fw s3 r0 34 0 (.int 0)).bind fun s4 =>
  (zm_is lay r0 10).bind fun _ => (zm_av (zM 191 [.ref r0, .int i1] lay s4)).bind fun q5 =>
  some (.inl (25, [(0, .ref r0), (1, .int i1)], [], q5.1, q5.2, 0, 0))
set_option maxRecDepth 100000 in
theorem zr_190_0 (lay : zm_Lay) (σ : zm_Sig) (r0 : Nat) (i1 : Int32) : zm_blk zM zp_190 (some .int) 0 0 zc_190 102 (zp_190.drop 0) (0, [(0, .ref r0), (1, .int i1)], [], lay, σ, 0, 0) = zb_190_0 lay σ r0 i1 := rfl
theorem ze_190 {lay : zm_Lay} {σ : zm_Sig} {r0 : Nat} {i1 : Int32} {out : zm_Out} {r : zm_St ⊕ zm_Out} (h : zb_190_0 lay σ r0 i1 = some r) (hg : match r with | .inl x => zm_go zp_P 190 x out | .inr o => o = out) : zM 190 [.ref r0, .int i1] lay σ = some out :=
  zm_mean_go (M := zd_190) rfl (Nat.le_of_ble_eq_true rfl) (zm_blk_go (M := zd_190) rfl zs_190 102 (zp_190.drop 0) _ r (fun _ h => List.mem_of_mem_drop h) ((zr_190_0 lay σ r0 i1).trans h) hg)
noncomputable def zb_190_25 (lay : zm_Lay) (σ : zm_Sig) (r0 : Nat) (i1 : Int32) : Option (zm_St ⊕ zm_Out) :=
  (zm_is lay r0 10).bind fun _ =>
  (zm_is lay r0 10).bind fun _ =>
  zm_opt (σ.2.2 r0 2) (fun q1 =>
  (zm_gI lay σ q1 i1).bind fun v2 =>
  if v2 ≤ (σ.1 r0 31) then ((zm_is lay r0 10).bind fun _ =>
   if (σ.1 r0 33) = 0 then ((zm_is lay r0 10).bind fun _ =>
    zm_opt (σ.2.2 r0 2) (fun q3 =>
    (zm_gI lay σ q3 i1).bind fun v4 =>
    some (.inr (some (.int v4), lay, σ))) (none))
   else ((zm_is lay r0 10).bind fun _ => (zm_ai (zM 198 [.ref r0] lay σ)).bind fun q5 =>
    if ¬ q5.1 = 0 then (some (.inr (some (.int (-9)), q5.2.1, q5.2.2)))
    else ((zm_is q5.2.1 r0 10).bind fun _ =>
     zm_opt (q5.2.2.2.2 r0 2) (fun q6 =>
     (zm_gI q5.2.1 q5.2.2 q6 i1).bind fun v7 =>
     some (.inr (some (.int v7), q5.2.1, q5.2.2))) (none))))
  else ((zm_is lay r0 10).bind fun _ => (zm_ai (zM 192 [.ref r0, .int i1] lay σ)).bind fun q8 =>
   (zm_is q8.2.1 r0 10).bind fun _ =>
   if ¬ q8.1 = (((nI 97) : Int32) + (q8.2.2.1 r0 33)) then (if ¬ q8.1 = (nI 61) then ((zm_is q8.2.1 r0 10).bind fun _ =>
       some (.inr (some (.int (q8.2.2.1 r0 31)), q8.2.1, q8.2.2)))
    else ((zm_is q8.2.1 r0 10).bind fun _ =>
     if (q8.2.2.1 r0 33) ≤ 0 then ((zm_is q8.2.1 r0 10).bind fun _ =>
        some (.inr (some (.int (q8.2.2.1 r0 31)), q8.2.1, q8.2.2)))
     else ((zm_is q8.2.1 r0 10).bind fun _ =>
      if ((nI 3) : Int32) ≤ (q8.2.2.1 r0 34) then ((zm_is q8.2.1 r0 10).bind fun _ =>
         some (.inr (some (.int (q8.2.2.1 r0 31)), q8.2.1, q8.2.2)))
      else ((zm_is q8.2.1 r0 10).bind fun _ =>
         (zm_is q8.2.1 r0 10).bind fun _ => (zm_fw q8.2.2 r0 31 0 (.int ((q8.2.2.1 r0 31) + 1))).bind fun s9 =>
         (zm_is q8.2.1 r0 10).bind fun _ => (zm_ai (zM 195 [.ref r0, .int i1] q8.2.1 s9)).bind fun q10 =>
          if ¬ q10.1 = 0 then ((zm_is q10.2.1 r0 10).bind fun _ => (zm_av (zM 191 [.ref r0, .int i1] q10.2.1 q10.2.2)).bind fun q11 =>
           some (.inl (25, [(0, .ref r0), (1, .int i1)], [], q11.1, q11.2, 0, 0)))
          else ((zm_is q10.2.1 r0 10).bind fun _ =>
           some (.inr (some (.int (q10.2.2.1 r0 31)), q10.2.1, q10.2.2)))))))
   else ((zm_is q8.2.1 r0 10).bind fun _ =>
    if ((nI 3) : Int32) ≤ (q8.2.2.1 r0 33) then (if ¬ q8.1 = (nI 61) then ((zm_is q8.2.1 r0 10).bind fun _ =>
        some (.inr (some (.int (q8.2.2.1 r0 31)), q8.2.1, q8.2.2)))
     else ((zm_is q8.2.1 r0 10).bind fun _ =>
      if (q8.2.2.1 r0 33) ≤ 0 then ((zm_is q8.2.1 r0 10).bind fun _ =>
         some (.inr (some (.int (q8.2.2.1 r0 31)), q8.2.1, q8.2.2)))
      else ((zm_is q8.2.1 r0 10).bind fun _ =>
       if ((nI 3) : Int32) ≤ (q8.2.2.1 r0 34) then ((zm_is q8.2.1 r0 10).bind fun _ =>
          some (.inr (some (.int (q8.2.2.1 r0 31)), q8.2.1, q8.2.2)))
       else ((zm_is q8.2.1 r0 10).bind fun _ =>
          (zm_is q8.2.1 r0 10).bind fun _ => (zm_fw q8.2.2 r0 31 0 (.int ((q8.2.2.1 r0 31) + 1))).bind fun s12 =>
          (zm_is q8.2.1 r0 10).bind fun _ => (zm_ai (zM 195 [.ref r0, .int i1] q8.2.1 s12)).bind fun q13 =>
           if ¬ q13.1 = 0 then ((zm_is q13.2.1 r0 10).bind fun _ => (zm_av (zM 191 [.ref r0, .int i1] q13.2.1 q13.2.2)).bind fun q14 =>
            some (.inl (25, [(0, .ref r0), (1, .int i1)], [], q14.1, q14.2, 0, 0)))
           else ((zm_is q13.2.1 r0 10).bind fun _ =>
            some (.inr (some (.int (q13.2.2.1 r0 31)), q13.2.1, q13.2.2)))))))
    else ((zm_is q8.2.1 r0 10).bind fun _ =>
     if ¬ (q8.2.2.1 r0 34) = 0 then (if ¬ q8.1 = (nI 61) then ((zm_is q8.2.1 r0 10).bind fun _ =>
         some (.inr (some (.int (q8.2.2.1 r0 31)), q8.2.1, q8.2.2)))
      else ((zm_is q8.2.1 r0 10).bind fun _ =>
       if (q8.2.2.1 r0 33) ≤ 0 then ((zm_is q8.2.1 r0 10).bind fun _ =>
          some (.inr (some (.int (q8.2.2.1 r0 31)), q8.2.1, q8.2.2)))
       else ((zm_is q8.2.1 r0 10).bind fun _ =>
        if ((nI 3) : Int32) ≤ (q8.2.2.1 r0 34) then ((zm_is q8.2.1 r0 10).bind fun _ =>
           some (.inr (some (.int (q8.2.2.1 r0 31)), q8.2.1, q8.2.2)))
        else ((zm_is q8.2.1 r0 10).bind fun _ =>
           (zm_is q8.2.1 r0 10).bind fun _ => (zm_fw q8.2.2 r0 31 0 (.int ((q8.2.2.1 r0 31) + 1))).bind fun s15 =>
           (zm_is q8.2.1 r0 10).bind fun _ => (zm_ai (zM 195 [.ref r0, .int i1] q8.2.1 s15)).bind fun q16 =>
            if ¬ q16.1 = 0 then ((zm_is q16.2.1 r0 10).bind fun _ => (zm_av (zM 191 [.ref r0, .int i1] q16.2.1 q16.2.2)).bind fun q17 =>
             some (.inl (25, [(0, .ref r0), (1, .int i1)], [], q17.1, q17.2, 0, 0)))
            else ((zm_is q16.2.1 r0 10).bind fun _ =>
             some (.inr (some (.int (q16.2.2.1 r0 31)), q16.2.1, q16.2.2)))))))
     else (if ¬ q8.1 = (nI 61) then ((zm_is q8.2.1 r0 10).bind fun _ =>
        (zm_is q8.2.1 r0 10).bind fun _ => (zm_fw q8.2.2 r0 31 0 (.int ((q8.2.2.1 r0 31) + 1))).bind fun s18 =>
        (zm_is q8.2.1 r0 10).bind fun _ => (zm_ai (zM 193 [.ref r0, .int i1] q8.2.1 s18)).bind fun q19 =>
         if ¬ q19.1 = 0 then ((zm_is q19.2.1 r0 10).bind fun _ => (zm_av (zM 191 [.ref r0, .int i1] q19.2.1 q19.2.2)).bind fun q20 =>
          some (.inl (25, [(0, .ref r0), (1, .int i1)], [], q20.1, q20.2, 0, 0)))
         else ((zm_is q19.2.1 r0 10).bind fun _ =>
          some (.inr (some (.int (q19.2.2.1 r0 31)), q19.2.1, q19.2.2))))
      else ((zm_is q8.2.1 r0 10).bind fun _ =>
       if (q8.2.2.1 r0 33) ≤ 0 then ((zm_is q8.2.1 r0 10).bind fun _ =>
         (zm_is q8.2.1 r0 10).bind fun _ => (zm_fw q8.2.2 r0 31 0 (.int ((q8.2.2.1 r0 31) + 1))).bind fun s21 =>
         (zm_is q8.2.1 r0 10).bind fun _ => (zm_ai (zM 193 [.ref r0, .int i1] q8.2.1 s21)).bind fun q22 =>
          if ¬ q22.1 = 0 then ((zm_is q22.2.1 r0 10).bind fun _ => (zm_av (zM 191 [.ref r0, .int i1] q22.2.1 q22.2.2)).bind fun q23 =>
           some (.inl (25, [(0, .ref r0), (1, .int i1)], [], q23.1, q23.2, 0, 0)))
          else ((zm_is q22.2.1 r0 10).bind fun _ =>
           some (.inr (some (.int (q22.2.2.1 r0 31)), q22.2.1, q22.2.2))))
       else ((zm_is q8.2.1 r0 10).bind fun _ =>
        if ((nI 3) : Int32) ≤ (q8.2.2.1 r0 34) then ((zm_is q8.2.1 r0 10).bind fun _ =>
          (zm_is q8.2.1 r0 10).bind fun _ => (zm_fw q8.2.2 r0 31 0 (.int ((q8.2.2.1 r0 31) + 1))).bind fun s24 =>
          (zm_is q8.2.1 r0 10).bind fun _ => (zm_ai (zM 193 [.ref r0, .int i1] q8.2.1 s24)).bind fun q25 =>
           if ¬ q25.1 = 0 then ((zm_is q25.2.1 r0 10).bind fun _ => (zm_av (zM 191 [.ref r0, .int i1] q25.2.1 q25.2.2)).bind fun q26 =>
            some (.inl (25, [(0, .ref r0), (1, .int i1)], [], q26.1, q26.2, 0, 0)))
           else ((zm_is q25.2.1 r0 10).bind fun _ =>
            some (.inr (some (.int (q25.2.2.1 r0 31)), q25.2.1, q25.2.2))))
        else ((zm_is q8.2.1 r0 10).bind fun _ =>
          (zm_is q8.2.1 r0 10).bind fun _ => (zm_fw q8.2.2 r0 31 0 (.int ((q8.2.2.1 r0 31) + 1))).bind fun s27 =>
          (zm_is q8.2.1 r0 10).bind fun _ => (zm_ai (zM 193 [.ref r0, .int i1] q8.2.1 s27)).bind fun q28 =>
           if ¬ q28.1 = 0 then ((zm_is q28.2.1 r0 10).bind fun _ => (zm_av (zM 191 [.ref r0, .int i1] q28.2.1 q28.2.2)).bind fun q29 =>
            some (.inl (25, [(0, .ref r0), (1, .int i1)], [], q29.1, q29.2, 0, 0)))
           else ((zm_is q28.2.1 r0 10).bind fun _ =>
            some (.inr (some (.int (q28.2.2.1 r0 31)), q28.2.1, q28.2.2))))))))))) (none)
set_option maxRecDepth 100000 in
theorem zr_190_25 (lay : zm_Lay) (σ : zm_Sig) (r0 : Nat) (i1 : Int32) : zm_blk zM zp_190 (some .int) 0 0 zc_190 102 (zp_190.drop 15) (25, [(0, .ref r0), (1, .int i1)], [], lay, σ, 0, 0) = zb_190_25 lay σ r0 i1 := rfl
theorem zg_190_25 {lay : zm_Lay} {σ : zm_Sig} {r0 : Nat} {i1 : Int32} {out : zm_Out} {r : zm_St ⊕ zm_Out} (h : zb_190_25 lay σ r0 i1 = some r) (hg : match r with | .inl x => zm_go zp_P 190 x out | .inr o => o = out) : zm_go zp_P 190 (25, [(0, .ref r0), (1, .int i1)], [], lay, σ, 0, 0) out :=
  zm_blk_go (M := zd_190) rfl zs_190 102 (zp_190.drop 15) _ r (fun _ h => List.mem_of_mem_drop h) ((zr_190_25 lay σ r0 i1).trans h) hg
/-! SubgroupWriterModel.skips(I)V -/
theorem zs_191 : zm_srt zp_191 = true := by decide +kernel
noncomputable def zb_191_0 (lay : zm_Lay) (σ : zm_Sig) (r0 : Nat) (i1 : Int32) : Option (zm_St ⊕ zm_Out) :=
  (zm_is lay r0 10).bind fun _ => (zm_ai (zM 192 [.ref r0, .int i1] lay σ)).bind fun q1 =>
  if ¬ q1.1 = (nI 32) then (some (.inr (none, q1.2.1, q1.2.2)))
  else ((zm_is q1.2.1 r0 10).bind fun _ =>
   (zm_is q1.2.1 r0 10).bind fun _ => (zm_fw q1.2.2 r0 31 0 (.int ((q1.2.2.1 r0 31) + 1))).bind fun s2 =>
   some (.inl (0, [(0, .ref r0), (1, .int i1)], [], q1.2.1, s2, 0, 0)))
set_option maxRecDepth 100000 in
theorem zr_191_0 (lay : zm_Lay) (σ : zm_Sig) (r0 : Nat) (i1 : Int32) : zm_blk zM zp_191 none 0 0 zc_191 14 (zp_191.drop 0) (0, [(0, .ref r0), (1, .int i1)], [], lay, σ, 0, 0) = zb_191_0 lay σ r0 i1 := rfl
theorem ze_191 {lay : zm_Lay} {σ : zm_Sig} {r0 : Nat} {i1 : Int32} {out : zm_Out} {r : zm_St ⊕ zm_Out} (h : zb_191_0 lay σ r0 i1 = some r) (hg : match r with | .inl x => zm_go zp_P 191 x out | .inr o => o = out) : zM 191 [.ref r0, .int i1] lay σ = some out :=
  zm_mean_go (M := zd_191) rfl (Nat.le_of_ble_eq_true rfl) (zm_blk_go (M := zd_191) rfl zs_191 14 (zp_191.drop 0) _ r (fun _ h => List.mem_of_mem_drop h) ((zr_191_0 lay σ r0 i1).trans h) hg)
theorem zg_191_0 {lay : zm_Lay} {σ : zm_Sig} {r0 : Nat} {i1 : Int32} {out : zm_Out} {r : zm_St ⊕ zm_Out} (h : zb_191_0 lay σ r0 i1 = some r) (hg : match r with | .inl x => zm_go zp_P 191 x out | .inr o => o = out) : zm_go zp_P 191 (0, [(0, .ref r0), (1, .int i1)], [], lay, σ, 0, 0) out :=
  zm_blk_go (M := zd_191) rfl zs_191 14 (zp_191.drop 0) _ r (fun _ h => List.mem_of_mem_drop h) ((zr_191_0 lay σ r0 i1).trans h) hg
/-! SubgroupWriterModel.here(I)I -/
theorem zs_192 : zm_srt zp_192 = true := by decide +kernel
noncomputable def zb_192_0 (lay : zm_Lay) (σ : zm_Sig) (r0 : Nat) (i1 : Int32) : Option (zm_St ⊕ zm_Out) :=
  (zm_is lay r0 10).bind fun _ =>
  (zm_is lay r0 10).bind fun _ =>
  zm_opt (σ.2.2 r0 2) (fun q1 =>
  (zm_gI lay σ q1 i1).bind fun v2 =>
  if v2 ≤ (σ.1 r0 31) then (some (.inr (some (.int (-1000)), lay, σ)))
  else ((zm_is lay r0 10).bind fun _ =>
   zm_opt (σ.2.2 r0 3) (fun q3 =>
   (zm_is lay r0 10).bind fun _ =>
   (zm_gI lay σ q3 ((((nI 60) : Int32) * i1) + (σ.1 r0 31))).bind fun v4 =>
   some (.inr (some (.int v4), lay, σ))) ((zm_is lay r0 10).bind fun _ =>
   none))) (none)
set_option maxRecDepth 100000 in
theorem zr_192_0 (lay : zm_Lay) (σ : zm_Sig) (r0 : Nat) (i1 : Int32) : zm_blk zM zp_192 (some .int) 0 0 zc_192 20 (zp_192.drop 0) (0, [(0, .ref r0), (1, .int i1)], [], lay, σ, 0, 0) = zb_192_0 lay σ r0 i1 := rfl
theorem ze_192 {lay : zm_Lay} {σ : zm_Sig} {r0 : Nat} {i1 : Int32} {out : zm_Out} {r : zm_St ⊕ zm_Out} (h : zb_192_0 lay σ r0 i1 = some r) (hg : match r with | .inl x => zm_go zp_P 192 x out | .inr o => o = out) : zM 192 [.ref r0, .int i1] lay σ = some out :=
  zm_mean_go (M := zd_192) rfl (Nat.le_of_ble_eq_true rfl) (zm_blk_go (M := zd_192) rfl zs_192 20 (zp_192.drop 0) _ r (fun _ h => List.mem_of_mem_drop h) ((zr_192_0 lay σ r0 i1).trans h) hg)
/-! SubgroupWriterModel.readsGenerator(I)Z -/
theorem zs_193 : zm_srt zp_193 = true := by decide +kernel
noncomputable def zb_193_0 (lay : zm_Lay) (σ : zm_Sig) (r0 : Nat) (i1 : Int32) : Option (zm_St ⊕ zm_Out) :=
  (zm_is lay r0 10).bind fun _ =>
  if ¬ (σ.1 r0 33) = 0 then (some (.inl (76, [(0, .ref r0), (1, .int i1), (2, .int (σ.1 r0 33)), (3, .int 0), (4, .int 0)], [], lay, σ, 0, 0)))
  else ((zm_is lay r0 10).bind fun _ =>
   some (.inl (17, [(0, .ref r0), (1, .int i1), (2, .int (σ.1 r0 33)), (3, .int 0), (4, .int (σ.1 r0 31))], [], lay, σ, 0, 0)))
set_option maxRecDepth 100000 in
theorem zr_193_0 (lay : zm_Lay) (σ : zm_Sig) (r0 : Nat) (i1 : Int32) : zm_blk zM zp_193 (some .boolean) 0 0 zc_193 134 (zp_193.drop 0) (0, [(0, .ref r0), (1, .int i1)], [], lay, σ, 0, 0) = zb_193_0 lay σ r0 i1 := rfl
theorem ze_193 {lay : zm_Lay} {σ : zm_Sig} {r0 : Nat} {i1 : Int32} {out : zm_Out} {r : zm_St ⊕ zm_Out} (h : zb_193_0 lay σ r0 i1 = some r) (hg : match r with | .inl x => zm_go zp_P 193 x out | .inr o => o = out) : zM 193 [.ref r0, .int i1] lay σ = some out :=
  zm_mean_go (M := zd_193) rfl (Nat.le_of_ble_eq_true rfl) (zm_blk_go (M := zd_193) rfl zs_193 134 (zp_193.drop 0) _ r (fun _ h => List.mem_of_mem_drop h) ((zr_193_0 lay σ r0 i1).trans h) hg)
noncomputable def zb_193_17 (lay : zm_Lay) (σ : zm_Sig) (r0 : Nat) (i1 : Int32) (i2 : Int32) (i3 : Int32) (i4 : Int32) : Option (zm_St ⊕ zm_Out) :=
  (zm_is lay r0 10).bind fun _ => (zm_ai (zM 192 [.ref r0, .int i1] lay σ)).bind fun q1 =>
  (zm_ai (zM 176 [.int q1.1, .int (nI 48), .int (nI 57)] q1.2.1 q1.2.2)).bind fun q2 =>
  if q2.1 = 0 then ((zm_is q2.2.1 r0 10).bind fun _ =>
   (zm_is q2.2.1 r0 10).bind fun _ => (zm_fw q2.2.2 r0 32 0 (.int ((q2.2.2.1 r0 31) - i4))).bind fun s3 =>
   (zm_is q2.2.1 r0 10).bind fun _ => (zm_fw s3 r0 31 0 (.int i4)).bind fun s4 =>
   some (.inl (76, [(0, .ref r0), (1, .int i1), (2, .int i2), (3, .int i3), (4, .int 0)], [], q2.2.1, s4, 0, 0)))
  else ((zm_is q2.2.1 r0 10).bind fun _ =>
   if ((nI 5) : Int32) ≤ ((q2.2.2.1 r0 31) - i4) then ((zm_is q2.2.1 r0 10).bind fun _ =>
    (zm_is q2.2.1 r0 10).bind fun _ => (zm_fw q2.2.2 r0 32 0 (.int ((q2.2.2.1 r0 31) - i4))).bind fun s5 =>
    (zm_is q2.2.1 r0 10).bind fun _ => (zm_fw s5 r0 31 0 (.int i4)).bind fun s6 =>
    some (.inl (76, [(0, .ref r0), (1, .int i1), (2, .int i2), (3, .int i3), (4, .int 0)], [], q2.2.1, s6, 0, 0)))
   else ((zm_is q2.2.1 r0 10).bind fun _ =>
    (zm_is q2.2.1 r0 10).bind fun _ => (zm_fw q2.2.2 r0 31 0 (.int ((q2.2.2.1 r0 31) + 1))).bind fun s7 =>
    some (.inl (17, [(0, .ref r0), (1, .int i1), (2, .int i2), (3, .int i3), (4, .int i4)], [], q2.2.1, s7, 0, 0))))
set_option maxRecDepth 100000 in
theorem zr_193_17 (lay : zm_Lay) (σ : zm_Sig) (r0 : Nat) (i1 : Int32) (i2 : Int32) (i3 : Int32) (i4 : Int32) : zm_blk zM zp_193 (some .boolean) 0 0 zc_193 134 (zp_193.drop 10) (17, [(0, .ref r0), (1, .int i1), (2, .int i2), (3, .int i3), (4, .int i4)], [], lay, σ, 0, 0) = zb_193_17 lay σ r0 i1 i2 i3 i4 := rfl
theorem zg_193_17 {lay : zm_Lay} {σ : zm_Sig} {r0 : Nat} {i1 : Int32} {i2 : Int32} {i3 : Int32} {i4 : Int32} {out : zm_Out} {r : zm_St ⊕ zm_Out} (h : zb_193_17 lay σ r0 i1 i2 i3 i4 = some r) (hg : match r with | .inl x => zm_go zp_P 193 x out | .inr o => o = out) : zm_go zp_P 193 (17, [(0, .ref r0), (1, .int i1), (2, .int i2), (3, .int i3), (4, .int i4)], [], lay, σ, 0, 0) out :=
  zm_blk_go (M := zd_193) rfl zs_193 134 (zp_193.drop 10) _ r (fun _ h => List.mem_of_mem_drop h) ((zr_193_17 lay σ r0 i1 i2 i3 i4).trans h) hg
noncomputable def zb_193_76 (lay : zm_Lay) (σ : zm_Sig) (r0 : Nat) (i1 : Int32) (i2 : Int32) (i3 : Int32) (i4 : Int32) : Option (zm_St ⊕ zm_Out) :=
  (zm_is lay r0 10).bind fun _ =>
  if i4 < (σ.1 r0 32) then ((zm_is lay r0 10).bind fun _ => (zm_ai (zM 192 [.ref r0, .int i1] lay σ)).bind fun q1 =>
   (zm_is q1.2.1 r0 10).bind fun _ =>
   if ((nI 2) : Int32) ≤ (q1.2.2.1 r0 32) then ((zm_is q1.2.1 r0 10).bind fun _ => (zm_ai (zM 192 [.ref r0, .int i1] q1.2.1 q1.2.2)).bind fun q2 =>
    (zm_ai (zM 176 [.int q2.1, .int (nI 48), .int (nI 57)] q2.2.1 q2.2.2)).bind fun q3 =>
    if q3.1 = 0 then (some (.inr (some (.int 0), q3.2.1, q3.2.2)))
    else ((zm_is q3.2.1 r0 10).bind fun _ =>
      if (q3.2.2.1 r0 32) ≤ (q1.1 - (nI 48)) then (some (.inr (some (.int 0), q3.2.1, q3.2.2)))
      else ((zm_ai (zM 194 [.int i3, .int (q1.1 - (nI 48))] q3.2.1 q3.2.2)).bind fun q4 =>
       if q4.1 = 0 then ((zm_is q4.2.1 r0 10).bind fun _ =>
        zm_opt (q4.2.2.2.2 r0 35) (fun q5 =>
        (zm_sI q4.2.1 q4.2.2 q5 ((((nI 5) : Int32) * i2) + i4) (q1.1 - (nI 48))).bind fun s6 =>
        (zm_is q4.2.1 r0 10).bind fun _ =>
         zm_opt (s6.2.2 r0 36) (fun q7 =>
         (zm_sI q4.2.1 s6 q7 ((((nI 5) : Int32) * i2) + (q1.1 - (nI 48))) i4).bind fun s8 =>
         (zm_is q4.2.1 r0 10).bind fun _ =>
         (zm_is q4.2.1 r0 10).bind fun _ => (zm_fw s8 r0 31 0 (.int ((s8.1 r0 31) + 1))).bind fun s9 =>
         some (.inl (76, [(0, .ref r0), (1, .int i1), (2, .int i2), (3, .int (i3 ||| ((1 : Int32) <<< ((q1.1 - (nI 48)) &&& 31)))), (4, .int (i4 + 1))], [], q4.2.1, s9, 0, 0))) (none)) (none))
       else (some (.inr (some (.int 0), q4.2.1, q4.2.2))))))
   else ((zm_is q1.2.1 r0 10).bind fun _ => (zm_ai (zM 192 [.ref r0, .int i1] q1.2.1 q1.2.2)).bind fun q10 =>
    (zm_ai (zM 176 [.int q10.1, .int (nI 48), .int (nI 57)] q10.2.1 q10.2.2)).bind fun q11 =>
    if q11.1 = 0 then (some (.inr (some (.int 0), q11.2.1, q11.2.2)))
    else ((zm_is q11.2.1 r0 10).bind fun _ =>
      zm_opt (q11.2.2.2.2 r0 35) (fun q12 =>
      (zm_sI q11.2.1 q11.2.2 q12 ((((nI 5) : Int32) * i2) + i4) (q1.1 - (nI 48))).bind fun s13 =>
      (zm_is q11.2.1 r0 10).bind fun _ =>
       (zm_is q11.2.1 r0 10).bind fun _ => (zm_fw s13 r0 31 0 (.int ((s13.1 r0 31) + 1))).bind fun s14 =>
       some (.inl (76, [(0, .ref r0), (1, .int i1), (2, .int i2), (3, .int (i3 ||| ((1 : Int32) <<< ((q1.1 - (nI 48)) &&& 31)))), (4, .int (i4 + 1))], [], q11.2.1, s14, 0, 0))) (none))))
  else ((zm_is lay r0 10).bind fun _ =>
   if ((nI 2) : Int32) ≤ (σ.1 r0 32) then ((zm_is lay r0 10).bind fun _ =>
    (zm_is lay r0 10).bind fun _ => (zm_fw σ r0 33 0 (.int ((σ.1 r0 33) + 1))).bind fun s15 =>
    (zm_is lay r0 10).bind fun _ => (zm_ai (zM 192 [.ref r0, .int i1] lay s15)).bind fun q16 =>
    (zm_ai (zM 176 [.int q16.1, .int (nI 48), .int (nI 57)] q16.2.1 q16.2.2)).bind fun q17 =>
    if ¬ q17.1 = 0 then (some (.inr (some (.int 0), q17.2.1, q17.2.2)))
    else (some (.inr (some (.int 1), q17.2.1, q17.2.2))))
   else ((zm_is lay r0 10).bind fun _ => (zm_ai (zM 192 [.ref r0, .int i1] lay σ)).bind fun q18 =>
    (zm_is q18.2.1 r0 10).bind fun _ =>
    if ((nI 2) : Int32) ≤ (q18.2.2.1 r0 32) then ((zm_is q18.2.1 r0 10).bind fun _ => (zm_ai (zM 192 [.ref r0, .int i1] q18.2.1 q18.2.2)).bind fun q19 =>
     (zm_ai (zM 176 [.int q19.1, .int (nI 48), .int (nI 57)] q19.2.1 q19.2.2)).bind fun q20 =>
     if q20.1 = 0 then (some (.inr (some (.int 0), q20.2.1, q20.2.2)))
     else ((zm_is q20.2.1 r0 10).bind fun _ =>
       if (q20.2.2.1 r0 32) ≤ (q18.1 - (nI 48)) then (some (.inr (some (.int 0), q20.2.1, q20.2.2)))
       else ((zm_ai (zM 194 [.int i3, .int (q18.1 - (nI 48))] q20.2.1 q20.2.2)).bind fun q21 =>
        if q21.1 = 0 then ((zm_is q21.2.1 r0 10).bind fun _ =>
         zm_opt (q21.2.2.2.2 r0 35) (fun q22 =>
         (zm_sI q21.2.1 q21.2.2 q22 ((((nI 5) : Int32) * i2) + i4) (q18.1 - (nI 48))).bind fun s23 =>
         (zm_is q21.2.1 r0 10).bind fun _ =>
          zm_opt (s23.2.2 r0 36) (fun q24 =>
          (zm_sI q21.2.1 s23 q24 ((((nI 5) : Int32) * i2) + (q18.1 - (nI 48))) i4).bind fun s25 =>
          (zm_is q21.2.1 r0 10).bind fun _ =>
          (zm_is q21.2.1 r0 10).bind fun _ => (zm_fw s25 r0 31 0 (.int ((s25.1 r0 31) + 1))).bind fun s26 =>
          some (.inl (76, [(0, .ref r0), (1, .int i1), (2, .int i2), (3, .int (i3 ||| ((1 : Int32) <<< ((q18.1 - (nI 48)) &&& 31)))), (4, .int (i4 + 1))], [], q21.2.1, s26, 0, 0))) (none)) (none))
        else (some (.inr (some (.int 0), q21.2.1, q21.2.2))))))
    else ((zm_is q18.2.1 r0 10).bind fun _ => (zm_ai (zM 192 [.ref r0, .int i1] q18.2.1 q18.2.2)).bind fun q27 =>
     (zm_ai (zM 176 [.int q27.1, .int (nI 48), .int (nI 57)] q27.2.1 q27.2.2)).bind fun q28 =>
     if q28.1 = 0 then (some (.inr (some (.int 0), q28.2.1, q28.2.2)))
     else ((zm_is q28.2.1 r0 10).bind fun _ =>
       zm_opt (q28.2.2.2.2 r0 35) (fun q29 =>
       (zm_sI q28.2.1 q28.2.2 q29 ((((nI 5) : Int32) * i2) + i4) (q18.1 - (nI 48))).bind fun s30 =>
       (zm_is q28.2.1 r0 10).bind fun _ =>
        (zm_is q28.2.1 r0 10).bind fun _ => (zm_fw s30 r0 31 0 (.int ((s30.1 r0 31) + 1))).bind fun s31 =>
        some (.inl (76, [(0, .ref r0), (1, .int i1), (2, .int i2), (3, .int (i3 ||| ((1 : Int32) <<< ((q18.1 - (nI 48)) &&& 31)))), (4, .int (i4 + 1))], [], q28.2.1, s31, 0, 0))) (none)))))
set_option maxRecDepth 100000 in
theorem zr_193_76 (lay : zm_Lay) (σ : zm_Sig) (r0 : Nat) (i1 : Int32) (i2 : Int32) (i3 : Int32) (i4 : Int32) : zm_blk zM zp_193 (some .boolean) 0 0 zc_193 134 (zp_193.drop 41) (76, [(0, .ref r0), (1, .int i1), (2, .int i2), (3, .int i3), (4, .int i4)], [], lay, σ, 0, 0) = zb_193_76 lay σ r0 i1 i2 i3 i4 := rfl
theorem zg_193_76 {lay : zm_Lay} {σ : zm_Sig} {r0 : Nat} {i1 : Int32} {i2 : Int32} {i3 : Int32} {i4 : Int32} {out : zm_Out} {r : zm_St ⊕ zm_Out} (h : zb_193_76 lay σ r0 i1 i2 i3 i4 = some r) (hg : match r with | .inl x => zm_go zp_P 193 x out | .inr o => o = out) : zm_go zp_P 193 (76, [(0, .ref r0), (1, .int i1), (2, .int i2), (3, .int i3), (4, .int i4)], [], lay, σ, 0, 0) out :=
  zm_blk_go (M := zd_193) rfl zs_193 134 (zp_193.drop 41) _ r (fun _ h => List.mem_of_mem_drop h) ((zr_193_76 lay σ r0 i1 i2 i3 i4).trans h) hg
/-! SubgroupWriterModel.has(II)Z -/
theorem zs_194 : zm_srt zp_194 = true := by decide +kernel
noncomputable def zb_194_0 (lay : zm_Lay) (σ : zm_Sig) (i0 : Int32) (i1 : Int32) : Option (zm_St ⊕ zm_Out) :=
  if ¬ ((i0 >>> (i1 &&& 31)) &&& 1) = 1 then (some (.inr (some (.int 0), lay, σ)))
  else (some (.inr (some (.int 1), lay, σ)))
set_option maxRecDepth 100000 in
theorem zr_194_0 (lay : zm_Lay) (σ : zm_Sig) (i0 : Int32) (i1 : Int32) : zm_blk zM zp_194 (some .boolean) 0 0 zc_194 12 (zp_194.drop 0) (0, [(0, .int i0), (1, .int i1)], [], lay, σ, 0, 0) = zb_194_0 lay σ i0 i1 := rfl
theorem ze_194 {lay : zm_Lay} {σ : zm_Sig} {i0 : Int32} {i1 : Int32} {out : zm_Out} {r : zm_St ⊕ zm_Out} (h : zb_194_0 lay σ i0 i1 = some r) (hg : match r with | .inl x => zm_go zp_P 194 x out | .inr o => o = out) : zM 194 [.int i0, .int i1] lay σ = some out :=
  zm_mean_go (M := zd_194) rfl (Nat.le_of_ble_eq_true rfl) (zm_blk_go (M := zd_194) rfl zs_194 12 (zp_194.drop 0) _ r (fun _ h => List.mem_of_mem_drop h) ((zr_194_0 lay σ i0 i1).trans h) hg)
/-! SubgroupWriterModel.readsRelator(I)Z -/
theorem zs_195 : zm_srt zp_195 = true := by decide +kernel
noncomputable def zb_195_0 (lay : zm_Lay) (σ : zm_Sig) (r0 : Nat) (i1 : Int32) : Option (zm_St ⊕ zm_Out) :=
  (zm_is lay r0 10).bind fun _ =>
  (zm_is lay r0 10).bind fun _ =>
  some (.inl (15, [(0, .ref r0), (1, .int i1), (2, .int ((σ.1 r0 31) - 1)), (3, .int (σ.1 r0 34)), (4, .int 0)], [], lay, σ, 0, 0))
set_option maxRecDepth 100000 in
theorem zr_195_0 (lay : zm_Lay) (σ : zm_Sig) (r0 : Nat) (i1 : Int32) : zm_blk zM zp_195 (some .boolean) 0 0 zc_195 120 (zp_195.drop 0) (0, [(0, .ref r0), (1, .int i1)], [], lay, σ, 0, 0) = zb_195_0 lay σ r0 i1 := rfl
theorem ze_195 {lay : zm_Lay} {σ : zm_Sig} {r0 : Nat} {i1 : Int32} {out : zm_Out} {r : zm_St ⊕ zm_Out} (h : zb_195_0 lay σ r0 i1 = some r) (hg : match r with | .inl x => zm_go zp_P 195 x out | .inr o => o = out) : zM 195 [.ref r0, .int i1] lay σ = some out :=
  zm_mean_go (M := zd_195) rfl (Nat.le_of_ble_eq_true rfl) (zm_blk_go (M := zd_195) rfl zs_195 120 (zp_195.drop 0) _ r (fun _ h => List.mem_of_mem_drop h) ((zr_195_0 lay σ r0 i1).trans h) hg)
noncomputable def zb_195_15 (lay : zm_Lay) (σ : zm_Sig) (r0 : Nat) (i1 : Int32) (i2 : Int32) (i3 : Int32) (i4 : Int32) : Option (zm_St ⊕ zm_Out) :=
  (zm_is lay r0 10).bind fun _ => (zm_ai (zM 192 [.ref r0, .int i1] lay σ)).bind fun q1 =>
  (zm_ai (zM 196 [.int q1.1] q1.2.1 q1.2.2)).bind fun q2 =>
  if q2.1 = 0 then (if ¬ i4 = 0 then ((zm_is q2.2.1 r0 10).bind fun _ =>
    zm_opt (q2.2.2.2.2 r0 37) (fun q3 =>
    (zm_sI q2.2.1 q2.2.2 q3 i3 i4).bind fun s4 =>
    (zm_is q2.2.1 r0 10).bind fun _ =>
    (zm_is q2.2.1 r0 10).bind fun _ => (zm_fw s4 r0 34 0 (.int ((s4.1 r0 34) + 1))).bind fun s5 =>
    some (.inl (148, [(0, .ref r0), (2, .int i2), (3, .int i3), (4, .int i4), (5, .int 0)], [], q2.2.1, s5, 0, 0))) (none))
   else (some (.inr (some (.int 0), q2.2.1, q2.2.2))))
  else ((zm_is q2.2.1 r0 10).bind fun _ => (zm_ai (zM 192 [.ref r0, .int i1] q2.2.1 q2.2.2)).bind fun q6 =>
   (zm_ai (zM 176 [.int q6.1, .int (nI 97), .int (nI 99)] q6.2.1 q6.2.2)).bind fun q7 =>
   if q7.1 = 0 then ((zm_is q7.2.1 r0 10).bind fun _ =>
    if (q7.2.2.1 r0 33) < (((nI 64) : Int32) - q6.1) then (some (.inr (some (.int 0), q7.2.1, q7.2.2)))
    else ((zm_is q7.2.1 r0 10).bind fun _ =>
     if (q7.2.2.1 r0 33) < (-(((nI 64) : Int32) - q6.1)) then (some (.inr (some (.int 0), q7.2.1, q7.2.2)))
     else (if ¬ i4 = (nI 8) then ((zm_is q7.2.1 r0 10).bind fun _ =>
       zm_opt (q7.2.2.2.2 r0 38) (fun q8 =>
       (zm_sI q7.2.1 q7.2.2 q8 ((((nI 8) : Int32) * i3) + i4) (((nI 64) : Int32) - q6.1)).bind fun s9 =>
       (zm_is q7.2.1 r0 10).bind fun _ =>
       (zm_is q7.2.1 r0 10).bind fun _ => (zm_fw s9 r0 31 0 (.int ((s9.1 r0 31) + 1))).bind fun s10 =>
       some (.inl (15, [(0, .ref r0), (1, .int i1), (2, .int i2), (3, .int i3), (4, .int (i4 + 1))], [], q7.2.1, s10, 0, 0))) (none))
      else (some (.inr (some (.int 0), q7.2.1, q7.2.2))))))
   else ((zm_is q7.2.1 r0 10).bind fun _ =>
    if (q7.2.2.1 r0 33) < ((q6.1 - (nI 97)) + 1) then (some (.inr (some (.int 0), q7.2.1, q7.2.2)))
    else ((zm_is q7.2.1 r0 10).bind fun _ =>
     if (q7.2.2.1 r0 33) < (-((q6.1 - (nI 97)) + 1)) then (some (.inr (some (.int 0), q7.2.1, q7.2.2)))
     else (if ¬ i4 = (nI 8) then ((zm_is q7.2.1 r0 10).bind fun _ =>
       zm_opt (q7.2.2.2.2 r0 38) (fun q11 =>
       (zm_sI q7.2.1 q7.2.2 q11 ((((nI 8) : Int32) * i3) + i4) ((q6.1 - (nI 97)) + 1)).bind fun s12 =>
       (zm_is q7.2.1 r0 10).bind fun _ =>
       (zm_is q7.2.1 r0 10).bind fun _ => (zm_fw s12 r0 31 0 (.int ((s12.1 r0 31) + 1))).bind fun s13 =>
       some (.inl (15, [(0, .ref r0), (1, .int i1), (2, .int i2), (3, .int i3), (4, .int (i4 + 1))], [], q7.2.1, s13, 0, 0))) (none))
      else (some (.inr (some (.int 0), q7.2.1, q7.2.2)))))))
set_option maxRecDepth 100000 in
theorem zr_195_15 (lay : zm_Lay) (σ : zm_Sig) (r0 : Nat) (i1 : Int32) (i2 : Int32) (i3 : Int32) (i4 : Int32) : zm_blk zM zp_195 (some .boolean) 0 0 zc_195 120 (zp_195.drop 10) (15, [(0, .ref r0), (1, .int i1), (2, .int i2), (3, .int i3), (4, .int i4)], [], lay, σ, 0, 0) = zb_195_15 lay σ r0 i1 i2 i3 i4 := rfl
theorem zg_195_15 {lay : zm_Lay} {σ : zm_Sig} {r0 : Nat} {i1 : Int32} {i2 : Int32} {i3 : Int32} {i4 : Int32} {out : zm_Out} {r : zm_St ⊕ zm_Out} (h : zb_195_15 lay σ r0 i1 i2 i3 i4 = some r) (hg : match r with | .inl x => zm_go zp_P 195 x out | .inr o => o = out) : zm_go zp_P 195 (15, [(0, .ref r0), (1, .int i1), (2, .int i2), (3, .int i3), (4, .int i4)], [], lay, σ, 0, 0) out :=
  zm_blk_go (M := zd_195) rfl zs_195 120 (zp_195.drop 10) _ r (fun _ h => List.mem_of_mem_drop h) ((zr_195_15 lay σ r0 i1 i2 i3 i4).trans h) hg
noncomputable def zb_195_148 (lay : zm_Lay) (σ : zm_Sig) (r0 : Nat) (i2 : Int32) (i3 : Int32) (i4 : Int32) (i5 : Int32) : Option (zm_St ⊕ zm_Out) :=
  (zm_is lay r0 10).bind fun _ =>
  if (σ.1 r0 32) ≤ i5 then (some (.inr (some (.int 1), lay, σ)))
  else (some (.inl (164, [(0, .ref r0), (2, .int i2), (3, .int i3), (4, .int i4), (5, .int i5), (6, .int i5), (7, .int 0)], [], lay, σ, 0, 0)))
set_option maxRecDepth 100000 in
theorem zr_195_148 (lay : zm_Lay) (σ : zm_Sig) (r0 : Nat) (i2 : Int32) (i3 : Int32) (i4 : Int32) (i5 : Int32) : zm_blk zM zp_195 (some .boolean) 0 0 zc_195 120 (zp_195.drop 82) (148, [(0, .ref r0), (2, .int i2), (3, .int i3), (4, .int i4), (5, .int i5)], [], lay, σ, 0, 0) = zb_195_148 lay σ r0 i2 i3 i4 i5 := rfl
theorem zg_195_148 {lay : zm_Lay} {σ : zm_Sig} {r0 : Nat} {i2 : Int32} {i3 : Int32} {i4 : Int32} {i5 : Int32} {out : zm_Out} {r : zm_St ⊕ zm_Out} (h : zb_195_148 lay σ r0 i2 i3 i4 i5 = some r) (hg : match r with | .inl x => zm_go zp_P 195 x out | .inr o => o = out) : zm_go zp_P 195 (148, [(0, .ref r0), (2, .int i2), (3, .int i3), (4, .int i4), (5, .int i5)], [], lay, σ, 0, 0) out :=
  zm_blk_go (M := zd_195) rfl zs_195 120 (zp_195.drop 82) _ r (fun _ h => List.mem_of_mem_drop h) ((zr_195_148 lay σ r0 i2 i3 i4 i5).trans h) hg
noncomputable def zb_195_164 (lay : zm_Lay) (σ : zm_Sig) (r0 : Nat) (i2 : Int32) (i3 : Int32) (i4 : Int32) (i5 : Int32) (i6 : Int32) (i7 : Int32) : Option (zm_St ⊕ zm_Out) :=
  if i4 ≤ i7 then (if i6 = i5 then (some (.inl (148, [(0, .ref r0), (2, .int i2), (3, .int i3), (4, .int i4), (5, .int (i5 + 1))], [], lay, σ, 0, 0)))
   else ((zm_is lay r0 10).bind fun _ => (zm_fw σ r0 31 0 (.int i2)).bind fun s1 =>
    some (.inr (some (.int 0), lay, s1))))
  else ((zm_is lay r0 10).bind fun _ =>
   zm_opt (σ.2.2 r0 38) (fun q2 =>
   (zm_gI lay σ q2 ((((nI 8) : Int32) * i3) + i7)).bind fun v3 =>
   (zm_is lay r0 10).bind fun _ => (zm_ai (zM 197 [.ref r0, .int i6, .int v3] lay σ)).bind fun q4 =>
   some (.inl (164, [(0, .ref r0), (2, .int i2), (3, .int i3), (4, .int i4), (5, .int i5), (6, .int q4.1), (7, .int (i7 + 1))], [], q4.2.1, q4.2.2, 0, 0))) (none))
set_option maxRecDepth 100000 in
theorem zr_195_164 (lay : zm_Lay) (σ : zm_Sig) (r0 : Nat) (i2 : Int32) (i3 : Int32) (i4 : Int32) (i5 : Int32) (i6 : Int32) (i7 : Int32) : zm_blk zM zp_195 (some .boolean) 0 0 zc_195 120 (zp_195.drop 90) (164, [(0, .ref r0), (2, .int i2), (3, .int i3), (4, .int i4), (5, .int i5), (6, .int i6), (7, .int i7)], [], lay, σ, 0, 0) = zb_195_164 lay σ r0 i2 i3 i4 i5 i6 i7 := rfl
theorem zg_195_164 {lay : zm_Lay} {σ : zm_Sig} {r0 : Nat} {i2 : Int32} {i3 : Int32} {i4 : Int32} {i5 : Int32} {i6 : Int32} {i7 : Int32} {out : zm_Out} {r : zm_St ⊕ zm_Out} (h : zb_195_164 lay σ r0 i2 i3 i4 i5 i6 i7 = some r) (hg : match r with | .inl x => zm_go zp_P 195 x out | .inr o => o = out) : zm_go zp_P 195 (164, [(0, .ref r0), (2, .int i2), (3, .int i3), (4, .int i4), (5, .int i5), (6, .int i6), (7, .int i7)], [], lay, σ, 0, 0) out :=
  zm_blk_go (M := zd_195) rfl zs_195 120 (zp_195.drop 90) _ r (fun _ h => List.mem_of_mem_drop h) ((zr_195_164 lay σ r0 i2 i3 i4 i5 i6 i7).trans h) hg
/-! SubgroupWriterModel.isAnyLetter(I)Z -/
theorem zs_196 : zm_srt zp_196 = true := by decide +kernel
noncomputable def zb_196_0 (lay : zm_Lay) (σ : zm_Sig) (i0 : Int32) : Option (zm_St ⊕ zm_Out) :=
  (zm_ai (zM 176 [.int i0, .int (nI 97), .int (nI 99)] lay σ)).bind fun q1 =>
  if ¬ q1.1 = 0 then (some (.inr (some (.int 1), q1.2.1, q1.2.2)))
  else ((zm_ai (zM 176 [.int i0, .int (nI 65), .int (nI 67)] q1.2.1 q1.2.2)).bind fun q2 =>
   if q2.1 = 0 then (some (.inr (some (.int 0), q2.2.1, q2.2.2)))
   else (some (.inr (some (.int 1), q2.2.1, q2.2.2))))
set_option maxRecDepth 100000 in
theorem zr_196_0 (lay : zm_Lay) (σ : zm_Sig) (i0 : Int32) : zm_blk zM zp_196 (some .boolean) 0 0 zc_196 15 (zp_196.drop 0) (0, [(0, .int i0)], [], lay, σ, 0, 0) = zb_196_0 lay σ i0 := rfl
theorem ze_196 {lay : zm_Lay} {σ : zm_Sig} {i0 : Int32} {out : zm_Out} {r : zm_St ⊕ zm_Out} (h : zb_196_0 lay σ i0 = some r) (hg : match r with | .inl x => zm_go zp_P 196 x out | .inr o => o = out) : zM 196 [.int i0] lay σ = some out :=
  zm_mean_go (M := zd_196) rfl (Nat.le_of_ble_eq_true rfl) (zm_blk_go (M := zd_196) rfl zs_196 15 (zp_196.drop 0) _ r (fun _ h => List.mem_of_mem_drop h) ((zr_196_0 lay σ i0).trans h) hg)
/-! SubgroupWriterModel.readGoes(II)I -/
theorem zs_197 : zm_srt zp_197 = true := by decide +kernel
noncomputable def zb_197_0 (lay : zm_Lay) (σ : zm_Sig) (r0 : Nat) (i1 : Int32) (i2 : Int32) : Option (zm_St ⊕ zm_Out) :=
  if i2 ≤ 0 then ((zm_is lay r0 10).bind fun _ =>
   zm_opt (σ.2.2 r0 36) (fun q1 =>
   (zm_gI lay σ q1 ((((nI 5) : Int32) * ((-i2) - 1)) + i1)).bind fun v2 =>
   some (.inr (some (.int v2), lay, σ))) (none))
  else ((zm_is lay r0 10).bind fun _ =>
   zm_opt (σ.2.2 r0 35) (fun q3 =>
   (zm_gI lay σ q3 ((((nI 5) : Int32) * (i2 - 1)) + i1)).bind fun v4 =>
   some (.inr (some (.int v4), lay, σ))) (none))
set_option maxRecDepth 100000 in
theorem zr_197_0 (lay : zm_Lay) (σ : zm_Sig) (r0 : Nat) (i1 : Int32) (i2 : Int32) : zm_blk zM zp_197 (some .int) 0 0 zc_197 26 (zp_197.drop 0) (0, [(0, .ref r0), (1, .int i1), (2, .int i2)], [], lay, σ, 0, 0) = zb_197_0 lay σ r0 i1 i2 := rfl
theorem ze_197 {lay : zm_Lay} {σ : zm_Sig} {r0 : Nat} {i1 : Int32} {i2 : Int32} {out : zm_Out} {r : zm_St ⊕ zm_Out} (h : zb_197_0 lay σ r0 i1 i2 = some r) (hg : match r with | .inl x => zm_go zp_P 197 x out | .inr o => o = out) : zM 197 [.ref r0, .int i1, .int i2] lay σ = some out :=
  zm_mean_go (M := zd_197) rfl (Nat.le_of_ble_eq_true rfl) (zm_blk_go (M := zd_197) rfl zs_197 26 (zp_197.drop 0) _ r (fun _ h => List.mem_of_mem_drop h) ((zr_197_0 lay σ r0 i1 i2).trans h) hg)
/-! SubgroupWriterModel.areReached()Z -/
theorem zs_198 : zm_srt zp_198 = true := by decide +kernel
noncomputable def zb_198_0 (lay : zm_Lay) (σ : zm_Sig) (r0 : Nat) : Option (zm_St ⊕ zm_Out) :=
  some (.inl (4, [(0, .ref r0), (1, .int 1), (2, .int 0)], [], lay, σ, 0, 0))
set_option maxRecDepth 100000 in
theorem zr_198_0 (lay : zm_Lay) (σ : zm_Sig) (r0 : Nat) : zm_blk zM zp_198 (some .boolean) 0 0 zc_198 68 (zp_198.drop 0) (0, [(0, .ref r0)], [], lay, σ, 0, 0) = zb_198_0 lay σ r0 := rfl
theorem ze_198 {lay : zm_Lay} {σ : zm_Sig} {r0 : Nat} {out : zm_Out} {r : zm_St ⊕ zm_Out} (h : zb_198_0 lay σ r0 = some r) (hg : match r with | .inl x => zm_go zp_P 198 x out | .inr o => o = out) : zM 198 [.ref r0] lay σ = some out :=
  zm_mean_go (M := zd_198) rfl (Nat.le_of_ble_eq_true rfl) (zm_blk_go (M := zd_198) rfl zs_198 68 (zp_198.drop 0) _ r (fun _ h => List.mem_of_mem_drop h) ((zr_198_0 lay σ r0).trans h) hg)
noncomputable def zb_198_4 (lay : zm_Lay) (σ : zm_Sig) (r0 : Nat) (i1 : Int32) (i2 : Int32) : Option (zm_St ⊕ zm_Out) :=
  if ((nI 5) : Int32) ≤ i2 then ((zm_is lay r0 10).bind fun _ =>
   if ¬ i1 = (((1 : Int32) <<< ((σ.1 r0 32) &&& 31)) - 1) then (some (.inr (some (.int 0), lay, σ)))
   else (some (.inr (some (.int 1), lay, σ))))
  else (some (.inl (11, [(0, .ref r0), (1, .int i1), (2, .int i2), (3, .int 0)], [], lay, σ, 0, 0)))
set_option maxRecDepth 100000 in
theorem zr_198_4 (lay : zm_Lay) (σ : zm_Sig) (r0 : Nat) (i1 : Int32) (i2 : Int32) : zm_blk zM zp_198 (some .boolean) 0 0 zc_198 68 (zp_198.drop 4) (4, [(0, .ref r0), (1, .int i1), (2, .int i2)], [], lay, σ, 0, 0) = zb_198_4 lay σ r0 i1 i2 := rfl
theorem zg_198_4 {lay : zm_Lay} {σ : zm_Sig} {r0 : Nat} {i1 : Int32} {i2 : Int32} {out : zm_Out} {r : zm_St ⊕ zm_Out} (h : zb_198_4 lay σ r0 i1 i2 = some r) (hg : match r with | .inl x => zm_go zp_P 198 x out | .inr o => o = out) : zm_go zp_P 198 (4, [(0, .ref r0), (1, .int i1), (2, .int i2)], [], lay, σ, 0, 0) out :=
  zm_blk_go (M := zd_198) rfl zs_198 68 (zp_198.drop 4) _ r (fun _ h => List.mem_of_mem_drop h) ((zr_198_4 lay σ r0 i1 i2).trans h) hg
noncomputable def zb_198_11 (lay : zm_Lay) (σ : zm_Sig) (r0 : Nat) (i1 : Int32) (i2 : Int32) (i3 : Int32) : Option (zm_St ⊕ zm_Out) :=
  (zm_is lay r0 10).bind fun _ =>
  if (σ.1 r0 32) ≤ i3 then (some (.inl (4, [(0, .ref r0), (1, .int i1), (2, .int (i2 + 1))], [], lay, σ, 0, 0)))
  else (some (.inl (22, [(0, .ref r0), (1, .int i1), (2, .int i2), (3, .int i3), (4, .int 0)], [], lay, σ, 0, 0)))
set_option maxRecDepth 100000 in
theorem zr_198_11 (lay : zm_Lay) (σ : zm_Sig) (r0 : Nat) (i1 : Int32) (i2 : Int32) (i3 : Int32) : zm_blk zM zp_198 (some .boolean) 0 0 zc_198 68 (zp_198.drop 9) (11, [(0, .ref r0), (1, .int i1), (2, .int i2), (3, .int i3)], [], lay, σ, 0, 0) = zb_198_11 lay σ r0 i1 i2 i3 := rfl
theorem zg_198_11 {lay : zm_Lay} {σ : zm_Sig} {r0 : Nat} {i1 : Int32} {i2 : Int32} {i3 : Int32} {out : zm_Out} {r : zm_St ⊕ zm_Out} (h : zb_198_11 lay σ r0 i1 i2 i3 = some r) (hg : match r with | .inl x => zm_go zp_P 198 x out | .inr o => o = out) : zm_go zp_P 198 (11, [(0, .ref r0), (1, .int i1), (2, .int i2), (3, .int i3)], [], lay, σ, 0, 0) out :=
  zm_blk_go (M := zd_198) rfl zs_198 68 (zp_198.drop 9) _ r (fun _ h => List.mem_of_mem_drop h) ((zr_198_11 lay σ r0 i1 i2 i3).trans h) hg
noncomputable def zb_198_22 (lay : zm_Lay) (σ : zm_Sig) (r0 : Nat) (i1 : Int32) (i2 : Int32) (i3 : Int32) (i4 : Int32) : Option (zm_St ⊕ zm_Out) :=
  (zm_is lay r0 10).bind fun _ =>
  if (σ.1 r0 33) ≤ i4 then (some (.inl (11, [(0, .ref r0), (1, .int i1), (2, .int i2), (3, .int (i3 + 1))], [], lay, σ, 0, 0)))
  else ((zm_ai (zM 194 [.int i1, .int i3] lay σ)).bind fun q1 =>
   if q1.1 = 0 then (some (.inl (11, [(0, .ref r0), (1, .int i1), (2, .int i2), (3, .int (i3 + 1))], [], q1.2.1, q1.2.2, 0, 0)))
   else ((zm_is q1.2.1 r0 10).bind fun _ =>
    zm_opt (q1.2.2.2.2 r0 35) (fun q2 =>
    (zm_gI q1.2.1 q1.2.2 q2 ((((nI 5) : Int32) * i4) + i3)).bind fun v3 =>
    (zm_is q1.2.1 r0 10).bind fun _ =>
    zm_opt (q1.2.2.2.2 r0 36) (fun q4 =>
    (zm_gI q1.2.1 q1.2.2 q4 ((((nI 5) : Int32) * i4) + i3)).bind fun v5 =>
    some (.inl (22, [(0, .ref r0), (1, .int ((i1 ||| ((1 : Int32) <<< (v3 &&& 31))) ||| ((1 : Int32) <<< (v5 &&& 31)))), (2, .int i2), (3, .int i3), (4, .int (i4 + 1))], [], q1.2.1, q1.2.2, 0, 0))) (none)) (none)))
set_option maxRecDepth 100000 in
theorem zr_198_22 (lay : zm_Lay) (σ : zm_Sig) (r0 : Nat) (i1 : Int32) (i2 : Int32) (i3 : Int32) (i4 : Int32) : zm_blk zM zp_198 (some .boolean) 0 0 zc_198 68 (zp_198.drop 15) (22, [(0, .ref r0), (1, .int i1), (2, .int i2), (3, .int i3), (4, .int i4)], [], lay, σ, 0, 0) = zb_198_22 lay σ r0 i1 i2 i3 i4 := rfl
theorem zg_198_22 {lay : zm_Lay} {σ : zm_Sig} {r0 : Nat} {i1 : Int32} {i2 : Int32} {i3 : Int32} {i4 : Int32} {out : zm_Out} {r : zm_St ⊕ zm_Out} (h : zb_198_22 lay σ r0 i1 i2 i3 i4 = some r) (hg : match r with | .inl x => zm_go zp_P 198 x out | .inr o => o = out) : zm_go zp_P 198 (22, [(0, .ref r0), (1, .int i1), (2, .int i2), (3, .int i3), (4, .int i4)], [], lay, σ, 0, 0) out :=
  zm_blk_go (M := zd_198) rfl zs_198 68 (zp_198.drop 15) _ r (fun _ h => List.mem_of_mem_drop h) ((zr_198_22 lay σ r0 i1 i2 i3 i4).trans h) hg
/-! SubgroupWriterModel.group(I)I -/
theorem zs_199 : zm_srt zp_199 = true := by decide +kernel
noncomputable def zb_199_0 (lay : zm_Lay) (σ : zm_Sig) (r0 : Nat) (i1 : Int32) : Option (zm_St ⊕ zm_Out) :=
  (zm_ai (zM 187 [.int i1] lay σ)).bind fun q1 =>
  if ¬ q1.1 = 0 then ((zm_is q1.2.1 r0 10).bind fun _ =>
   zm_opt (q1.2.2.2.2 r0 2) (fun q2 =>
   (zm_gI q1.2.1 q1.2.2 q2 i1).bind fun v3 =>
   if (0 : Int32) ≤ v3 then ((zm_is q1.2.1 r0 10).bind fun _ => (zm_ai (zM 190 [.ref r0, .int i1] q1.2.1 q1.2.2)).bind fun q4 =>
    if q4.1 = (-9) then ((zm_is q4.2.1 r0 10).bind fun _ =>
     (zm_is q4.2.1 r0 10).bind fun _ => (zm_fw q4.2.2 r0 4 0 (.int (q4.2.2.1 r0 32))).bind fun s5 =>
     (zm_is q4.2.1 r0 10).bind fun _ =>
     (zm_is q4.2.1 r0 10).bind fun _ => (zm_fw s5 r0 5 0 (.int (s5.1 r0 33))).bind fun s6 =>
     (zm_is q4.2.1 r0 10).bind fun _ =>
     (zm_is q4.2.1 r0 10).bind fun _ => (zm_fw s6 r0 6 0 (.int (s6.1 r0 34))).bind fun s7 =>
     (zm_is q4.2.1 r0 10).bind fun _ =>
     zm_opt (s7.2.2 r0 35) (fun q8 =>
     (zm_is q4.2.1 r0 10).bind fun _ =>
     zm_opt (s7.2.2 r0 7) (fun q9 =>
     (zm_av (zM 200 [.ref q8, .int 0, .ref q9, .int 0, .int (nI 15)] q4.2.1 s7)).bind fun q10 =>
     (zm_is q10.1 r0 10).bind fun _ =>
     zm_opt (q10.2.2.2 r0 36) (fun q11 =>
     (zm_is q10.1 r0 10).bind fun _ =>
     zm_opt (q10.2.2.2 r0 8) (fun q12 =>
     (zm_av (zM 200 [.ref q11, .int 0, .ref q12, .int 0, .int (nI 15)] q10.1 q10.2)).bind fun q13 =>
     (zm_is q13.1 r0 10).bind fun _ =>
     zm_opt (q13.2.2.2 r0 37) (fun q14 =>
     (zm_is q13.1 r0 10).bind fun _ =>
     zm_opt (q13.2.2.2 r0 9) (fun q15 =>
     (zm_av (zM 200 [.ref q14, .int 0, .ref q15, .int 0, .int (nI 3)] q13.1 q13.2)).bind fun q16 =>
     (zm_is q16.1 r0 10).bind fun _ =>
     zm_opt (q16.2.2.2 r0 38) (fun q17 =>
     (zm_is q16.1 r0 10).bind fun _ =>
     zm_opt (q16.2.2.2 r0 10) (fun q18 =>
     (zm_av (zM 200 [.ref q17, .int 0, .ref q18, .int 0, .int (nI 24)] q16.1 q16.2)).bind fun q19 =>
     (zm_is q19.1 r0 10).bind fun _ => (zm_fw q19.2 r0 23 0 (.int 0)).bind fun s20 =>
     some (.inl (127, [(0, .ref r0), (2, .int 0)], [], q19.1, s20, 0, 0))) ((zm_av (zM 200 [.ref q17, .int 0, .null, .int 0, .int (nI 24)] q16.1 q16.2)).bind fun q21 =>
     (zm_is q21.1 r0 10).bind fun _ => (zm_fw q21.2 r0 23 0 (.int 0)).bind fun s22 =>
     some (.inl (127, [(0, .ref r0), (2, .int 0)], [], q21.1, s22, 0, 0)))) ((zm_is q16.1 r0 10).bind fun _ =>
     zm_opt (q16.2.2.2 r0 10) (fun q23 =>
     (zm_av (zM 200 [.null, .int 0, .ref q23, .int 0, .int (nI 24)] q16.1 q16.2)).bind fun q24 =>
     (zm_is q24.1 r0 10).bind fun _ => (zm_fw q24.2 r0 23 0 (.int 0)).bind fun s25 =>
     some (.inl (127, [(0, .ref r0), (2, .int 0)], [], q24.1, s25, 0, 0))) ((zm_av (zM 200 [.null, .int 0, .null, .int 0, .int (nI 24)] q16.1 q16.2)).bind fun q26 =>
     (zm_is q26.1 r0 10).bind fun _ => (zm_fw q26.2 r0 23 0 (.int 0)).bind fun s27 =>
     some (.inl (127, [(0, .ref r0), (2, .int 0)], [], q26.1, s27, 0, 0))))) ((zm_av (zM 200 [.ref q14, .int 0, .null, .int 0, .int (nI 3)] q13.1 q13.2)).bind fun q28 =>
     (zm_is q28.1 r0 10).bind fun _ =>
     zm_opt (q28.2.2.2 r0 38) (fun q29 =>
     (zm_is q28.1 r0 10).bind fun _ =>
     zm_opt (q28.2.2.2 r0 10) (fun q30 =>
     (zm_av (zM 200 [.ref q29, .int 0, .ref q30, .int 0, .int (nI 24)] q28.1 q28.2)).bind fun q31 =>
     (zm_is q31.1 r0 10).bind fun _ => (zm_fw q31.2 r0 23 0 (.int 0)).bind fun s32 =>
     some (.inl (127, [(0, .ref r0), (2, .int 0)], [], q31.1, s32, 0, 0))) ((zm_av (zM 200 [.ref q29, .int 0, .null, .int 0, .int (nI 24)] q28.1 q28.2)).bind fun q33 =>
     (zm_is q33.1 r0 10).bind fun _ => (zm_fw q33.2 r0 23 0 (.int 0)).bind fun s34 =>
     some (.inl (127, [(0, .ref r0), (2, .int 0)], [], q33.1, s34, 0, 0)))) ((zm_is q28.1 r0 10).bind fun _ =>
     zm_opt (q28.2.2.2 r0 10) (fun q35 =>
     (zm_av (zM 200 [.null, .int 0, .ref q35, .int 0, .int (nI 24)] q28.1 q28.2)).bind fun q36 =>
     (zm_is q36.1 r0 10).bind fun _ => (zm_fw q36.2 r0 23 0 (.int 0)).bind fun s37 =>
     some (.inl (127, [(0, .ref r0), (2, .int 0)], [], q36.1, s37, 0, 0))) ((zm_av (zM 200 [.null, .int 0, .null, .int 0, .int (nI 24)] q28.1 q28.2)).bind fun q38 =>
     (zm_is q38.1 r0 10).bind fun _ => (zm_fw q38.2 r0 23 0 (.int 0)).bind fun s39 =>
     some (.inl (127, [(0, .ref r0), (2, .int 0)], [], q38.1, s39, 0, 0)))))) ((zm_is q13.1 r0 10).bind fun _ =>
     zm_opt (q13.2.2.2 r0 9) (fun q40 =>
     (zm_av (zM 200 [.null, .int 0, .ref q40, .int 0, .int (nI 3)] q13.1 q13.2)).bind fun q41 =>
     (zm_is q41.1 r0 10).bind fun _ =>
     zm_opt (q41.2.2.2 r0 38) (fun q42 =>
     (zm_is q41.1 r0 10).bind fun _ =>
     zm_opt (q41.2.2.2 r0 10) (fun q43 =>
     (zm_av (zM 200 [.ref q42, .int 0, .ref q43, .int 0, .int (nI 24)] q41.1 q41.2)).bind fun q44 =>
     (zm_is q44.1 r0 10).bind fun _ => (zm_fw q44.2 r0 23 0 (.int 0)).bind fun s45 =>
     some (.inl (127, [(0, .ref r0), (2, .int 0)], [], q44.1, s45, 0, 0))) ((zm_av (zM 200 [.ref q42, .int 0, .null, .int 0, .int (nI 24)] q41.1 q41.2)).bind fun q46 =>
     (zm_is q46.1 r0 10).bind fun _ => (zm_fw q46.2 r0 23 0 (.int 0)).bind fun s47 =>
     some (.inl (127, [(0, .ref r0), (2, .int 0)], [], q46.1, s47, 0, 0)))) ((zm_is q41.1 r0 10).bind fun _ =>
     zm_opt (q41.2.2.2 r0 10) (fun q48 =>
     (zm_av (zM 200 [.null, .int 0, .ref q48, .int 0, .int (nI 24)] q41.1 q41.2)).bind fun q49 =>
     (zm_is q49.1 r0 10).bind fun _ => (zm_fw q49.2 r0 23 0 (.int 0)).bind fun s50 =>
     some (.inl (127, [(0, .ref r0), (2, .int 0)], [], q49.1, s50, 0, 0))) ((zm_av (zM 200 [.null, .int 0, .null, .int 0, .int (nI 24)] q41.1 q41.2)).bind fun q51 =>
     (zm_is q51.1 r0 10).bind fun _ => (zm_fw q51.2 r0 23 0 (.int 0)).bind fun s52 =>
     some (.inl (127, [(0, .ref r0), (2, .int 0)], [], q51.1, s52, 0, 0))))) ((zm_av (zM 200 [.null, .int 0, .null, .int 0, .int (nI 3)] q13.1 q13.2)).bind fun q53 =>
     (zm_is q53.1 r0 10).bind fun _ =>
     zm_opt (q53.2.2.2 r0 38) (fun q54 =>
     (zm_is q53.1 r0 10).bind fun _ =>
     zm_opt (q53.2.2.2 r0 10) (fun q55 =>
     (zm_av (zM 200 [.ref q54, .int 0, .ref q55, .int 0, .int (nI 24)] q53.1 q53.2)).bind fun q56 =>
     (zm_is q56.1 r0 10).bind fun _ => (zm_fw q56.2 r0 23 0 (.int 0)).bind fun s57 =>
     some (.inl (127, [(0, .ref r0), (2, .int 0)], [], q56.1, s57, 0, 0))) ((zm_av (zM 200 [.ref q54, .int 0, .null, .int 0, .int (nI 24)] q53.1 q53.2)).bind fun q58 =>
     (zm_is q58.1 r0 10).bind fun _ => (zm_fw q58.2 r0 23 0 (.int 0)).bind fun s59 =>
     some (.inl (127, [(0, .ref r0), (2, .int 0)], [], q58.1, s59, 0, 0)))) ((zm_is q53.1 r0 10).bind fun _ =>
     zm_opt (q53.2.2.2 r0 10) (fun q60 =>
     (zm_av (zM 200 [.null, .int 0, .ref q60, .int 0, .int (nI 24)] q53.1 q53.2)).bind fun q61 =>
     (zm_is q61.1 r0 10).bind fun _ => (zm_fw q61.2 r0 23 0 (.int 0)).bind fun s62 =>
     some (.inl (127, [(0, .ref r0), (2, .int 0)], [], q61.1, s62, 0, 0))) ((zm_av (zM 200 [.null, .int 0, .null, .int 0, .int (nI 24)] q53.1 q53.2)).bind fun q63 =>
     (zm_is q63.1 r0 10).bind fun _ => (zm_fw q63.2 r0 23 0 (.int 0)).bind fun s64 =>
     some (.inl (127, [(0, .ref r0), (2, .int 0)], [], q63.1, s64, 0, 0))))))) ((zm_av (zM 200 [.ref q11, .int 0, .null, .int 0, .int (nI 15)] q10.1 q10.2)).bind fun q65 =>
     (zm_is q65.1 r0 10).bind fun _ =>
     zm_opt (q65.2.2.2 r0 37) (fun q66 =>
     (zm_is q65.1 r0 10).bind fun _ =>
     zm_opt (q65.2.2.2 r0 9) (fun q67 =>
     (zm_av (zM 200 [.ref q66, .int 0, .ref q67, .int 0, .int (nI 3)] q65.1 q65.2)).bind fun q68 =>
     (zm_is q68.1 r0 10).bind fun _ =>
     zm_opt (q68.2.2.2 r0 38) (fun q69 =>
     (zm_is q68.1 r0 10).bind fun _ =>
     zm_opt (q68.2.2.2 r0 10) (fun q70 =>
     (zm_av (zM 200 [.ref q69, .int 0, .ref q70, .int 0, .int (nI 24)] q68.1 q68.2)).bind fun q71 =>
     (zm_is q71.1 r0 10).bind fun _ => (zm_fw q71.2 r0 23 0 (.int 0)).bind fun s72 =>
     some (.inl (127, [(0, .ref r0), (2, .int 0)], [], q71.1, s72, 0, 0))) ((zm_av (zM 200 [.ref q69, .int 0, .null, .int 0, .int (nI 24)] q68.1 q68.2)).bind fun q73 =>
     (zm_is q73.1 r0 10).bind fun _ => (zm_fw q73.2 r0 23 0 (.int 0)).bind fun s74 =>
     some (.inl (127, [(0, .ref r0), (2, .int 0)], [], q73.1, s74, 0, 0)))) ((zm_is q68.1 r0 10).bind fun _ =>
     zm_opt (q68.2.2.2 r0 10) (fun q75 =>
     (zm_av (zM 200 [.null, .int 0, .ref q75, .int 0, .int (nI 24)] q68.1 q68.2)).bind fun q76 =>
     (zm_is q76.1 r0 10).bind fun _ => (zm_fw q76.2 r0 23 0 (.int 0)).bind fun s77 =>
     some (.inl (127, [(0, .ref r0), (2, .int 0)], [], q76.1, s77, 0, 0))) ((zm_av (zM 200 [.null, .int 0, .null, .int 0, .int (nI 24)] q68.1 q68.2)).bind fun q78 =>
     (zm_is q78.1 r0 10).bind fun _ => (zm_fw q78.2 r0 23 0 (.int 0)).bind fun s79 =>
     some (.inl (127, [(0, .ref r0), (2, .int 0)], [], q78.1, s79, 0, 0))))) ((zm_av (zM 200 [.ref q66, .int 0, .null, .int 0, .int (nI 3)] q65.1 q65.2)).bind fun q80 =>
     (zm_is q80.1 r0 10).bind fun _ =>
     zm_opt (q80.2.2.2 r0 38) (fun q81 =>
     (zm_is q80.1 r0 10).bind fun _ =>
     zm_opt (q80.2.2.2 r0 10) (fun q82 =>
     (zm_av (zM 200 [.ref q81, .int 0, .ref q82, .int 0, .int (nI 24)] q80.1 q80.2)).bind fun q83 =>
     (zm_is q83.1 r0 10).bind fun _ => (zm_fw q83.2 r0 23 0 (.int 0)).bind fun s84 =>
     some (.inl (127, [(0, .ref r0), (2, .int 0)], [], q83.1, s84, 0, 0))) ((zm_av (zM 200 [.ref q81, .int 0, .null, .int 0, .int (nI 24)] q80.1 q80.2)).bind fun q85 =>
     (zm_is q85.1 r0 10).bind fun _ => (zm_fw q85.2 r0 23 0 (.int 0)).bind fun s86 =>
     some (.inl (127, [(0, .ref r0), (2, .int 0)], [], q85.1, s86, 0, 0)))) ((zm_is q80.1 r0 10).bind fun _ =>
     zm_opt (q80.2.2.2 r0 10) (fun q87 =>
     (zm_av (zM 200 [.null, .int 0, .ref q87, .int 0, .int (nI 24)] q80.1 q80.2)).bind fun q88 =>
     (zm_is q88.1 r0 10).bind fun _ => (zm_fw q88.2 r0 23 0 (.int 0)).bind fun s89 =>
     some (.inl (127, [(0, .ref r0), (2, .int 0)], [], q88.1, s89, 0, 0))) ((zm_av (zM 200 [.null, .int 0, .null, .int 0, .int (nI 24)] q80.1 q80.2)).bind fun q90 =>
     (zm_is q90.1 r0 10).bind fun _ => (zm_fw q90.2 r0 23 0 (.int 0)).bind fun s91 =>
     some (.inl (127, [(0, .ref r0), (2, .int 0)], [], q90.1, s91, 0, 0)))))) ((zm_is q65.1 r0 10).bind fun _ =>
     zm_opt (q65.2.2.2 r0 9) (fun q92 =>
     (zm_av (zM 200 [.null, .int 0, .ref q92, .int 0, .int (nI 3)] q65.1 q65.2)).bind fun q93 =>
     (zm_is q93.1 r0 10).bind fun _ =>
     zm_opt (q93.2.2.2 r0 38) (fun q94 =>
     (zm_is q93.1 r0 10).bind fun _ =>
     zm_opt (q93.2.2.2 r0 10) (fun q95 =>
     (zm_av (zM 200 [.ref q94, .int 0, .ref q95, .int 0, .int (nI 24)] q93.1 q93.2)).bind fun q96 =>
     (zm_is q96.1 r0 10).bind fun _ => (zm_fw q96.2 r0 23 0 (.int 0)).bind fun s97 =>
     some (.inl (127, [(0, .ref r0), (2, .int 0)], [], q96.1, s97, 0, 0))) ((zm_av (zM 200 [.ref q94, .int 0, .null, .int 0, .int (nI 24)] q93.1 q93.2)).bind fun q98 =>
     (zm_is q98.1 r0 10).bind fun _ => (zm_fw q98.2 r0 23 0 (.int 0)).bind fun s99 =>
     some (.inl (127, [(0, .ref r0), (2, .int 0)], [], q98.1, s99, 0, 0)))) ((zm_is q93.1 r0 10).bind fun _ =>
     zm_opt (q93.2.2.2 r0 10) (fun q100 =>
     (zm_av (zM 200 [.null, .int 0, .ref q100, .int 0, .int (nI 24)] q93.1 q93.2)).bind fun q101 =>
     (zm_is q101.1 r0 10).bind fun _ => (zm_fw q101.2 r0 23 0 (.int 0)).bind fun s102 =>
     some (.inl (127, [(0, .ref r0), (2, .int 0)], [], q101.1, s102, 0, 0))) ((zm_av (zM 200 [.null, .int 0, .null, .int 0, .int (nI 24)] q93.1 q93.2)).bind fun q103 =>
     (zm_is q103.1 r0 10).bind fun _ => (zm_fw q103.2 r0 23 0 (.int 0)).bind fun s104 =>
     some (.inl (127, [(0, .ref r0), (2, .int 0)], [], q103.1, s104, 0, 0))))) ((zm_av (zM 200 [.null, .int 0, .null, .int 0, .int (nI 3)] q65.1 q65.2)).bind fun q105 =>
     (zm_is q105.1 r0 10).bind fun _ =>
     zm_opt (q105.2.2.2 r0 38) (fun q106 =>
     (zm_is q105.1 r0 10).bind fun _ =>
     zm_opt (q105.2.2.2 r0 10) (fun q107 =>
     (zm_av (zM 200 [.ref q106, .int 0, .ref q107, .int 0, .int (nI 24)] q105.1 q105.2)).bind fun q108 =>
     (zm_is q108.1 r0 10).bind fun _ => (zm_fw q108.2 r0 23 0 (.int 0)).bind fun s109 =>
     some (.inl (127, [(0, .ref r0), (2, .int 0)], [], q108.1, s109, 0, 0))) ((zm_av (zM 200 [.ref q106, .int 0, .null, .int 0, .int (nI 24)] q105.1 q105.2)).bind fun q110 =>
     (zm_is q110.1 r0 10).bind fun _ => (zm_fw q110.2 r0 23 0 (.int 0)).bind fun s111 =>
     some (.inl (127, [(0, .ref r0), (2, .int 0)], [], q110.1, s111, 0, 0)))) ((zm_is q105.1 r0 10).bind fun _ =>
     zm_opt (q105.2.2.2 r0 10) (fun q112 =>
     (zm_av (zM 200 [.null, .int 0, .ref q112, .int 0, .int (nI 24)] q105.1 q105.2)).bind fun q113 =>
     (zm_is q113.1 r0 10).bind fun _ => (zm_fw q113.2 r0 23 0 (.int 0)).bind fun s114 =>
     some (.inl (127, [(0, .ref r0), (2, .int 0)], [], q113.1, s114, 0, 0))) ((zm_av (zM 200 [.null, .int 0, .null, .int 0, .int (nI 24)] q105.1 q105.2)).bind fun q115 =>
     (zm_is q115.1 r0 10).bind fun _ => (zm_fw q115.2 r0 23 0 (.int 0)).bind fun s116 =>
     some (.inl (127, [(0, .ref r0), (2, .int 0)], [], q115.1, s116, 0, 0)))))))) ((zm_is q10.1 r0 10).bind fun _ =>
     zm_opt (q10.2.2.2 r0 8) (fun q117 =>
     (zm_av (zM 200 [.null, .int 0, .ref q117, .int 0, .int (nI 15)] q10.1 q10.2)).bind fun q118 =>
     (zm_is q118.1 r0 10).bind fun _ =>
     zm_opt (q118.2.2.2 r0 37) (fun q119 =>
     (zm_is q118.1 r0 10).bind fun _ =>
     zm_opt (q118.2.2.2 r0 9) (fun q120 =>
     (zm_av (zM 200 [.ref q119, .int 0, .ref q120, .int 0, .int (nI 3)] q118.1 q118.2)).bind fun q121 =>
     (zm_is q121.1 r0 10).bind fun _ =>
     zm_opt (q121.2.2.2 r0 38) (fun q122 =>
     (zm_is q121.1 r0 10).bind fun _ =>
     zm_opt (q121.2.2.2 r0 10) (fun q123 =>
     (zm_av (zM 200 [.ref q122, .int 0, .ref q123, .int 0, .int (nI 24)] q121.1 q121.2)).bind fun q124 =>
     (zm_is q124.1 r0 10).bind fun _ => (zm_fw q124.2 r0 23 0 (.int 0)).bind fun s125 =>
     some (.inl (127, [(0, .ref r0), (2, .int 0)], [], q124.1, s125, 0, 0))) ((zm_av (zM 200 [.ref q122, .int 0, .null, .int 0, .int (nI 24)] q121.1 q121.2)).bind fun q126 =>
     (zm_is q126.1 r0 10).bind fun _ => (zm_fw q126.2 r0 23 0 (.int 0)).bind fun s127 =>
     some (.inl (127, [(0, .ref r0), (2, .int 0)], [], q126.1, s127, 0, 0)))) ((zm_is q121.1 r0 10).bind fun _ =>
     zm_opt (q121.2.2.2 r0 10) (fun q128 =>
     (zm_av (zM 200 [.null, .int 0, .ref q128, .int 0, .int (nI 24)] q121.1 q121.2)).bind fun q129 =>
     (zm_is q129.1 r0 10).bind fun _ => (zm_fw q129.2 r0 23 0 (.int 0)).bind fun s130 =>
     some (.inl (127, [(0, .ref r0), (2, .int 0)], [], q129.1, s130, 0, 0))) ((zm_av (zM 200 [.null, .int 0, .null, .int 0, .int (nI 24)] q121.1 q121.2)).bind fun q131 =>
     (zm_is q131.1 r0 10).bind fun _ => (zm_fw q131.2 r0 23 0 (.int 0)).bind fun s132 =>
     some (.inl (127, [(0, .ref r0), (2, .int 0)], [], q131.1, s132, 0, 0))))) ((zm_av (zM 200 [.ref q119, .int 0, .null, .int 0, .int (nI 3)] q118.1 q118.2)).bind fun q133 =>
     (zm_is q133.1 r0 10).bind fun _ =>
     zm_opt (q133.2.2.2 r0 38) (fun q134 =>
     (zm_is q133.1 r0 10).bind fun _ =>
     zm_opt (q133.2.2.2 r0 10) (fun q135 =>
     (zm_av (zM 200 [.ref q134, .int 0, .ref q135, .int 0, .int (nI 24)] q133.1 q133.2)).bind fun q136 =>
     (zm_is q136.1 r0 10).bind fun _ => (zm_fw q136.2 r0 23 0 (.int 0)).bind fun s137 =>
     some (.inl (127, [(0, .ref r0), (2, .int 0)], [], q136.1, s137, 0, 0))) ((zm_av (zM 200 [.ref q134, .int 0, .null, .int 0, .int (nI 24)] q133.1 q133.2)).bind fun q138 =>
     (zm_is q138.1 r0 10).bind fun _ => (zm_fw q138.2 r0 23 0 (.int 0)).bind fun s139 =>
     some (.inl (127, [(0, .ref r0), (2, .int 0)], [], q138.1, s139, 0, 0)))) ((zm_is q133.1 r0 10).bind fun _ =>
     zm_opt (q133.2.2.2 r0 10) (fun q140 =>
     (zm_av (zM 200 [.null, .int 0, .ref q140, .int 0, .int (nI 24)] q133.1 q133.2)).bind fun q141 =>
     (zm_is q141.1 r0 10).bind fun _ => (zm_fw q141.2 r0 23 0 (.int 0)).bind fun s142 =>
     some (.inl (127, [(0, .ref r0), (2, .int 0)], [], q141.1, s142, 0, 0))) ((zm_av (zM 200 [.null, .int 0, .null, .int 0, .int (nI 24)] q133.1 q133.2)).bind fun q143 =>
     (zm_is q143.1 r0 10).bind fun _ => (zm_fw q143.2 r0 23 0 (.int 0)).bind fun s144 =>
     some (.inl (127, [(0, .ref r0), (2, .int 0)], [], q143.1, s144, 0, 0)))))) ((zm_is q118.1 r0 10).bind fun _ =>
     zm_opt (q118.2.2.2 r0 9) (fun q145 =>
     (zm_av (zM 200 [.null, .int 0, .ref q145, .int 0, .int (nI 3)] q118.1 q118.2)).bind fun q146 =>
     (zm_is q146.1 r0 10).bind fun _ =>
     zm_opt (q146.2.2.2 r0 38) (fun q147 =>
     (zm_is q146.1 r0 10).bind fun _ =>
     zm_opt (q146.2.2.2 r0 10) (fun q148 =>
     (zm_av (zM 200 [.ref q147, .int 0, .ref q148, .int 0, .int (nI 24)] q146.1 q146.2)).bind fun q149 =>
     (zm_is q149.1 r0 10).bind fun _ => (zm_fw q149.2 r0 23 0 (.int 0)).bind fun s150 =>
     some (.inl (127, [(0, .ref r0), (2, .int 0)], [], q149.1, s150, 0, 0))) ((zm_av (zM 200 [.ref q147, .int 0, .null, .int 0, .int (nI 24)] q146.1 q146.2)).bind fun q151 =>
     (zm_is q151.1 r0 10).bind fun _ => (zm_fw q151.2 r0 23 0 (.int 0)).bind fun s152 =>
     some (.inl (127, [(0, .ref r0), (2, .int 0)], [], q151.1, s152, 0, 0)))) ((zm_is q146.1 r0 10).bind fun _ =>
     zm_opt (q146.2.2.2 r0 10) (fun q153 =>
     (zm_av (zM 200 [.null, .int 0, .ref q153, .int 0, .int (nI 24)] q146.1 q146.2)).bind fun q154 =>
     (zm_is q154.1 r0 10).bind fun _ => (zm_fw q154.2 r0 23 0 (.int 0)).bind fun s155 =>
     some (.inl (127, [(0, .ref r0), (2, .int 0)], [], q154.1, s155, 0, 0))) ((zm_av (zM 200 [.null, .int 0, .null, .int 0, .int (nI 24)] q146.1 q146.2)).bind fun q156 =>
     (zm_is q156.1 r0 10).bind fun _ => (zm_fw q156.2 r0 23 0 (.int 0)).bind fun s157 =>
     some (.inl (127, [(0, .ref r0), (2, .int 0)], [], q156.1, s157, 0, 0))))) ((zm_av (zM 200 [.null, .int 0, .null, .int 0, .int (nI 3)] q118.1 q118.2)).bind fun q158 =>
     (zm_is q158.1 r0 10).bind fun _ =>
     zm_opt (q158.2.2.2 r0 38) (fun q159 =>
     (zm_is q158.1 r0 10).bind fun _ =>
     zm_opt (q158.2.2.2 r0 10) (fun q160 =>
     (zm_av (zM 200 [.ref q159, .int 0, .ref q160, .int 0, .int (nI 24)] q158.1 q158.2)).bind fun q161 =>
     (zm_is q161.1 r0 10).bind fun _ => (zm_fw q161.2 r0 23 0 (.int 0)).bind fun s162 =>
     some (.inl (127, [(0, .ref r0), (2, .int 0)], [], q161.1, s162, 0, 0))) ((zm_av (zM 200 [.ref q159, .int 0, .null, .int 0, .int (nI 24)] q158.1 q158.2)).bind fun q163 =>
     (zm_is q163.1 r0 10).bind fun _ => (zm_fw q163.2 r0 23 0 (.int 0)).bind fun s164 =>
     some (.inl (127, [(0, .ref r0), (2, .int 0)], [], q163.1, s164, 0, 0)))) ((zm_is q158.1 r0 10).bind fun _ =>
     zm_opt (q158.2.2.2 r0 10) (fun q165 =>
     (zm_av (zM 200 [.null, .int 0, .ref q165, .int 0, .int (nI 24)] q158.1 q158.2)).bind fun q166 =>
     (zm_is q166.1 r0 10).bind fun _ => (zm_fw q166.2 r0 23 0 (.int 0)).bind fun s167 =>
     some (.inl (127, [(0, .ref r0), (2, .int 0)], [], q166.1, s167, 0, 0))) ((zm_av (zM 200 [.null, .int 0, .null, .int 0, .int (nI 24)] q158.1 q158.2)).bind fun q168 =>
     (zm_is q168.1 r0 10).bind fun _ => (zm_fw q168.2 r0 23 0 (.int 0)).bind fun s169 =>
     some (.inl (127, [(0, .ref r0), (2, .int 0)], [], q168.1, s169, 0, 0))))))) ((zm_av (zM 200 [.null, .int 0, .null, .int 0, .int (nI 15)] q10.1 q10.2)).bind fun q170 =>
     (zm_is q170.1 r0 10).bind fun _ =>
     zm_opt (q170.2.2.2 r0 37) (fun q171 =>
     (zm_is q170.1 r0 10).bind fun _ =>
     zm_opt (q170.2.2.2 r0 9) (fun q172 =>
     (zm_av (zM 200 [.ref q171, .int 0, .ref q172, .int 0, .int (nI 3)] q170.1 q170.2)).bind fun q173 =>
     (zm_is q173.1 r0 10).bind fun _ =>
     zm_opt (q173.2.2.2 r0 38) (fun q174 =>
     (zm_is q173.1 r0 10).bind fun _ =>
     zm_opt (q173.2.2.2 r0 10) (fun q175 =>
     (zm_av (zM 200 [.ref q174, .int 0, .ref q175, .int 0, .int (nI 24)] q173.1 q173.2)).bind fun q176 =>
     (zm_is q176.1 r0 10).bind fun _ => (zm_fw q176.2 r0 23 0 (.int 0)).bind fun s177 =>
     some (.inl (127, [(0, .ref r0), (2, .int 0)], [], q176.1, s177, 0, 0))) ((zm_av (zM 200 [.ref q174, .int 0, .null, .int 0, .int (nI 24)] q173.1 q173.2)).bind fun q178 =>
     (zm_is q178.1 r0 10).bind fun _ => (zm_fw q178.2 r0 23 0 (.int 0)).bind fun s179 =>
     some (.inl (127, [(0, .ref r0), (2, .int 0)], [], q178.1, s179, 0, 0)))) ((zm_is q173.1 r0 10).bind fun _ =>
     zm_opt (q173.2.2.2 r0 10) (fun q180 =>
     (zm_av (zM 200 [.null, .int 0, .ref q180, .int 0, .int (nI 24)] q173.1 q173.2)).bind fun q181 =>
     (zm_is q181.1 r0 10).bind fun _ => (zm_fw q181.2 r0 23 0 (.int 0)).bind fun s182 =>
     some (.inl (127, [(0, .ref r0), (2, .int 0)], [], q181.1, s182, 0, 0))) ((zm_av (zM 200 [.null, .int 0, .null, .int 0, .int (nI 24)] q173.1 q173.2)).bind fun q183 =>
     (zm_is q183.1 r0 10).bind fun _ => (zm_fw q183.2 r0 23 0 (.int 0)).bind fun s184 =>
     some (.inl (127, [(0, .ref r0), (2, .int 0)], [], q183.1, s184, 0, 0))))) ((zm_av (zM 200 [.ref q171, .int 0, .null, .int 0, .int (nI 3)] q170.1 q170.2)).bind fun q185 =>
     (zm_is q185.1 r0 10).bind fun _ =>
     zm_opt (q185.2.2.2 r0 38) (fun q186 =>
     (zm_is q185.1 r0 10).bind fun _ =>
     zm_opt (q185.2.2.2 r0 10) (fun q187 =>
     (zm_av (zM 200 [.ref q186, .int 0, .ref q187, .int 0, .int (nI 24)] q185.1 q185.2)).bind fun q188 =>
     (zm_is q188.1 r0 10).bind fun _ => (zm_fw q188.2 r0 23 0 (.int 0)).bind fun s189 =>
     some (.inl (127, [(0, .ref r0), (2, .int 0)], [], q188.1, s189, 0, 0))) ((zm_av (zM 200 [.ref q186, .int 0, .null, .int 0, .int (nI 24)] q185.1 q185.2)).bind fun q190 =>
     (zm_is q190.1 r0 10).bind fun _ => (zm_fw q190.2 r0 23 0 (.int 0)).bind fun s191 =>
     some (.inl (127, [(0, .ref r0), (2, .int 0)], [], q190.1, s191, 0, 0)))) ((zm_is q185.1 r0 10).bind fun _ =>
     zm_opt (q185.2.2.2 r0 10) (fun q192 =>
     (zm_av (zM 200 [.null, .int 0, .ref q192, .int 0, .int (nI 24)] q185.1 q185.2)).bind fun q193 =>
     (zm_is q193.1 r0 10).bind fun _ => (zm_fw q193.2 r0 23 0 (.int 0)).bind fun s194 =>
     some (.inl (127, [(0, .ref r0), (2, .int 0)], [], q193.1, s194, 0, 0))) ((zm_av (zM 200 [.null, .int 0, .null, .int 0, .int (nI 24)] q185.1 q185.2)).bind fun q195 =>
     (zm_is q195.1 r0 10).bind fun _ => (zm_fw q195.2 r0 23 0 (.int 0)).bind fun s196 =>
     some (.inl (127, [(0, .ref r0), (2, .int 0)], [], q195.1, s196, 0, 0)))))) ((zm_is q170.1 r0 10).bind fun _ =>
     zm_opt (q170.2.2.2 r0 9) (fun q197 =>
     (zm_av (zM 200 [.null, .int 0, .ref q197, .int 0, .int (nI 3)] q170.1 q170.2)).bind fun q198 =>
     (zm_is q198.1 r0 10).bind fun _ =>
     zm_opt (q198.2.2.2 r0 38) (fun q199 =>
     (zm_is q198.1 r0 10).bind fun _ =>
     zm_opt (q198.2.2.2 r0 10) (fun q200 =>
     (zm_av (zM 200 [.ref q199, .int 0, .ref q200, .int 0, .int (nI 24)] q198.1 q198.2)).bind fun q201 =>
     (zm_is q201.1 r0 10).bind fun _ => (zm_fw q201.2 r0 23 0 (.int 0)).bind fun s202 =>
     some (.inl (127, [(0, .ref r0), (2, .int 0)], [], q201.1, s202, 0, 0))) ((zm_av (zM 200 [.ref q199, .int 0, .null, .int 0, .int (nI 24)] q198.1 q198.2)).bind fun q203 =>
     (zm_is q203.1 r0 10).bind fun _ => (zm_fw q203.2 r0 23 0 (.int 0)).bind fun s204 =>
     some (.inl (127, [(0, .ref r0), (2, .int 0)], [], q203.1, s204, 0, 0)))) ((zm_is q198.1 r0 10).bind fun _ =>
     zm_opt (q198.2.2.2 r0 10) (fun q205 =>
     (zm_av (zM 200 [.null, .int 0, .ref q205, .int 0, .int (nI 24)] q198.1 q198.2)).bind fun q206 =>
     (zm_is q206.1 r0 10).bind fun _ => (zm_fw q206.2 r0 23 0 (.int 0)).bind fun s207 =>
     some (.inl (127, [(0, .ref r0), (2, .int 0)], [], q206.1, s207, 0, 0))) ((zm_av (zM 200 [.null, .int 0, .null, .int 0, .int (nI 24)] q198.1 q198.2)).bind fun q208 =>
     (zm_is q208.1 r0 10).bind fun _ => (zm_fw q208.2 r0 23 0 (.int 0)).bind fun s209 =>
     some (.inl (127, [(0, .ref r0), (2, .int 0)], [], q208.1, s209, 0, 0))))) ((zm_av (zM 200 [.null, .int 0, .null, .int 0, .int (nI 3)] q170.1 q170.2)).bind fun q210 =>
     (zm_is q210.1 r0 10).bind fun _ =>
     zm_opt (q210.2.2.2 r0 38) (fun q211 =>
     (zm_is q210.1 r0 10).bind fun _ =>
     zm_opt (q210.2.2.2 r0 10) (fun q212 =>
     (zm_av (zM 200 [.ref q211, .int 0, .ref q212, .int 0, .int (nI 24)] q210.1 q210.2)).bind fun q213 =>
     (zm_is q213.1 r0 10).bind fun _ => (zm_fw q213.2 r0 23 0 (.int 0)).bind fun s214 =>
     some (.inl (127, [(0, .ref r0), (2, .int 0)], [], q213.1, s214, 0, 0))) ((zm_av (zM 200 [.ref q211, .int 0, .null, .int 0, .int (nI 24)] q210.1 q210.2)).bind fun q215 =>
     (zm_is q215.1 r0 10).bind fun _ => (zm_fw q215.2 r0 23 0 (.int 0)).bind fun s216 =>
     some (.inl (127, [(0, .ref r0), (2, .int 0)], [], q215.1, s216, 0, 0)))) ((zm_is q210.1 r0 10).bind fun _ =>
     zm_opt (q210.2.2.2 r0 10) (fun q217 =>
     (zm_av (zM 200 [.null, .int 0, .ref q217, .int 0, .int (nI 24)] q210.1 q210.2)).bind fun q218 =>
     (zm_is q218.1 r0 10).bind fun _ => (zm_fw q218.2 r0 23 0 (.int 0)).bind fun s219 =>
     some (.inl (127, [(0, .ref r0), (2, .int 0)], [], q218.1, s219, 0, 0))) ((zm_av (zM 200 [.null, .int 0, .null, .int 0, .int (nI 24)] q210.1 q210.2)).bind fun q220 =>
     (zm_is q220.1 r0 10).bind fun _ => (zm_fw q220.2 r0 23 0 (.int 0)).bind fun s221 =>
     some (.inl (127, [(0, .ref r0), (2, .int 0)], [], q220.1, s221, 0, 0))))))))) ((zm_av (zM 200 [.ref q8, .int 0, .null, .int 0, .int (nI 15)] q4.2.1 s7)).bind fun q222 =>
     (zm_is q222.1 r0 10).bind fun _ =>
     zm_opt (q222.2.2.2 r0 36) (fun q223 =>
     (zm_is q222.1 r0 10).bind fun _ =>
     zm_opt (q222.2.2.2 r0 8) (fun q224 =>
     (zm_av (zM 200 [.ref q223, .int 0, .ref q224, .int 0, .int (nI 15)] q222.1 q222.2)).bind fun q225 =>
     (zm_is q225.1 r0 10).bind fun _ =>
     zm_opt (q225.2.2.2 r0 37) (fun q226 =>
     (zm_is q225.1 r0 10).bind fun _ =>
     zm_opt (q225.2.2.2 r0 9) (fun q227 =>
     (zm_av (zM 200 [.ref q226, .int 0, .ref q227, .int 0, .int (nI 3)] q225.1 q225.2)).bind fun q228 =>
     (zm_is q228.1 r0 10).bind fun _ =>
     zm_opt (q228.2.2.2 r0 38) (fun q229 =>
     (zm_is q228.1 r0 10).bind fun _ =>
     zm_opt (q228.2.2.2 r0 10) (fun q230 =>
     (zm_av (zM 200 [.ref q229, .int 0, .ref q230, .int 0, .int (nI 24)] q228.1 q228.2)).bind fun q231 =>
     (zm_is q231.1 r0 10).bind fun _ => (zm_fw q231.2 r0 23 0 (.int 0)).bind fun s232 =>
     some (.inl (127, [(0, .ref r0), (2, .int 0)], [], q231.1, s232, 0, 0))) ((zm_av (zM 200 [.ref q229, .int 0, .null, .int 0, .int (nI 24)] q228.1 q228.2)).bind fun q233 =>
     (zm_is q233.1 r0 10).bind fun _ => (zm_fw q233.2 r0 23 0 (.int 0)).bind fun s234 =>
     some (.inl (127, [(0, .ref r0), (2, .int 0)], [], q233.1, s234, 0, 0)))) ((zm_is q228.1 r0 10).bind fun _ =>
     zm_opt (q228.2.2.2 r0 10) (fun q235 =>
     (zm_av (zM 200 [.null, .int 0, .ref q235, .int 0, .int (nI 24)] q228.1 q228.2)).bind fun q236 =>
     (zm_is q236.1 r0 10).bind fun _ => (zm_fw q236.2 r0 23 0 (.int 0)).bind fun s237 =>
     some (.inl (127, [(0, .ref r0), (2, .int 0)], [], q236.1, s237, 0, 0))) ((zm_av (zM 200 [.null, .int 0, .null, .int 0, .int (nI 24)] q228.1 q228.2)).bind fun q238 =>
     (zm_is q238.1 r0 10).bind fun _ => (zm_fw q238.2 r0 23 0 (.int 0)).bind fun s239 =>
     some (.inl (127, [(0, .ref r0), (2, .int 0)], [], q238.1, s239, 0, 0))))) ((zm_av (zM 200 [.ref q226, .int 0, .null, .int 0, .int (nI 3)] q225.1 q225.2)).bind fun q240 =>
     (zm_is q240.1 r0 10).bind fun _ =>
     zm_opt (q240.2.2.2 r0 38) (fun q241 =>
     (zm_is q240.1 r0 10).bind fun _ =>
     zm_opt (q240.2.2.2 r0 10) (fun q242 =>
     (zm_av (zM 200 [.ref q241, .int 0, .ref q242, .int 0, .int (nI 24)] q240.1 q240.2)).bind fun q243 =>
     (zm_is q243.1 r0 10).bind fun _ => (zm_fw q243.2 r0 23 0 (.int 0)).bind fun s244 =>
     some (.inl (127, [(0, .ref r0), (2, .int 0)], [], q243.1, s244, 0, 0))) ((zm_av (zM 200 [.ref q241, .int 0, .null, .int 0, .int (nI 24)] q240.1 q240.2)).bind fun q245 =>
     (zm_is q245.1 r0 10).bind fun _ => (zm_fw q245.2 r0 23 0 (.int 0)).bind fun s246 =>
     some (.inl (127, [(0, .ref r0), (2, .int 0)], [], q245.1, s246, 0, 0)))) ((zm_is q240.1 r0 10).bind fun _ =>
     zm_opt (q240.2.2.2 r0 10) (fun q247 =>
     (zm_av (zM 200 [.null, .int 0, .ref q247, .int 0, .int (nI 24)] q240.1 q240.2)).bind fun q248 =>
     (zm_is q248.1 r0 10).bind fun _ => (zm_fw q248.2 r0 23 0 (.int 0)).bind fun s249 =>
     some (.inl (127, [(0, .ref r0), (2, .int 0)], [], q248.1, s249, 0, 0))) ((zm_av (zM 200 [.null, .int 0, .null, .int 0, .int (nI 24)] q240.1 q240.2)).bind fun q250 =>
     (zm_is q250.1 r0 10).bind fun _ => (zm_fw q250.2 r0 23 0 (.int 0)).bind fun s251 =>
     some (.inl (127, [(0, .ref r0), (2, .int 0)], [], q250.1, s251, 0, 0)))))) ((zm_is q225.1 r0 10).bind fun _ =>
     zm_opt (q225.2.2.2 r0 9) (fun q252 =>
     (zm_av (zM 200 [.null, .int 0, .ref q252, .int 0, .int (nI 3)] q225.1 q225.2)).bind fun q253 =>
     (zm_is q253.1 r0 10).bind fun _ =>
     zm_opt (q253.2.2.2 r0 38) (fun q254 =>
     (zm_is q253.1 r0 10).bind fun _ =>
     zm_opt (q253.2.2.2 r0 10) (fun q255 =>
     (zm_av (zM 200 [.ref q254, .int 0, .ref q255, .int 0, .int (nI 24)] q253.1 q253.2)).bind fun q256 =>
     (zm_is q256.1 r0 10).bind fun _ => (zm_fw q256.2 r0 23 0 (.int 0)).bind fun s257 =>
     some (.inl (127, [(0, .ref r0), (2, .int 0)], [], q256.1, s257, 0, 0))) ((zm_av (zM 200 [.ref q254, .int 0, .null, .int 0, .int (nI 24)] q253.1 q253.2)).bind fun q258 =>
     (zm_is q258.1 r0 10).bind fun _ => (zm_fw q258.2 r0 23 0 (.int 0)).bind fun s259 =>
     some (.inl (127, [(0, .ref r0), (2, .int 0)], [], q258.1, s259, 0, 0)))) ((zm_is q253.1 r0 10).bind fun _ =>
     zm_opt (q253.2.2.2 r0 10) (fun q260 =>
     (zm_av (zM 200 [.null, .int 0, .ref q260, .int 0, .int (nI 24)] q253.1 q253.2)).bind fun q261 =>
     (zm_is q261.1 r0 10).bind fun _ => (zm_fw q261.2 r0 23 0 (.int 0)).bind fun s262 =>
     some (.inl (127, [(0, .ref r0), (2, .int 0)], [], q261.1, s262, 0, 0))) ((zm_av (zM 200 [.null, .int 0, .null, .int 0, .int (nI 24)] q253.1 q253.2)).bind fun q263 =>
     (zm_is q263.1 r0 10).bind fun _ => (zm_fw q263.2 r0 23 0 (.int 0)).bind fun s264 =>
     some (.inl (127, [(0, .ref r0), (2, .int 0)], [], q263.1, s264, 0, 0))))) ((zm_av (zM 200 [.null, .int 0, .null, .int 0, .int (nI 3)] q225.1 q225.2)).bind fun q265 =>
     (zm_is q265.1 r0 10).bind fun _ =>
     zm_opt (q265.2.2.2 r0 38) (fun q266 =>
     (zm_is q265.1 r0 10).bind fun _ =>
     zm_opt (q265.2.2.2 r0 10) (fun q267 =>
     (zm_av (zM 200 [.ref q266, .int 0, .ref q267, .int 0, .int (nI 24)] q265.1 q265.2)).bind fun q268 =>
     (zm_is q268.1 r0 10).bind fun _ => (zm_fw q268.2 r0 23 0 (.int 0)).bind fun s269 =>
     some (.inl (127, [(0, .ref r0), (2, .int 0)], [], q268.1, s269, 0, 0))) ((zm_av (zM 200 [.ref q266, .int 0, .null, .int 0, .int (nI 24)] q265.1 q265.2)).bind fun q270 =>
     (zm_is q270.1 r0 10).bind fun _ => (zm_fw q270.2 r0 23 0 (.int 0)).bind fun s271 =>
     some (.inl (127, [(0, .ref r0), (2, .int 0)], [], q270.1, s271, 0, 0)))) ((zm_is q265.1 r0 10).bind fun _ =>
     zm_opt (q265.2.2.2 r0 10) (fun q272 =>
     (zm_av (zM 200 [.null, .int 0, .ref q272, .int 0, .int (nI 24)] q265.1 q265.2)).bind fun q273 =>
     (zm_is q273.1 r0 10).bind fun _ => (zm_fw q273.2 r0 23 0 (.int 0)).bind fun s274 =>
     some (.inl (127, [(0, .ref r0), (2, .int 0)], [], q273.1, s274, 0, 0))) ((zm_av (zM 200 [.null, .int 0, .null, .int 0, .int (nI 24)] q265.1 q265.2)).bind fun q275 =>
     (zm_is q275.1 r0 10).bind fun _ => (zm_fw q275.2 r0 23 0 (.int 0)).bind fun s276 =>
     some (.inl (127, [(0, .ref r0), (2, .int 0)], [], q275.1, s276, 0, 0))))))) ((zm_av (zM 200 [.ref q223, .int 0, .null, .int 0, .int (nI 15)] q222.1 q222.2)).bind fun q277 =>
     (zm_is q277.1 r0 10).bind fun _ =>
     zm_opt (q277.2.2.2 r0 37) (fun q278 =>
     (zm_is q277.1 r0 10).bind fun _ =>
     zm_opt (q277.2.2.2 r0 9) (fun q279 =>
     (zm_av (zM 200 [.ref q278, .int 0, .ref q279, .int 0, .int (nI 3)] q277.1 q277.2)).bind fun q280 =>
     (zm_is q280.1 r0 10).bind fun _ =>
     zm_opt (q280.2.2.2 r0 38) (fun q281 =>
     (zm_is q280.1 r0 10).bind fun _ =>
     zm_opt (q280.2.2.2 r0 10) (fun q282 =>
     (zm_av (zM 200 [.ref q281, .int 0, .ref q282, .int 0, .int (nI 24)] q280.1 q280.2)).bind fun q283 =>
     (zm_is q283.1 r0 10).bind fun _ => (zm_fw q283.2 r0 23 0 (.int 0)).bind fun s284 =>
     some (.inl (127, [(0, .ref r0), (2, .int 0)], [], q283.1, s284, 0, 0))) ((zm_av (zM 200 [.ref q281, .int 0, .null, .int 0, .int (nI 24)] q280.1 q280.2)).bind fun q285 =>
     (zm_is q285.1 r0 10).bind fun _ => (zm_fw q285.2 r0 23 0 (.int 0)).bind fun s286 =>
     some (.inl (127, [(0, .ref r0), (2, .int 0)], [], q285.1, s286, 0, 0)))) ((zm_is q280.1 r0 10).bind fun _ =>
     zm_opt (q280.2.2.2 r0 10) (fun q287 =>
     (zm_av (zM 200 [.null, .int 0, .ref q287, .int 0, .int (nI 24)] q280.1 q280.2)).bind fun q288 =>
     (zm_is q288.1 r0 10).bind fun _ => (zm_fw q288.2 r0 23 0 (.int 0)).bind fun s289 =>
     some (.inl (127, [(0, .ref r0), (2, .int 0)], [], q288.1, s289, 0, 0))) ((zm_av (zM 200 [.null, .int 0, .null, .int 0, .int (nI 24)] q280.1 q280.2)).bind fun q290 =>
     (zm_is q290.1 r0 10).bind fun _ => (zm_fw q290.2 r0 23 0 (.int 0)).bind fun s291 =>
     some (.inl (127, [(0, .ref r0), (2, .int 0)], [], q290.1, s291, 0, 0))))) ((zm_av (zM 200 [.ref q278, .int 0, .null, .int 0, .int (nI 3)] q277.1 q277.2)).bind fun q292 =>
     (zm_is q292.1 r0 10).bind fun _ =>
     zm_opt (q292.2.2.2 r0 38) (fun q293 =>
     (zm_is q292.1 r0 10).bind fun _ =>
     zm_opt (q292.2.2.2 r0 10) (fun q294 =>
     (zm_av (zM 200 [.ref q293, .int 0, .ref q294, .int 0, .int (nI 24)] q292.1 q292.2)).bind fun q295 =>
     (zm_is q295.1 r0 10).bind fun _ => (zm_fw q295.2 r0 23 0 (.int 0)).bind fun s296 =>
     some (.inl (127, [(0, .ref r0), (2, .int 0)], [], q295.1, s296, 0, 0))) ((zm_av (zM 200 [.ref q293, .int 0, .null, .int 0, .int (nI 24)] q292.1 q292.2)).bind fun q297 =>
     (zm_is q297.1 r0 10).bind fun _ => (zm_fw q297.2 r0 23 0 (.int 0)).bind fun s298 =>
     some (.inl (127, [(0, .ref r0), (2, .int 0)], [], q297.1, s298, 0, 0)))) ((zm_is q292.1 r0 10).bind fun _ =>
     zm_opt (q292.2.2.2 r0 10) (fun q299 =>
     (zm_av (zM 200 [.null, .int 0, .ref q299, .int 0, .int (nI 24)] q292.1 q292.2)).bind fun q300 =>
     (zm_is q300.1 r0 10).bind fun _ => (zm_fw q300.2 r0 23 0 (.int 0)).bind fun s301 =>
     some (.inl (127, [(0, .ref r0), (2, .int 0)], [], q300.1, s301, 0, 0))) ((zm_av (zM 200 [.null, .int 0, .null, .int 0, .int (nI 24)] q292.1 q292.2)).bind fun q302 =>
     (zm_is q302.1 r0 10).bind fun _ => (zm_fw q302.2 r0 23 0 (.int 0)).bind fun s303 =>
     some (.inl (127, [(0, .ref r0), (2, .int 0)], [], q302.1, s303, 0, 0)))))) ((zm_is q277.1 r0 10).bind fun _ =>
     zm_opt (q277.2.2.2 r0 9) (fun q304 =>
     (zm_av (zM 200 [.null, .int 0, .ref q304, .int 0, .int (nI 3)] q277.1 q277.2)).bind fun q305 =>
     (zm_is q305.1 r0 10).bind fun _ =>
     zm_opt (q305.2.2.2 r0 38) (fun q306 =>
     (zm_is q305.1 r0 10).bind fun _ =>
     zm_opt (q305.2.2.2 r0 10) (fun q307 =>
     (zm_av (zM 200 [.ref q306, .int 0, .ref q307, .int 0, .int (nI 24)] q305.1 q305.2)).bind fun q308 =>
     (zm_is q308.1 r0 10).bind fun _ => (zm_fw q308.2 r0 23 0 (.int 0)).bind fun s309 =>
     some (.inl (127, [(0, .ref r0), (2, .int 0)], [], q308.1, s309, 0, 0))) ((zm_av (zM 200 [.ref q306, .int 0, .null, .int 0, .int (nI 24)] q305.1 q305.2)).bind fun q310 =>
     (zm_is q310.1 r0 10).bind fun _ => (zm_fw q310.2 r0 23 0 (.int 0)).bind fun s311 =>
     some (.inl (127, [(0, .ref r0), (2, .int 0)], [], q310.1, s311, 0, 0)))) ((zm_is q305.1 r0 10).bind fun _ =>
     zm_opt (q305.2.2.2 r0 10) (fun q312 =>
     (zm_av (zM 200 [.null, .int 0, .ref q312, .int 0, .int (nI 24)] q305.1 q305.2)).bind fun q313 =>
     (zm_is q313.1 r0 10).bind fun _ => (zm_fw q313.2 r0 23 0 (.int 0)).bind fun s314 =>
     some (.inl (127, [(0, .ref r0), (2, .int 0)], [], q313.1, s314, 0, 0))) ((zm_av (zM 200 [.null, .int 0, .null, .int 0, .int (nI 24)] q305.1 q305.2)).bind fun q315 =>
     (zm_is q315.1 r0 10).bind fun _ => (zm_fw q315.2 r0 23 0 (.int 0)).bind fun s316 =>
     some (.inl (127, [(0, .ref r0), (2, .int 0)], [], q315.1, s316, 0, 0))))) ((zm_av (zM 200 [.null, .int 0, .null, .int 0, .int (nI 3)] q277.1 q277.2)).bind fun q317 =>
     (zm_is q317.1 r0 10).bind fun _ =>
     zm_opt (q317.2.2.2 r0 38) (fun q318 =>
     (zm_is q317.1 r0 10).bind fun _ =>
     zm_opt (q317.2.2.2 r0 10) (fun q319 =>
     (zm_av (zM 200 [.ref q318, .int 0, .ref q319, .int 0, .int (nI 24)] q317.1 q317.2)).bind fun q320 =>
     (zm_is q320.1 r0 10).bind fun _ => (zm_fw q320.2 r0 23 0 (.int 0)).bind fun s321 =>
     some (.inl (127, [(0, .ref r0), (2, .int 0)], [], q320.1, s321, 0, 0))) ((zm_av (zM 200 [.ref q318, .int 0, .null, .int 0, .int (nI 24)] q317.1 q317.2)).bind fun q322 =>
     (zm_is q322.1 r0 10).bind fun _ => (zm_fw q322.2 r0 23 0 (.int 0)).bind fun s323 =>
     some (.inl (127, [(0, .ref r0), (2, .int 0)], [], q322.1, s323, 0, 0)))) ((zm_is q317.1 r0 10).bind fun _ =>
     zm_opt (q317.2.2.2 r0 10) (fun q324 =>
     (zm_av (zM 200 [.null, .int 0, .ref q324, .int 0, .int (nI 24)] q317.1 q317.2)).bind fun q325 =>
     (zm_is q325.1 r0 10).bind fun _ => (zm_fw q325.2 r0 23 0 (.int 0)).bind fun s326 =>
     some (.inl (127, [(0, .ref r0), (2, .int 0)], [], q325.1, s326, 0, 0))) ((zm_av (zM 200 [.null, .int 0, .null, .int 0, .int (nI 24)] q317.1 q317.2)).bind fun q327 =>
     (zm_is q327.1 r0 10).bind fun _ => (zm_fw q327.2 r0 23 0 (.int 0)).bind fun s328 =>
     some (.inl (127, [(0, .ref r0), (2, .int 0)], [], q327.1, s328, 0, 0)))))))) ((zm_is q222.1 r0 10).bind fun _ =>
     zm_opt (q222.2.2.2 r0 8) (fun q329 =>
     (zm_av (zM 200 [.null, .int 0, .ref q329, .int 0, .int (nI 15)] q222.1 q222.2)).bind fun q330 =>
     (zm_is q330.1 r0 10).bind fun _ =>
     zm_opt (q330.2.2.2 r0 37) (fun q331 =>
     (zm_is q330.1 r0 10).bind fun _ =>
     zm_opt (q330.2.2.2 r0 9) (fun q332 =>
     (zm_av (zM 200 [.ref q331, .int 0, .ref q332, .int 0, .int (nI 3)] q330.1 q330.2)).bind fun q333 =>
     (zm_is q333.1 r0 10).bind fun _ =>
     zm_opt (q333.2.2.2 r0 38) (fun q334 =>
     (zm_is q333.1 r0 10).bind fun _ =>
     zm_opt (q333.2.2.2 r0 10) (fun q335 =>
     (zm_av (zM 200 [.ref q334, .int 0, .ref q335, .int 0, .int (nI 24)] q333.1 q333.2)).bind fun q336 =>
     (zm_is q336.1 r0 10).bind fun _ => (zm_fw q336.2 r0 23 0 (.int 0)).bind fun s337 =>
     some (.inl (127, [(0, .ref r0), (2, .int 0)], [], q336.1, s337, 0, 0))) ((zm_av (zM 200 [.ref q334, .int 0, .null, .int 0, .int (nI 24)] q333.1 q333.2)).bind fun q338 =>
     (zm_is q338.1 r0 10).bind fun _ => (zm_fw q338.2 r0 23 0 (.int 0)).bind fun s339 =>
     some (.inl (127, [(0, .ref r0), (2, .int 0)], [], q338.1, s339, 0, 0)))) ((zm_is q333.1 r0 10).bind fun _ =>
     zm_opt (q333.2.2.2 r0 10) (fun q340 =>
     (zm_av (zM 200 [.null, .int 0, .ref q340, .int 0, .int (nI 24)] q333.1 q333.2)).bind fun q341 =>
     (zm_is q341.1 r0 10).bind fun _ => (zm_fw q341.2 r0 23 0 (.int 0)).bind fun s342 =>
     some (.inl (127, [(0, .ref r0), (2, .int 0)], [], q341.1, s342, 0, 0))) ((zm_av (zM 200 [.null, .int 0, .null, .int 0, .int (nI 24)] q333.1 q333.2)).bind fun q343 =>
     (zm_is q343.1 r0 10).bind fun _ => (zm_fw q343.2 r0 23 0 (.int 0)).bind fun s344 =>
     some (.inl (127, [(0, .ref r0), (2, .int 0)], [], q343.1, s344, 0, 0))))) ((zm_av (zM 200 [.ref q331, .int 0, .null, .int 0, .int (nI 3)] q330.1 q330.2)).bind fun q345 =>
     (zm_is q345.1 r0 10).bind fun _ =>
     zm_opt (q345.2.2.2 r0 38) (fun q346 =>
     (zm_is q345.1 r0 10).bind fun _ =>
     zm_opt (q345.2.2.2 r0 10) (fun q347 =>
     (zm_av (zM 200 [.ref q346, .int 0, .ref q347, .int 0, .int (nI 24)] q345.1 q345.2)).bind fun q348 =>
     (zm_is q348.1 r0 10).bind fun _ => (zm_fw q348.2 r0 23 0 (.int 0)).bind fun s349 =>
     some (.inl (127, [(0, .ref r0), (2, .int 0)], [], q348.1, s349, 0, 0))) ((zm_av (zM 200 [.ref q346, .int 0, .null, .int 0, .int (nI 24)] q345.1 q345.2)).bind fun q350 =>
     (zm_is q350.1 r0 10).bind fun _ => (zm_fw q350.2 r0 23 0 (.int 0)).bind fun s351 =>
     some (.inl (127, [(0, .ref r0), (2, .int 0)], [], q350.1, s351, 0, 0)))) ((zm_is q345.1 r0 10).bind fun _ =>
     zm_opt (q345.2.2.2 r0 10) (fun q352 =>
     (zm_av (zM 200 [.null, .int 0, .ref q352, .int 0, .int (nI 24)] q345.1 q345.2)).bind fun q353 =>
     (zm_is q353.1 r0 10).bind fun _ => (zm_fw q353.2 r0 23 0 (.int 0)).bind fun s354 =>
     some (.inl (127, [(0, .ref r0), (2, .int 0)], [], q353.1, s354, 0, 0))) ((zm_av (zM 200 [.null, .int 0, .null, .int 0, .int (nI 24)] q345.1 q345.2)).bind fun q355 =>
     (zm_is q355.1 r0 10).bind fun _ => (zm_fw q355.2 r0 23 0 (.int 0)).bind fun s356 =>
     some (.inl (127, [(0, .ref r0), (2, .int 0)], [], q355.1, s356, 0, 0)))))) ((zm_is q330.1 r0 10).bind fun _ =>
     zm_opt (q330.2.2.2 r0 9) (fun q357 =>
     (zm_av (zM 200 [.null, .int 0, .ref q357, .int 0, .int (nI 3)] q330.1 q330.2)).bind fun q358 =>
     (zm_is q358.1 r0 10).bind fun _ =>
     zm_opt (q358.2.2.2 r0 38) (fun q359 =>
     (zm_is q358.1 r0 10).bind fun _ =>
     zm_opt (q358.2.2.2 r0 10) (fun q360 =>
     (zm_av (zM 200 [.ref q359, .int 0, .ref q360, .int 0, .int (nI 24)] q358.1 q358.2)).bind fun q361 =>
     (zm_is q361.1 r0 10).bind fun _ => (zm_fw q361.2 r0 23 0 (.int 0)).bind fun s362 =>
     some (.inl (127, [(0, .ref r0), (2, .int 0)], [], q361.1, s362, 0, 0))) ((zm_av (zM 200 [.ref q359, .int 0, .null, .int 0, .int (nI 24)] q358.1 q358.2)).bind fun q363 =>
     (zm_is q363.1 r0 10).bind fun _ => (zm_fw q363.2 r0 23 0 (.int 0)).bind fun s364 =>
     some (.inl (127, [(0, .ref r0), (2, .int 0)], [], q363.1, s364, 0, 0)))) ((zm_is q358.1 r0 10).bind fun _ =>
     zm_opt (q358.2.2.2 r0 10) (fun q365 =>
     (zm_av (zM 200 [.null, .int 0, .ref q365, .int 0, .int (nI 24)] q358.1 q358.2)).bind fun q366 =>
     (zm_is q366.1 r0 10).bind fun _ => (zm_fw q366.2 r0 23 0 (.int 0)).bind fun s367 =>
     some (.inl (127, [(0, .ref r0), (2, .int 0)], [], q366.1, s367, 0, 0))) ((zm_av (zM 200 [.null, .int 0, .null, .int 0, .int (nI 24)] q358.1 q358.2)).bind fun q368 =>
     (zm_is q368.1 r0 10).bind fun _ => (zm_fw q368.2 r0 23 0 (.int 0)).bind fun s369 =>
     some (.inl (127, [(0, .ref r0), (2, .int 0)], [], q368.1, s369, 0, 0))))) ((zm_av (zM 200 [.null, .int 0, .null, .int 0, .int (nI 3)] q330.1 q330.2)).bind fun q370 =>
     (zm_is q370.1 r0 10).bind fun _ =>
     zm_opt (q370.2.2.2 r0 38) (fun q371 =>
     (zm_is q370.1 r0 10).bind fun _ =>
     zm_opt (q370.2.2.2 r0 10) (fun q372 =>
     (zm_av (zM 200 [.ref q371, .int 0, .ref q372, .int 0, .int (nI 24)] q370.1 q370.2)).bind fun q373 =>
     (zm_is q373.1 r0 10).bind fun _ => (zm_fw q373.2 r0 23 0 (.int 0)).bind fun s374 =>
     some (.inl (127, [(0, .ref r0), (2, .int 0)], [], q373.1, s374, 0, 0))) ((zm_av (zM 200 [.ref q371, .int 0, .null, .int 0, .int (nI 24)] q370.1 q370.2)).bind fun q375 =>
     (zm_is q375.1 r0 10).bind fun _ => (zm_fw q375.2 r0 23 0 (.int 0)).bind fun s376 =>
     some (.inl (127, [(0, .ref r0), (2, .int 0)], [], q375.1, s376, 0, 0)))) ((zm_is q370.1 r0 10).bind fun _ =>
     zm_opt (q370.2.2.2 r0 10) (fun q377 =>
     (zm_av (zM 200 [.null, .int 0, .ref q377, .int 0, .int (nI 24)] q370.1 q370.2)).bind fun q378 =>
     (zm_is q378.1 r0 10).bind fun _ => (zm_fw q378.2 r0 23 0 (.int 0)).bind fun s379 =>
     some (.inl (127, [(0, .ref r0), (2, .int 0)], [], q378.1, s379, 0, 0))) ((zm_av (zM 200 [.null, .int 0, .null, .int 0, .int (nI 24)] q370.1 q370.2)).bind fun q380 =>
     (zm_is q380.1 r0 10).bind fun _ => (zm_fw q380.2 r0 23 0 (.int 0)).bind fun s381 =>
     some (.inl (127, [(0, .ref r0), (2, .int 0)], [], q380.1, s381, 0, 0))))))) ((zm_av (zM 200 [.null, .int 0, .null, .int 0, .int (nI 15)] q222.1 q222.2)).bind fun q382 =>
     (zm_is q382.1 r0 10).bind fun _ =>
     zm_opt (q382.2.2.2 r0 37) (fun q383 =>
     (zm_is q382.1 r0 10).bind fun _ =>
     zm_opt (q382.2.2.2 r0 9) (fun q384 =>
     (zm_av (zM 200 [.ref q383, .int 0, .ref q384, .int 0, .int (nI 3)] q382.1 q382.2)).bind fun q385 =>
     (zm_is q385.1 r0 10).bind fun _ =>
     zm_opt (q385.2.2.2 r0 38) (fun q386 =>
     (zm_is q385.1 r0 10).bind fun _ =>
     zm_opt (q385.2.2.2 r0 10) (fun q387 =>
     (zm_av (zM 200 [.ref q386, .int 0, .ref q387, .int 0, .int (nI 24)] q385.1 q385.2)).bind fun q388 =>
     (zm_is q388.1 r0 10).bind fun _ => (zm_fw q388.2 r0 23 0 (.int 0)).bind fun s389 =>
     some (.inl (127, [(0, .ref r0), (2, .int 0)], [], q388.1, s389, 0, 0))) ((zm_av (zM 200 [.ref q386, .int 0, .null, .int 0, .int (nI 24)] q385.1 q385.2)).bind fun q390 =>
     (zm_is q390.1 r0 10).bind fun _ => (zm_fw q390.2 r0 23 0 (.int 0)).bind fun s391 =>
     some (.inl (127, [(0, .ref r0), (2, .int 0)], [], q390.1, s391, 0, 0)))) ((zm_is q385.1 r0 10).bind fun _ =>
     zm_opt (q385.2.2.2 r0 10) (fun q392 =>
     (zm_av (zM 200 [.null, .int 0, .ref q392, .int 0, .int (nI 24)] q385.1 q385.2)).bind fun q393 =>
     (zm_is q393.1 r0 10).bind fun _ => (zm_fw q393.2 r0 23 0 (.int 0)).bind fun s394 =>
     some (.inl (127, [(0, .ref r0), (2, .int 0)], [], q393.1, s394, 0, 0))) ((zm_av (zM 200 [.null, .int 0, .null, .int 0, .int (nI 24)] q385.1 q385.2)).bind fun q395 =>
     (zm_is q395.1 r0 10).bind fun _ => (zm_fw q395.2 r0 23 0 (.int 0)).bind fun s396 =>
     some (.inl (127, [(0, .ref r0), (2, .int 0)], [], q395.1, s396, 0, 0))))) ((zm_av (zM 200 [.ref q383, .int 0, .null, .int 0, .int (nI 3)] q382.1 q382.2)).bind fun q397 =>
     (zm_is q397.1 r0 10).bind fun _ =>
     zm_opt (q397.2.2.2 r0 38) (fun q398 =>
     (zm_is q397.1 r0 10).bind fun _ =>
     zm_opt (q397.2.2.2 r0 10) (fun q399 =>
     (zm_av (zM 200 [.ref q398, .int 0, .ref q399, .int 0, .int (nI 24)] q397.1 q397.2)).bind fun q400 =>
     (zm_is q400.1 r0 10).bind fun _ => (zm_fw q400.2 r0 23 0 (.int 0)).bind fun s401 =>
     some (.inl (127, [(0, .ref r0), (2, .int 0)], [], q400.1, s401, 0, 0))) ((zm_av (zM 200 [.ref q398, .int 0, .null, .int 0, .int (nI 24)] q397.1 q397.2)).bind fun q402 =>
     (zm_is q402.1 r0 10).bind fun _ => (zm_fw q402.2 r0 23 0 (.int 0)).bind fun s403 =>
     some (.inl (127, [(0, .ref r0), (2, .int 0)], [], q402.1, s403, 0, 0)))) ((zm_is q397.1 r0 10).bind fun _ =>
     zm_opt (q397.2.2.2 r0 10) (fun q404 =>
     (zm_av (zM 200 [.null, .int 0, .ref q404, .int 0, .int (nI 24)] q397.1 q397.2)).bind fun q405 =>
     (zm_is q405.1 r0 10).bind fun _ => (zm_fw q405.2 r0 23 0 (.int 0)).bind fun s406 =>
     some (.inl (127, [(0, .ref r0), (2, .int 0)], [], q405.1, s406, 0, 0))) ((zm_av (zM 200 [.null, .int 0, .null, .int 0, .int (nI 24)] q397.1 q397.2)).bind fun q407 =>
     (zm_is q407.1 r0 10).bind fun _ => (zm_fw q407.2 r0 23 0 (.int 0)).bind fun s408 =>
     some (.inl (127, [(0, .ref r0), (2, .int 0)], [], q407.1, s408, 0, 0)))))) ((zm_is q382.1 r0 10).bind fun _ =>
     zm_opt (q382.2.2.2 r0 9) (fun q409 =>
     (zm_av (zM 200 [.null, .int 0, .ref q409, .int 0, .int (nI 3)] q382.1 q382.2)).bind fun q410 =>
     (zm_is q410.1 r0 10).bind fun _ =>
     zm_opt (q410.2.2.2 r0 38) (fun q411 =>
     (zm_is q410.1 r0 10).bind fun _ =>
     zm_opt (q410.2.2.2 r0 10) (fun q412 =>
     (zm_av (zM 200 [.ref q411, .int 0, .ref q412, .int 0, .int (nI 24)] q410.1 q410.2)).bind fun q413 =>
     (zm_is q413.1 r0 10).bind fun _ => (zm_fw q413.2 r0 23 0 (.int 0)).bind fun s414 =>
     some (.inl (127, [(0, .ref r0), (2, .int 0)], [], q413.1, s414, 0, 0))) ((zm_av (zM 200 [.ref q411, .int 0, .null, .int 0, .int (nI 24)] q410.1 q410.2)).bind fun q415 =>
     (zm_is q415.1 r0 10).bind fun _ => (zm_fw q415.2 r0 23 0 (.int 0)).bind fun s416 =>
     some (.inl (127, [(0, .ref r0), (2, .int 0)], [], q415.1, s416, 0, 0)))) ((zm_is q410.1 r0 10).bind fun _ =>
     zm_opt (q410.2.2.2 r0 10) (fun q417 =>
     (zm_av (zM 200 [.null, .int 0, .ref q417, .int 0, .int (nI 24)] q410.1 q410.2)).bind fun q418 =>
     (zm_is q418.1 r0 10).bind fun _ => (zm_fw q418.2 r0 23 0 (.int 0)).bind fun s419 =>
     some (.inl (127, [(0, .ref r0), (2, .int 0)], [], q418.1, s419, 0, 0))) ((zm_av (zM 200 [.null, .int 0, .null, .int 0, .int (nI 24)] q410.1 q410.2)).bind fun q420 =>
     (zm_is q420.1 r0 10).bind fun _ => (zm_fw q420.2 r0 23 0 (.int 0)).bind fun s421 =>
     some (.inl (127, [(0, .ref r0), (2, .int 0)], [], q420.1, s421, 0, 0))))) ((zm_av (zM 200 [.null, .int 0, .null, .int 0, .int (nI 3)] q382.1 q382.2)).bind fun q422 =>
     (zm_is q422.1 r0 10).bind fun _ =>
     zm_opt (q422.2.2.2 r0 38) (fun q423 =>
     (zm_is q422.1 r0 10).bind fun _ =>
     zm_opt (q422.2.2.2 r0 10) (fun q424 =>
     (zm_av (zM 200 [.ref q423, .int 0, .ref q424, .int 0, .int (nI 24)] q422.1 q422.2)).bind fun q425 =>
     (zm_is q425.1 r0 10).bind fun _ => (zm_fw q425.2 r0 23 0 (.int 0)).bind fun s426 =>
     some (.inl (127, [(0, .ref r0), (2, .int 0)], [], q425.1, s426, 0, 0))) ((zm_av (zM 200 [.ref q423, .int 0, .null, .int 0, .int (nI 24)] q422.1 q422.2)).bind fun q427 =>
     (zm_is q427.1 r0 10).bind fun _ => (zm_fw q427.2 r0 23 0 (.int 0)).bind fun s428 =>
     some (.inl (127, [(0, .ref r0), (2, .int 0)], [], q427.1, s428, 0, 0)))) ((zm_is q422.1 r0 10).bind fun _ =>
     zm_opt (q422.2.2.2 r0 10) (fun q429 =>
     (zm_av (zM 200 [.null, .int 0, .ref q429, .int 0, .int (nI 24)] q422.1 q422.2)).bind fun q430 =>
     (zm_is q430.1 r0 10).bind fun _ => (zm_fw q430.2 r0 23 0 (.int 0)).bind fun s431 =>
     some (.inl (127, [(0, .ref r0), (2, .int 0)], [], q430.1, s431, 0, 0))) ((zm_av (zM 200 [.null, .int 0, .null, .int 0, .int (nI 24)] q422.1 q422.2)).bind fun q432 =>
     (zm_is q432.1 r0 10).bind fun _ => (zm_fw q432.2 r0 23 0 (.int 0)).bind fun s433 =>
     some (.inl (127, [(0, .ref r0), (2, .int 0)], [], q432.1, s433, 0, 0)))))))))) ((zm_is q4.2.1 r0 10).bind fun _ =>
     zm_opt (s7.2.2 r0 7) (fun q434 =>
     (zm_av (zM 200 [.null, .int 0, .ref q434, .int 0, .int (nI 15)] q4.2.1 s7)).bind fun q435 =>
     (zm_is q435.1 r0 10).bind fun _ =>
     zm_opt (q435.2.2.2 r0 36) (fun q436 =>
     (zm_is q435.1 r0 10).bind fun _ =>
     zm_opt (q435.2.2.2 r0 8) (fun q437 =>
     (zm_av (zM 200 [.ref q436, .int 0, .ref q437, .int 0, .int (nI 15)] q435.1 q435.2)).bind fun q438 =>
     (zm_is q438.1 r0 10).bind fun _ =>
     zm_opt (q438.2.2.2 r0 37) (fun q439 =>
     (zm_is q438.1 r0 10).bind fun _ =>
     zm_opt (q438.2.2.2 r0 9) (fun q440 =>
     (zm_av (zM 200 [.ref q439, .int 0, .ref q440, .int 0, .int (nI 3)] q438.1 q438.2)).bind fun q441 =>
     (zm_is q441.1 r0 10).bind fun _ =>
     zm_opt (q441.2.2.2 r0 38) (fun q442 =>
     (zm_is q441.1 r0 10).bind fun _ =>
     zm_opt (q441.2.2.2 r0 10) (fun q443 =>
     (zm_av (zM 200 [.ref q442, .int 0, .ref q443, .int 0, .int (nI 24)] q441.1 q441.2)).bind fun q444 =>
     (zm_is q444.1 r0 10).bind fun _ => (zm_fw q444.2 r0 23 0 (.int 0)).bind fun s445 =>
     some (.inl (127, [(0, .ref r0), (2, .int 0)], [], q444.1, s445, 0, 0))) ((zm_av (zM 200 [.ref q442, .int 0, .null, .int 0, .int (nI 24)] q441.1 q441.2)).bind fun q446 =>
     (zm_is q446.1 r0 10).bind fun _ => (zm_fw q446.2 r0 23 0 (.int 0)).bind fun s447 =>
     some (.inl (127, [(0, .ref r0), (2, .int 0)], [], q446.1, s447, 0, 0)))) ((zm_is q441.1 r0 10).bind fun _ =>
     zm_opt (q441.2.2.2 r0 10) (fun q448 =>
     (zm_av (zM 200 [.null, .int 0, .ref q448, .int 0, .int (nI 24)] q441.1 q441.2)).bind fun q449 =>
     (zm_is q449.1 r0 10).bind fun _ => (zm_fw q449.2 r0 23 0 (.int 0)).bind fun s450 =>
     some (.inl (127, [(0, .ref r0), (2, .int 0)], [], q449.1, s450, 0, 0))) ((zm_av (zM 200 [.null, .int 0, .null, .int 0, .int (nI 24)] q441.1 q441.2)).bind fun q451 =>
     (zm_is q451.1 r0 10).bind fun _ => (zm_fw q451.2 r0 23 0 (.int 0)).bind fun s452 =>
     some (.inl (127, [(0, .ref r0), (2, .int 0)], [], q451.1, s452, 0, 0))))) ((zm_av (zM 200 [.ref q439, .int 0, .null, .int 0, .int (nI 3)] q438.1 q438.2)).bind fun q453 =>
     (zm_is q453.1 r0 10).bind fun _ =>
     zm_opt (q453.2.2.2 r0 38) (fun q454 =>
     (zm_is q453.1 r0 10).bind fun _ =>
     zm_opt (q453.2.2.2 r0 10) (fun q455 =>
     (zm_av (zM 200 [.ref q454, .int 0, .ref q455, .int 0, .int (nI 24)] q453.1 q453.2)).bind fun q456 =>
     (zm_is q456.1 r0 10).bind fun _ => (zm_fw q456.2 r0 23 0 (.int 0)).bind fun s457 =>
     some (.inl (127, [(0, .ref r0), (2, .int 0)], [], q456.1, s457, 0, 0))) ((zm_av (zM 200 [.ref q454, .int 0, .null, .int 0, .int (nI 24)] q453.1 q453.2)).bind fun q458 =>
     (zm_is q458.1 r0 10).bind fun _ => (zm_fw q458.2 r0 23 0 (.int 0)).bind fun s459 =>
     some (.inl (127, [(0, .ref r0), (2, .int 0)], [], q458.1, s459, 0, 0)))) ((zm_is q453.1 r0 10).bind fun _ =>
     zm_opt (q453.2.2.2 r0 10) (fun q460 =>
     (zm_av (zM 200 [.null, .int 0, .ref q460, .int 0, .int (nI 24)] q453.1 q453.2)).bind fun q461 =>
     (zm_is q461.1 r0 10).bind fun _ => (zm_fw q461.2 r0 23 0 (.int 0)).bind fun s462 =>
     some (.inl (127, [(0, .ref r0), (2, .int 0)], [], q461.1, s462, 0, 0))) ((zm_av (zM 200 [.null, .int 0, .null, .int 0, .int (nI 24)] q453.1 q453.2)).bind fun q463 =>
     (zm_is q463.1 r0 10).bind fun _ => (zm_fw q463.2 r0 23 0 (.int 0)).bind fun s464 =>
     some (.inl (127, [(0, .ref r0), (2, .int 0)], [], q463.1, s464, 0, 0)))))) ((zm_is q438.1 r0 10).bind fun _ =>
     zm_opt (q438.2.2.2 r0 9) (fun q465 =>
     (zm_av (zM 200 [.null, .int 0, .ref q465, .int 0, .int (nI 3)] q438.1 q438.2)).bind fun q466 =>
     (zm_is q466.1 r0 10).bind fun _ =>
     zm_opt (q466.2.2.2 r0 38) (fun q467 =>
     (zm_is q466.1 r0 10).bind fun _ =>
     zm_opt (q466.2.2.2 r0 10) (fun q468 =>
     (zm_av (zM 200 [.ref q467, .int 0, .ref q468, .int 0, .int (nI 24)] q466.1 q466.2)).bind fun q469 =>
     (zm_is q469.1 r0 10).bind fun _ => (zm_fw q469.2 r0 23 0 (.int 0)).bind fun s470 =>
     some (.inl (127, [(0, .ref r0), (2, .int 0)], [], q469.1, s470, 0, 0))) ((zm_av (zM 200 [.ref q467, .int 0, .null, .int 0, .int (nI 24)] q466.1 q466.2)).bind fun q471 =>
     (zm_is q471.1 r0 10).bind fun _ => (zm_fw q471.2 r0 23 0 (.int 0)).bind fun s472 =>
     some (.inl (127, [(0, .ref r0), (2, .int 0)], [], q471.1, s472, 0, 0)))) ((zm_is q466.1 r0 10).bind fun _ =>
     zm_opt (q466.2.2.2 r0 10) (fun q473 =>
     (zm_av (zM 200 [.null, .int 0, .ref q473, .int 0, .int (nI 24)] q466.1 q466.2)).bind fun q474 =>
     (zm_is q474.1 r0 10).bind fun _ => (zm_fw q474.2 r0 23 0 (.int 0)).bind fun s475 =>
     some (.inl (127, [(0, .ref r0), (2, .int 0)], [], q474.1, s475, 0, 0))) ((zm_av (zM 200 [.null, .int 0, .null, .int 0, .int (nI 24)] q466.1 q466.2)).bind fun q476 =>
     (zm_is q476.1 r0 10).bind fun _ => (zm_fw q476.2 r0 23 0 (.int 0)).bind fun s477 =>
     some (.inl (127, [(0, .ref r0), (2, .int 0)], [], q476.1, s477, 0, 0))))) ((zm_av (zM 200 [.null, .int 0, .null, .int 0, .int (nI 3)] q438.1 q438.2)).bind fun q478 =>
     (zm_is q478.1 r0 10).bind fun _ =>
     zm_opt (q478.2.2.2 r0 38) (fun q479 =>
     (zm_is q478.1 r0 10).bind fun _ =>
     zm_opt (q478.2.2.2 r0 10) (fun q480 =>
     (zm_av (zM 200 [.ref q479, .int 0, .ref q480, .int 0, .int (nI 24)] q478.1 q478.2)).bind fun q481 =>
     (zm_is q481.1 r0 10).bind fun _ => (zm_fw q481.2 r0 23 0 (.int 0)).bind fun s482 =>
     some (.inl (127, [(0, .ref r0), (2, .int 0)], [], q481.1, s482, 0, 0))) ((zm_av (zM 200 [.ref q479, .int 0, .null, .int 0, .int (nI 24)] q478.1 q478.2)).bind fun q483 =>
     (zm_is q483.1 r0 10).bind fun _ => (zm_fw q483.2 r0 23 0 (.int 0)).bind fun s484 =>
     some (.inl (127, [(0, .ref r0), (2, .int 0)], [], q483.1, s484, 0, 0)))) ((zm_is q478.1 r0 10).bind fun _ =>
     zm_opt (q478.2.2.2 r0 10) (fun q485 =>
     (zm_av (zM 200 [.null, .int 0, .ref q485, .int 0, .int (nI 24)] q478.1 q478.2)).bind fun q486 =>
     (zm_is q486.1 r0 10).bind fun _ => (zm_fw q486.2 r0 23 0 (.int 0)).bind fun s487 =>
     some (.inl (127, [(0, .ref r0), (2, .int 0)], [], q486.1, s487, 0, 0))) ((zm_av (zM 200 [.null, .int 0, .null, .int 0, .int (nI 24)] q478.1 q478.2)).bind fun q488 =>
     (zm_is q488.1 r0 10).bind fun _ => (zm_fw q488.2 r0 23 0 (.int 0)).bind fun s489 =>
     some (.inl (127, [(0, .ref r0), (2, .int 0)], [], q488.1, s489, 0, 0))))))) ((zm_av (zM 200 [.ref q436, .int 0, .null, .int 0, .int (nI 15)] q435.1 q435.2)).bind fun q490 =>
     (zm_is q490.1 r0 10).bind fun _ =>
     zm_opt (q490.2.2.2 r0 37) (fun q491 =>
     (zm_is q490.1 r0 10).bind fun _ =>
     zm_opt (q490.2.2.2 r0 9) (fun q492 =>
     (zm_av (zM 200 [.ref q491, .int 0, .ref q492, .int 0, .int (nI 3)] q490.1 q490.2)).bind fun q493 =>
     (zm_is q493.1 r0 10).bind fun _ =>
     zm_opt (q493.2.2.2 r0 38) (fun q494 =>
     (zm_is q493.1 r0 10).bind fun _ =>
     zm_opt (q493.2.2.2 r0 10) (fun q495 =>
     (zm_av (zM 200 [.ref q494, .int 0, .ref q495, .int 0, .int (nI 24)] q493.1 q493.2)).bind fun q496 =>
     (zm_is q496.1 r0 10).bind fun _ => (zm_fw q496.2 r0 23 0 (.int 0)).bind fun s497 =>
     some (.inl (127, [(0, .ref r0), (2, .int 0)], [], q496.1, s497, 0, 0))) ((zm_av (zM 200 [.ref q494, .int 0, .null, .int 0, .int (nI 24)] q493.1 q493.2)).bind fun q498 =>
     (zm_is q498.1 r0 10).bind fun _ => (zm_fw q498.2 r0 23 0 (.int 0)).bind fun s499 =>
     some (.inl (127, [(0, .ref r0), (2, .int 0)], [], q498.1, s499, 0, 0)))) ((zm_is q493.1 r0 10).bind fun _ =>
     zm_opt (q493.2.2.2 r0 10) (fun q500 =>
     (zm_av (zM 200 [.null, .int 0, .ref q500, .int 0, .int (nI 24)] q493.1 q493.2)).bind fun q501 =>
     (zm_is q501.1 r0 10).bind fun _ => (zm_fw q501.2 r0 23 0 (.int 0)).bind fun s502 =>
     some (.inl (127, [(0, .ref r0), (2, .int 0)], [], q501.1, s502, 0, 0))) ((zm_av (zM 200 [.null, .int 0, .null, .int 0, .int (nI 24)] q493.1 q493.2)).bind fun q503 =>
     (zm_is q503.1 r0 10).bind fun _ => (zm_fw q503.2 r0 23 0 (.int 0)).bind fun s504 =>
     some (.inl (127, [(0, .ref r0), (2, .int 0)], [], q503.1, s504, 0, 0))))) ((zm_av (zM 200 [.ref q491, .int 0, .null, .int 0, .int (nI 3)] q490.1 q490.2)).bind fun q505 =>
     (zm_is q505.1 r0 10).bind fun _ =>
     zm_opt (q505.2.2.2 r0 38) (fun q506 =>
     (zm_is q505.1 r0 10).bind fun _ =>
     zm_opt (q505.2.2.2 r0 10) (fun q507 =>
     (zm_av (zM 200 [.ref q506, .int 0, .ref q507, .int 0, .int (nI 24)] q505.1 q505.2)).bind fun q508 =>
     (zm_is q508.1 r0 10).bind fun _ => (zm_fw q508.2 r0 23 0 (.int 0)).bind fun s509 =>
     some (.inl (127, [(0, .ref r0), (2, .int 0)], [], q508.1, s509, 0, 0))) ((zm_av (zM 200 [.ref q506, .int 0, .null, .int 0, .int (nI 24)] q505.1 q505.2)).bind fun q510 =>
     (zm_is q510.1 r0 10).bind fun _ => (zm_fw q510.2 r0 23 0 (.int 0)).bind fun s511 =>
     some (.inl (127, [(0, .ref r0), (2, .int 0)], [], q510.1, s511, 0, 0)))) ((zm_is q505.1 r0 10).bind fun _ =>
     zm_opt (q505.2.2.2 r0 10) (fun q512 =>
     (zm_av (zM 200 [.null, .int 0, .ref q512, .int 0, .int (nI 24)] q505.1 q505.2)).bind fun q513 =>
     (zm_is q513.1 r0 10).bind fun _ => (zm_fw q513.2 r0 23 0 (.int 0)).bind fun s514 =>
     some (.inl (127, [(0, .ref r0), (2, .int 0)], [], q513.1, s514, 0, 0))) ((zm_av (zM 200 [.null, .int 0, .null, .int 0, .int (nI 24)] q505.1 q505.2)).bind fun q515 =>
     (zm_is q515.1 r0 10).bind fun _ => (zm_fw q515.2 r0 23 0 (.int 0)).bind fun s516 =>
     some (.inl (127, [(0, .ref r0), (2, .int 0)], [], q515.1, s516, 0, 0)))))) ((zm_is q490.1 r0 10).bind fun _ =>
     zm_opt (q490.2.2.2 r0 9) (fun q517 =>
     (zm_av (zM 200 [.null, .int 0, .ref q517, .int 0, .int (nI 3)] q490.1 q490.2)).bind fun q518 =>
     (zm_is q518.1 r0 10).bind fun _ =>
     zm_opt (q518.2.2.2 r0 38) (fun q519 =>
     (zm_is q518.1 r0 10).bind fun _ =>
     zm_opt (q518.2.2.2 r0 10) (fun q520 =>
     (zm_av (zM 200 [.ref q519, .int 0, .ref q520, .int 0, .int (nI 24)] q518.1 q518.2)).bind fun q521 =>
     (zm_is q521.1 r0 10).bind fun _ => (zm_fw q521.2 r0 23 0 (.int 0)).bind fun s522 =>
     some (.inl (127, [(0, .ref r0), (2, .int 0)], [], q521.1, s522, 0, 0))) ((zm_av (zM 200 [.ref q519, .int 0, .null, .int 0, .int (nI 24)] q518.1 q518.2)).bind fun q523 =>
     (zm_is q523.1 r0 10).bind fun _ => (zm_fw q523.2 r0 23 0 (.int 0)).bind fun s524 =>
     some (.inl (127, [(0, .ref r0), (2, .int 0)], [], q523.1, s524, 0, 0)))) ((zm_is q518.1 r0 10).bind fun _ =>
     zm_opt (q518.2.2.2 r0 10) (fun q525 =>
     (zm_av (zM 200 [.null, .int 0, .ref q525, .int 0, .int (nI 24)] q518.1 q518.2)).bind fun q526 =>
     (zm_is q526.1 r0 10).bind fun _ => (zm_fw q526.2 r0 23 0 (.int 0)).bind fun s527 =>
     some (.inl (127, [(0, .ref r0), (2, .int 0)], [], q526.1, s527, 0, 0))) ((zm_av (zM 200 [.null, .int 0, .null, .int 0, .int (nI 24)] q518.1 q518.2)).bind fun q528 =>
     (zm_is q528.1 r0 10).bind fun _ => (zm_fw q528.2 r0 23 0 (.int 0)).bind fun s529 =>
     some (.inl (127, [(0, .ref r0), (2, .int 0)], [], q528.1, s529, 0, 0))))) ((zm_av (zM 200 [.null, .int 0, .null, .int 0, .int (nI 3)] q490.1 q490.2)).bind fun q530 =>
     (zm_is q530.1 r0 10).bind fun _ =>
     zm_opt (q530.2.2.2 r0 38) (fun q531 =>
     (zm_is q530.1 r0 10).bind fun _ =>
     zm_opt (q530.2.2.2 r0 10) (fun q532 =>
     (zm_av (zM 200 [.ref q531, .int 0, .ref q532, .int 0, .int (nI 24)] q530.1 q530.2)).bind fun q533 =>
     (zm_is q533.1 r0 10).bind fun _ => (zm_fw q533.2 r0 23 0 (.int 0)).bind fun s534 =>
     some (.inl (127, [(0, .ref r0), (2, .int 0)], [], q533.1, s534, 0, 0))) ((zm_av (zM 200 [.ref q531, .int 0, .null, .int 0, .int (nI 24)] q530.1 q530.2)).bind fun q535 =>
     (zm_is q535.1 r0 10).bind fun _ => (zm_fw q535.2 r0 23 0 (.int 0)).bind fun s536 =>
     some (.inl (127, [(0, .ref r0), (2, .int 0)], [], q535.1, s536, 0, 0)))) ((zm_is q530.1 r0 10).bind fun _ =>
     zm_opt (q530.2.2.2 r0 10) (fun q537 =>
     (zm_av (zM 200 [.null, .int 0, .ref q537, .int 0, .int (nI 24)] q530.1 q530.2)).bind fun q538 =>
     (zm_is q538.1 r0 10).bind fun _ => (zm_fw q538.2 r0 23 0 (.int 0)).bind fun s539 =>
     some (.inl (127, [(0, .ref r0), (2, .int 0)], [], q538.1, s539, 0, 0))) ((zm_av (zM 200 [.null, .int 0, .null, .int 0, .int (nI 24)] q530.1 q530.2)).bind fun q540 =>
     (zm_is q540.1 r0 10).bind fun _ => (zm_fw q540.2 r0 23 0 (.int 0)).bind fun s541 =>
     some (.inl (127, [(0, .ref r0), (2, .int 0)], [], q540.1, s541, 0, 0)))))))) ((zm_is q435.1 r0 10).bind fun _ =>
     zm_opt (q435.2.2.2 r0 8) (fun q542 =>
     (zm_av (zM 200 [.null, .int 0, .ref q542, .int 0, .int (nI 15)] q435.1 q435.2)).bind fun q543 =>
     (zm_is q543.1 r0 10).bind fun _ =>
     zm_opt (q543.2.2.2 r0 37) (fun q544 =>
     (zm_is q543.1 r0 10).bind fun _ =>
     zm_opt (q543.2.2.2 r0 9) (fun q545 =>
     (zm_av (zM 200 [.ref q544, .int 0, .ref q545, .int 0, .int (nI 3)] q543.1 q543.2)).bind fun q546 =>
     (zm_is q546.1 r0 10).bind fun _ =>
     zm_opt (q546.2.2.2 r0 38) (fun q547 =>
     (zm_is q546.1 r0 10).bind fun _ =>
     zm_opt (q546.2.2.2 r0 10) (fun q548 =>
     (zm_av (zM 200 [.ref q547, .int 0, .ref q548, .int 0, .int (nI 24)] q546.1 q546.2)).bind fun q549 =>
     (zm_is q549.1 r0 10).bind fun _ => (zm_fw q549.2 r0 23 0 (.int 0)).bind fun s550 =>
     some (.inl (127, [(0, .ref r0), (2, .int 0)], [], q549.1, s550, 0, 0))) ((zm_av (zM 200 [.ref q547, .int 0, .null, .int 0, .int (nI 24)] q546.1 q546.2)).bind fun q551 =>
     (zm_is q551.1 r0 10).bind fun _ => (zm_fw q551.2 r0 23 0 (.int 0)).bind fun s552 =>
     some (.inl (127, [(0, .ref r0), (2, .int 0)], [], q551.1, s552, 0, 0)))) ((zm_is q546.1 r0 10).bind fun _ =>
     zm_opt (q546.2.2.2 r0 10) (fun q553 =>
     (zm_av (zM 200 [.null, .int 0, .ref q553, .int 0, .int (nI 24)] q546.1 q546.2)).bind fun q554 =>
     (zm_is q554.1 r0 10).bind fun _ => (zm_fw q554.2 r0 23 0 (.int 0)).bind fun s555 =>
     some (.inl (127, [(0, .ref r0), (2, .int 0)], [], q554.1, s555, 0, 0))) ((zm_av (zM 200 [.null, .int 0, .null, .int 0, .int (nI 24)] q546.1 q546.2)).bind fun q556 =>
     (zm_is q556.1 r0 10).bind fun _ => (zm_fw q556.2 r0 23 0 (.int 0)).bind fun s557 =>
     some (.inl (127, [(0, .ref r0), (2, .int 0)], [], q556.1, s557, 0, 0))))) ((zm_av (zM 200 [.ref q544, .int 0, .null, .int 0, .int (nI 3)] q543.1 q543.2)).bind fun q558 =>
     (zm_is q558.1 r0 10).bind fun _ =>
     zm_opt (q558.2.2.2 r0 38) (fun q559 =>
     (zm_is q558.1 r0 10).bind fun _ =>
     zm_opt (q558.2.2.2 r0 10) (fun q560 =>
     (zm_av (zM 200 [.ref q559, .int 0, .ref q560, .int 0, .int (nI 24)] q558.1 q558.2)).bind fun q561 =>
     (zm_is q561.1 r0 10).bind fun _ => (zm_fw q561.2 r0 23 0 (.int 0)).bind fun s562 =>
     some (.inl (127, [(0, .ref r0), (2, .int 0)], [], q561.1, s562, 0, 0))) ((zm_av (zM 200 [.ref q559, .int 0, .null, .int 0, .int (nI 24)] q558.1 q558.2)).bind fun q563 =>
     (zm_is q563.1 r0 10).bind fun _ => (zm_fw q563.2 r0 23 0 (.int 0)).bind fun s564 =>
     some (.inl (127, [(0, .ref r0), (2, .int 0)], [], q563.1, s564, 0, 0)))) ((zm_is q558.1 r0 10).bind fun _ =>
     zm_opt (q558.2.2.2 r0 10) (fun q565 =>
     (zm_av (zM 200 [.null, .int 0, .ref q565, .int 0, .int (nI 24)] q558.1 q558.2)).bind fun q566 =>
     (zm_is q566.1 r0 10).bind fun _ => (zm_fw q566.2 r0 23 0 (.int 0)).bind fun s567 =>
     some (.inl (127, [(0, .ref r0), (2, .int 0)], [], q566.1, s567, 0, 0))) ((zm_av (zM 200 [.null, .int 0, .null, .int 0, .int (nI 24)] q558.1 q558.2)).bind fun q568 =>
     (zm_is q568.1 r0 10).bind fun _ => (zm_fw q568.2 r0 23 0 (.int 0)).bind fun s569 =>
     some (.inl (127, [(0, .ref r0), (2, .int 0)], [], q568.1, s569, 0, 0)))))) ((zm_is q543.1 r0 10).bind fun _ =>
     zm_opt (q543.2.2.2 r0 9) (fun q570 =>
     (zm_av (zM 200 [.null, .int 0, .ref q570, .int 0, .int (nI 3)] q543.1 q543.2)).bind fun q571 =>
     (zm_is q571.1 r0 10).bind fun _ =>
     zm_opt (q571.2.2.2 r0 38) (fun q572 =>
     (zm_is q571.1 r0 10).bind fun _ =>
     zm_opt (q571.2.2.2 r0 10) (fun q573 =>
     (zm_av (zM 200 [.ref q572, .int 0, .ref q573, .int 0, .int (nI 24)] q571.1 q571.2)).bind fun q574 =>
     (zm_is q574.1 r0 10).bind fun _ => (zm_fw q574.2 r0 23 0 (.int 0)).bind fun s575 =>
     some (.inl (127, [(0, .ref r0), (2, .int 0)], [], q574.1, s575, 0, 0))) ((zm_av (zM 200 [.ref q572, .int 0, .null, .int 0, .int (nI 24)] q571.1 q571.2)).bind fun q576 =>
     (zm_is q576.1 r0 10).bind fun _ => (zm_fw q576.2 r0 23 0 (.int 0)).bind fun s577 =>
     some (.inl (127, [(0, .ref r0), (2, .int 0)], [], q576.1, s577, 0, 0)))) ((zm_is q571.1 r0 10).bind fun _ =>
     zm_opt (q571.2.2.2 r0 10) (fun q578 =>
     (zm_av (zM 200 [.null, .int 0, .ref q578, .int 0, .int (nI 24)] q571.1 q571.2)).bind fun q579 =>
     (zm_is q579.1 r0 10).bind fun _ => (zm_fw q579.2 r0 23 0 (.int 0)).bind fun s580 =>
     some (.inl (127, [(0, .ref r0), (2, .int 0)], [], q579.1, s580, 0, 0))) ((zm_av (zM 200 [.null, .int 0, .null, .int 0, .int (nI 24)] q571.1 q571.2)).bind fun q581 =>
     (zm_is q581.1 r0 10).bind fun _ => (zm_fw q581.2 r0 23 0 (.int 0)).bind fun s582 =>
     some (.inl (127, [(0, .ref r0), (2, .int 0)], [], q581.1, s582, 0, 0))))) ((zm_av (zM 200 [.null, .int 0, .null, .int 0, .int (nI 3)] q543.1 q543.2)).bind fun q583 =>
     (zm_is q583.1 r0 10).bind fun _ =>
     zm_opt (q583.2.2.2 r0 38) (fun q584 =>
     (zm_is q583.1 r0 10).bind fun _ =>
     zm_opt (q583.2.2.2 r0 10) (fun q585 =>
     (zm_av (zM 200 [.ref q584, .int 0, .ref q585, .int 0, .int (nI 24)] q583.1 q583.2)).bind fun q586 =>
     (zm_is q586.1 r0 10).bind fun _ => (zm_fw q586.2 r0 23 0 (.int 0)).bind fun s587 =>
     some (.inl (127, [(0, .ref r0), (2, .int 0)], [], q586.1, s587, 0, 0))) ((zm_av (zM 200 [.ref q584, .int 0, .null, .int 0, .int (nI 24)] q583.1 q583.2)).bind fun q588 =>
     (zm_is q588.1 r0 10).bind fun _ => (zm_fw q588.2 r0 23 0 (.int 0)).bind fun s589 =>
     some (.inl (127, [(0, .ref r0), (2, .int 0)], [], q588.1, s589, 0, 0)))) ((zm_is q583.1 r0 10).bind fun _ =>
     zm_opt (q583.2.2.2 r0 10) (fun q590 =>
     (zm_av (zM 200 [.null, .int 0, .ref q590, .int 0, .int (nI 24)] q583.1 q583.2)).bind fun q591 =>
     (zm_is q591.1 r0 10).bind fun _ => (zm_fw q591.2 r0 23 0 (.int 0)).bind fun s592 =>
     some (.inl (127, [(0, .ref r0), (2, .int 0)], [], q591.1, s592, 0, 0))) ((zm_av (zM 200 [.null, .int 0, .null, .int 0, .int (nI 24)] q583.1 q583.2)).bind fun q593 =>
     (zm_is q593.1 r0 10).bind fun _ => (zm_fw q593.2 r0 23 0 (.int 0)).bind fun s594 =>
     some (.inl (127, [(0, .ref r0), (2, .int 0)], [], q593.1, s594, 0, 0))))))) ((zm_av (zM 200 [.null, .int 0, .null, .int 0, .int (nI 15)] q435.1 q435.2)).bind fun q595 =>
     (zm_is q595.1 r0 10).bind fun _ =>
     zm_opt (q595.2.2.2 r0 37) (fun q596 =>
     (zm_is q595.1 r0 10).bind fun _ =>
     zm_opt (q595.2.2.2 r0 9) (fun q597 =>
     (zm_av (zM 200 [.ref q596, .int 0, .ref q597, .int 0, .int (nI 3)] q595.1 q595.2)).bind fun q598 =>
     (zm_is q598.1 r0 10).bind fun _ =>
     zm_opt (q598.2.2.2 r0 38) (fun q599 =>
     (zm_is q598.1 r0 10).bind fun _ =>
     zm_opt (q598.2.2.2 r0 10) (fun q600 =>
     (zm_av (zM 200 [.ref q599, .int 0, .ref q600, .int 0, .int (nI 24)] q598.1 q598.2)).bind fun q601 =>
     (zm_is q601.1 r0 10).bind fun _ => (zm_fw q601.2 r0 23 0 (.int 0)).bind fun s602 =>
     some (.inl (127, [(0, .ref r0), (2, .int 0)], [], q601.1, s602, 0, 0))) ((zm_av (zM 200 [.ref q599, .int 0, .null, .int 0, .int (nI 24)] q598.1 q598.2)).bind fun q603 =>
     (zm_is q603.1 r0 10).bind fun _ => (zm_fw q603.2 r0 23 0 (.int 0)).bind fun s604 =>
     some (.inl (127, [(0, .ref r0), (2, .int 0)], [], q603.1, s604, 0, 0)))) ((zm_is q598.1 r0 10).bind fun _ =>
     zm_opt (q598.2.2.2 r0 10) (fun q605 =>
     (zm_av (zM 200 [.null, .int 0, .ref q605, .int 0, .int (nI 24)] q598.1 q598.2)).bind fun q606 =>
     (zm_is q606.1 r0 10).bind fun _ => (zm_fw q606.2 r0 23 0 (.int 0)).bind fun s607 =>
     some (.inl (127, [(0, .ref r0), (2, .int 0)], [], q606.1, s607, 0, 0))) ((zm_av (zM 200 [.null, .int 0, .null, .int 0, .int (nI 24)] q598.1 q598.2)).bind fun q608 =>
     (zm_is q608.1 r0 10).bind fun _ => (zm_fw q608.2 r0 23 0 (.int 0)).bind fun s609 =>
     some (.inl (127, [(0, .ref r0), (2, .int 0)], [], q608.1, s609, 0, 0))))) ((zm_av (zM 200 [.ref q596, .int 0, .null, .int 0, .int (nI 3)] q595.1 q595.2)).bind fun q610 =>
     (zm_is q610.1 r0 10).bind fun _ =>
     zm_opt (q610.2.2.2 r0 38) (fun q611 =>
     (zm_is q610.1 r0 10).bind fun _ =>
     zm_opt (q610.2.2.2 r0 10) (fun q612 =>
     (zm_av (zM 200 [.ref q611, .int 0, .ref q612, .int 0, .int (nI 24)] q610.1 q610.2)).bind fun q613 =>
     (zm_is q613.1 r0 10).bind fun _ => (zm_fw q613.2 r0 23 0 (.int 0)).bind fun s614 =>
     some (.inl (127, [(0, .ref r0), (2, .int 0)], [], q613.1, s614, 0, 0))) ((zm_av (zM 200 [.ref q611, .int 0, .null, .int 0, .int (nI 24)] q610.1 q610.2)).bind fun q615 =>
     (zm_is q615.1 r0 10).bind fun _ => (zm_fw q615.2 r0 23 0 (.int 0)).bind fun s616 =>
     some (.inl (127, [(0, .ref r0), (2, .int 0)], [], q615.1, s616, 0, 0)))) ((zm_is q610.1 r0 10).bind fun _ =>
     zm_opt (q610.2.2.2 r0 10) (fun q617 =>
     (zm_av (zM 200 [.null, .int 0, .ref q617, .int 0, .int (nI 24)] q610.1 q610.2)).bind fun q618 =>
     (zm_is q618.1 r0 10).bind fun _ => (zm_fw q618.2 r0 23 0 (.int 0)).bind fun s619 =>
     some (.inl (127, [(0, .ref r0), (2, .int 0)], [], q618.1, s619, 0, 0))) ((zm_av (zM 200 [.null, .int 0, .null, .int 0, .int (nI 24)] q610.1 q610.2)).bind fun q620 =>
     (zm_is q620.1 r0 10).bind fun _ => (zm_fw q620.2 r0 23 0 (.int 0)).bind fun s621 =>
     some (.inl (127, [(0, .ref r0), (2, .int 0)], [], q620.1, s621, 0, 0)))))) ((zm_is q595.1 r0 10).bind fun _ =>
     zm_opt (q595.2.2.2 r0 9) (fun q622 =>
     (zm_av (zM 200 [.null, .int 0, .ref q622, .int 0, .int (nI 3)] q595.1 q595.2)).bind fun q623 =>
     (zm_is q623.1 r0 10).bind fun _ =>
     zm_opt (q623.2.2.2 r0 38) (fun q624 =>
     (zm_is q623.1 r0 10).bind fun _ =>
     zm_opt (q623.2.2.2 r0 10) (fun q625 =>
     (zm_av (zM 200 [.ref q624, .int 0, .ref q625, .int 0, .int (nI 24)] q623.1 q623.2)).bind fun q626 =>
     (zm_is q626.1 r0 10).bind fun _ => (zm_fw q626.2 r0 23 0 (.int 0)).bind fun s627 =>
     some (.inl (127, [(0, .ref r0), (2, .int 0)], [], q626.1, s627, 0, 0))) ((zm_av (zM 200 [.ref q624, .int 0, .null, .int 0, .int (nI 24)] q623.1 q623.2)).bind fun q628 =>
     (zm_is q628.1 r0 10).bind fun _ => (zm_fw q628.2 r0 23 0 (.int 0)).bind fun s629 =>
     some (.inl (127, [(0, .ref r0), (2, .int 0)], [], q628.1, s629, 0, 0)))) ((zm_is q623.1 r0 10).bind fun _ =>
     zm_opt (q623.2.2.2 r0 10) (fun q630 =>
     (zm_av (zM 200 [.null, .int 0, .ref q630, .int 0, .int (nI 24)] q623.1 q623.2)).bind fun q631 =>
     (zm_is q631.1 r0 10).bind fun _ => (zm_fw q631.2 r0 23 0 (.int 0)).bind fun s632 =>
     some (.inl (127, [(0, .ref r0), (2, .int 0)], [], q631.1, s632, 0, 0))) ((zm_av (zM 200 [.null, .int 0, .null, .int 0, .int (nI 24)] q623.1 q623.2)).bind fun q633 =>
     (zm_is q633.1 r0 10).bind fun _ => (zm_fw q633.2 r0 23 0 (.int 0)).bind fun s634 =>
     some (.inl (127, [(0, .ref r0), (2, .int 0)], [], q633.1, s634, 0, 0))))) ((zm_av (zM 200 [.null, .int 0, .null, .int 0, .int (nI 3)] q595.1 q595.2)).bind fun q635 =>
     (zm_is q635.1 r0 10).bind fun _ =>
     zm_opt (q635.2.2.2 r0 38) (fun q636 =>
     (zm_is q635.1 r0 10).bind fun _ =>
     zm_opt (q635.2.2.2 r0 10) (fun q637 =>
     (zm_av (zM 200 [.ref q636, .int 0, .ref q637, .int 0, .int (nI 24)] q635.1 q635.2)).bind fun q638 =>
     (zm_is q638.1 r0 10).bind fun _ => (zm_fw q638.2 r0 23 0 (.int 0)).bind fun s639 =>
     some (.inl (127, [(0, .ref r0), (2, .int 0)], [], q638.1, s639, 0, 0))) ((zm_av (zM 200 [.ref q636, .int 0, .null, .int 0, .int (nI 24)] q635.1 q635.2)).bind fun q640 =>
     (zm_is q640.1 r0 10).bind fun _ => (zm_fw q640.2 r0 23 0 (.int 0)).bind fun s641 =>
     some (.inl (127, [(0, .ref r0), (2, .int 0)], [], q640.1, s641, 0, 0)))) ((zm_is q635.1 r0 10).bind fun _ =>
     zm_opt (q635.2.2.2 r0 10) (fun q642 =>
     (zm_av (zM 200 [.null, .int 0, .ref q642, .int 0, .int (nI 24)] q635.1 q635.2)).bind fun q643 =>
     (zm_is q643.1 r0 10).bind fun _ => (zm_fw q643.2 r0 23 0 (.int 0)).bind fun s644 =>
     some (.inl (127, [(0, .ref r0), (2, .int 0)], [], q643.1, s644, 0, 0))) ((zm_av (zM 200 [.null, .int 0, .null, .int 0, .int (nI 24)] q635.1 q635.2)).bind fun q645 =>
     (zm_is q645.1 r0 10).bind fun _ => (zm_fw q645.2 r0 23 0 (.int 0)).bind fun s646 =>
     some (.inl (127, [(0, .ref r0), (2, .int 0)], [], q645.1, s646, 0, 0))))))))) ((zm_av (zM 200 [.null, .int 0, .null, .int 0, .int (nI 15)] q4.2.1 s7)).bind fun q647 =>
     (zm_is q647.1 r0 10).bind fun _ =>
     zm_opt (q647.2.2.2 r0 36) (fun q648 =>
     (zm_is q647.1 r0 10).bind fun _ =>
     zm_opt (q647.2.2.2 r0 8) (fun q649 =>
     (zm_av (zM 200 [.ref q648, .int 0, .ref q649, .int 0, .int (nI 15)] q647.1 q647.2)).bind fun q650 =>
     (zm_is q650.1 r0 10).bind fun _ =>
     zm_opt (q650.2.2.2 r0 37) (fun q651 =>
     (zm_is q650.1 r0 10).bind fun _ =>
     zm_opt (q650.2.2.2 r0 9) (fun q652 =>
     (zm_av (zM 200 [.ref q651, .int 0, .ref q652, .int 0, .int (nI 3)] q650.1 q650.2)).bind fun q653 =>
     (zm_is q653.1 r0 10).bind fun _ =>
     zm_opt (q653.2.2.2 r0 38) (fun q654 =>
     (zm_is q653.1 r0 10).bind fun _ =>
     zm_opt (q653.2.2.2 r0 10) (fun q655 =>
     (zm_av (zM 200 [.ref q654, .int 0, .ref q655, .int 0, .int (nI 24)] q653.1 q653.2)).bind fun q656 =>
     (zm_is q656.1 r0 10).bind fun _ => (zm_fw q656.2 r0 23 0 (.int 0)).bind fun s657 =>
     some (.inl (127, [(0, .ref r0), (2, .int 0)], [], q656.1, s657, 0, 0))) ((zm_av (zM 200 [.ref q654, .int 0, .null, .int 0, .int (nI 24)] q653.1 q653.2)).bind fun q658 =>
     (zm_is q658.1 r0 10).bind fun _ => (zm_fw q658.2 r0 23 0 (.int 0)).bind fun s659 =>
     some (.inl (127, [(0, .ref r0), (2, .int 0)], [], q658.1, s659, 0, 0)))) ((zm_is q653.1 r0 10).bind fun _ =>
     zm_opt (q653.2.2.2 r0 10) (fun q660 =>
     (zm_av (zM 200 [.null, .int 0, .ref q660, .int 0, .int (nI 24)] q653.1 q653.2)).bind fun q661 =>
     (zm_is q661.1 r0 10).bind fun _ => (zm_fw q661.2 r0 23 0 (.int 0)).bind fun s662 =>
     some (.inl (127, [(0, .ref r0), (2, .int 0)], [], q661.1, s662, 0, 0))) ((zm_av (zM 200 [.null, .int 0, .null, .int 0, .int (nI 24)] q653.1 q653.2)).bind fun q663 =>
     (zm_is q663.1 r0 10).bind fun _ => (zm_fw q663.2 r0 23 0 (.int 0)).bind fun s664 =>
     some (.inl (127, [(0, .ref r0), (2, .int 0)], [], q663.1, s664, 0, 0))))) ((zm_av (zM 200 [.ref q651, .int 0, .null, .int 0, .int (nI 3)] q650.1 q650.2)).bind fun q665 =>
     (zm_is q665.1 r0 10).bind fun _ =>
     zm_opt (q665.2.2.2 r0 38) (fun q666 =>
     (zm_is q665.1 r0 10).bind fun _ =>
     zm_opt (q665.2.2.2 r0 10) (fun q667 =>
     (zm_av (zM 200 [.ref q666, .int 0, .ref q667, .int 0, .int (nI 24)] q665.1 q665.2)).bind fun q668 =>
     (zm_is q668.1 r0 10).bind fun _ => (zm_fw q668.2 r0 23 0 (.int 0)).bind fun s669 =>
     some (.inl (127, [(0, .ref r0), (2, .int 0)], [], q668.1, s669, 0, 0))) ((zm_av (zM 200 [.ref q666, .int 0, .null, .int 0, .int (nI 24)] q665.1 q665.2)).bind fun q670 =>
     (zm_is q670.1 r0 10).bind fun _ => (zm_fw q670.2 r0 23 0 (.int 0)).bind fun s671 =>
     some (.inl (127, [(0, .ref r0), (2, .int 0)], [], q670.1, s671, 0, 0)))) ((zm_is q665.1 r0 10).bind fun _ =>
     zm_opt (q665.2.2.2 r0 10) (fun q672 =>
     (zm_av (zM 200 [.null, .int 0, .ref q672, .int 0, .int (nI 24)] q665.1 q665.2)).bind fun q673 =>
     (zm_is q673.1 r0 10).bind fun _ => (zm_fw q673.2 r0 23 0 (.int 0)).bind fun s674 =>
     some (.inl (127, [(0, .ref r0), (2, .int 0)], [], q673.1, s674, 0, 0))) ((zm_av (zM 200 [.null, .int 0, .null, .int 0, .int (nI 24)] q665.1 q665.2)).bind fun q675 =>
     (zm_is q675.1 r0 10).bind fun _ => (zm_fw q675.2 r0 23 0 (.int 0)).bind fun s676 =>
     some (.inl (127, [(0, .ref r0), (2, .int 0)], [], q675.1, s676, 0, 0)))))) ((zm_is q650.1 r0 10).bind fun _ =>
     zm_opt (q650.2.2.2 r0 9) (fun q677 =>
     (zm_av (zM 200 [.null, .int 0, .ref q677, .int 0, .int (nI 3)] q650.1 q650.2)).bind fun q678 =>
     (zm_is q678.1 r0 10).bind fun _ =>
     zm_opt (q678.2.2.2 r0 38) (fun q679 =>
     (zm_is q678.1 r0 10).bind fun _ =>
     zm_opt (q678.2.2.2 r0 10) (fun q680 =>
     (zm_av (zM 200 [.ref q679, .int 0, .ref q680, .int 0, .int (nI 24)] q678.1 q678.2)).bind fun q681 =>
     (zm_is q681.1 r0 10).bind fun _ => (zm_fw q681.2 r0 23 0 (.int 0)).bind fun s682 =>
     some (.inl (127, [(0, .ref r0), (2, .int 0)], [], q681.1, s682, 0, 0))) ((zm_av (zM 200 [.ref q679, .int 0, .null, .int 0, .int (nI 24)] q678.1 q678.2)).bind fun q683 =>
     (zm_is q683.1 r0 10).bind fun _ => (zm_fw q683.2 r0 23 0 (.int 0)).bind fun s684 =>
     some (.inl (127, [(0, .ref r0), (2, .int 0)], [], q683.1, s684, 0, 0)))) ((zm_is q678.1 r0 10).bind fun _ =>
     zm_opt (q678.2.2.2 r0 10) (fun q685 =>
     (zm_av (zM 200 [.null, .int 0, .ref q685, .int 0, .int (nI 24)] q678.1 q678.2)).bind fun q686 =>
     (zm_is q686.1 r0 10).bind fun _ => (zm_fw q686.2 r0 23 0 (.int 0)).bind fun s687 =>
     some (.inl (127, [(0, .ref r0), (2, .int 0)], [], q686.1, s687, 0, 0))) ((zm_av (zM 200 [.null, .int 0, .null, .int 0, .int (nI 24)] q678.1 q678.2)).bind fun q688 =>
     (zm_is q688.1 r0 10).bind fun _ => (zm_fw q688.2 r0 23 0 (.int 0)).bind fun s689 =>
     some (.inl (127, [(0, .ref r0), (2, .int 0)], [], q688.1, s689, 0, 0))))) ((zm_av (zM 200 [.null, .int 0, .null, .int 0, .int (nI 3)] q650.1 q650.2)).bind fun q690 =>
     (zm_is q690.1 r0 10).bind fun _ =>
     zm_opt (q690.2.2.2 r0 38) (fun q691 =>
     (zm_is q690.1 r0 10).bind fun _ =>
     zm_opt (q690.2.2.2 r0 10) (fun q692 =>
     (zm_av (zM 200 [.ref q691, .int 0, .ref q692, .int 0, .int (nI 24)] q690.1 q690.2)).bind fun q693 =>
     (zm_is q693.1 r0 10).bind fun _ => (zm_fw q693.2 r0 23 0 (.int 0)).bind fun s694 =>
     some (.inl (127, [(0, .ref r0), (2, .int 0)], [], q693.1, s694, 0, 0))) ((zm_av (zM 200 [.ref q691, .int 0, .null, .int 0, .int (nI 24)] q690.1 q690.2)).bind fun q695 =>
     (zm_is q695.1 r0 10).bind fun _ => (zm_fw q695.2 r0 23 0 (.int 0)).bind fun s696 =>
     some (.inl (127, [(0, .ref r0), (2, .int 0)], [], q695.1, s696, 0, 0)))) ((zm_is q690.1 r0 10).bind fun _ =>
     zm_opt (q690.2.2.2 r0 10) (fun q697 =>
     (zm_av (zM 200 [.null, .int 0, .ref q697, .int 0, .int (nI 24)] q690.1 q690.2)).bind fun q698 =>
     (zm_is q698.1 r0 10).bind fun _ => (zm_fw q698.2 r0 23 0 (.int 0)).bind fun s699 =>
     some (.inl (127, [(0, .ref r0), (2, .int 0)], [], q698.1, s699, 0, 0))) ((zm_av (zM 200 [.null, .int 0, .null, .int 0, .int (nI 24)] q690.1 q690.2)).bind fun q700 =>
     (zm_is q700.1 r0 10).bind fun _ => (zm_fw q700.2 r0 23 0 (.int 0)).bind fun s701 =>
     some (.inl (127, [(0, .ref r0), (2, .int 0)], [], q700.1, s701, 0, 0))))))) ((zm_av (zM 200 [.ref q648, .int 0, .null, .int 0, .int (nI 15)] q647.1 q647.2)).bind fun q702 =>
     (zm_is q702.1 r0 10).bind fun _ =>
     zm_opt (q702.2.2.2 r0 37) (fun q703 =>
     (zm_is q702.1 r0 10).bind fun _ =>
     zm_opt (q702.2.2.2 r0 9) (fun q704 =>
     (zm_av (zM 200 [.ref q703, .int 0, .ref q704, .int 0, .int (nI 3)] q702.1 q702.2)).bind fun q705 =>
     (zm_is q705.1 r0 10).bind fun _ =>
     zm_opt (q705.2.2.2 r0 38) (fun q706 =>
     (zm_is q705.1 r0 10).bind fun _ =>
     zm_opt (q705.2.2.2 r0 10) (fun q707 =>
     (zm_av (zM 200 [.ref q706, .int 0, .ref q707, .int 0, .int (nI 24)] q705.1 q705.2)).bind fun q708 =>
     (zm_is q708.1 r0 10).bind fun _ => (zm_fw q708.2 r0 23 0 (.int 0)).bind fun s709 =>
     some (.inl (127, [(0, .ref r0), (2, .int 0)], [], q708.1, s709, 0, 0))) ((zm_av (zM 200 [.ref q706, .int 0, .null, .int 0, .int (nI 24)] q705.1 q705.2)).bind fun q710 =>
     (zm_is q710.1 r0 10).bind fun _ => (zm_fw q710.2 r0 23 0 (.int 0)).bind fun s711 =>
     some (.inl (127, [(0, .ref r0), (2, .int 0)], [], q710.1, s711, 0, 0)))) ((zm_is q705.1 r0 10).bind fun _ =>
     zm_opt (q705.2.2.2 r0 10) (fun q712 =>
     (zm_av (zM 200 [.null, .int 0, .ref q712, .int 0, .int (nI 24)] q705.1 q705.2)).bind fun q713 =>
     (zm_is q713.1 r0 10).bind fun _ => (zm_fw q713.2 r0 23 0 (.int 0)).bind fun s714 =>
     some (.inl (127, [(0, .ref r0), (2, .int 0)], [], q713.1, s714, 0, 0))) ((zm_av (zM 200 [.null, .int 0, .null, .int 0, .int (nI 24)] q705.1 q705.2)).bind fun q715 =>
     (zm_is q715.1 r0 10).bind fun _ => (zm_fw q715.2 r0 23 0 (.int 0)).bind fun s716 =>
     some (.inl (127, [(0, .ref r0), (2, .int 0)], [], q715.1, s716, 0, 0))))) ((zm_av (zM 200 [.ref q703, .int 0, .null, .int 0, .int (nI 3)] q702.1 q702.2)).bind fun q717 =>
     (zm_is q717.1 r0 10).bind fun _ =>
     zm_opt (q717.2.2.2 r0 38) (fun q718 =>
     (zm_is q717.1 r0 10).bind fun _ =>
     zm_opt (q717.2.2.2 r0 10) (fun q719 =>
     (zm_av (zM 200 [.ref q718, .int 0, .ref q719, .int 0, .int (nI 24)] q717.1 q717.2)).bind fun q720 =>
     (zm_is q720.1 r0 10).bind fun _ => (zm_fw q720.2 r0 23 0 (.int 0)).bind fun s721 =>
     some (.inl (127, [(0, .ref r0), (2, .int 0)], [], q720.1, s721, 0, 0))) ((zm_av (zM 200 [.ref q718, .int 0, .null, .int 0, .int (nI 24)] q717.1 q717.2)).bind fun q722 =>
     (zm_is q722.1 r0 10).bind fun _ => (zm_fw q722.2 r0 23 0 (.int 0)).bind fun s723 =>
     some (.inl (127, [(0, .ref r0), (2, .int 0)], [], q722.1, s723, 0, 0)))) ((zm_is q717.1 r0 10).bind fun _ =>
     zm_opt (q717.2.2.2 r0 10) (fun q724 =>
     (zm_av (zM 200 [.null, .int 0, .ref q724, .int 0, .int (nI 24)] q717.1 q717.2)).bind fun q725 =>
     (zm_is q725.1 r0 10).bind fun _ => (zm_fw q725.2 r0 23 0 (.int 0)).bind fun s726 =>
     some (.inl (127, [(0, .ref r0), (2, .int 0)], [], q725.1, s726, 0, 0))) ((zm_av (zM 200 [.null, .int 0, .null, .int 0, .int (nI 24)] q717.1 q717.2)).bind fun q727 =>
     (zm_is q727.1 r0 10).bind fun _ => (zm_fw q727.2 r0 23 0 (.int 0)).bind fun s728 =>
     some (.inl (127, [(0, .ref r0), (2, .int 0)], [], q727.1, s728, 0, 0)))))) ((zm_is q702.1 r0 10).bind fun _ =>
     zm_opt (q702.2.2.2 r0 9) (fun q729 =>
     (zm_av (zM 200 [.null, .int 0, .ref q729, .int 0, .int (nI 3)] q702.1 q702.2)).bind fun q730 =>
     (zm_is q730.1 r0 10).bind fun _ =>
     zm_opt (q730.2.2.2 r0 38) (fun q731 =>
     (zm_is q730.1 r0 10).bind fun _ =>
     zm_opt (q730.2.2.2 r0 10) (fun q732 =>
     (zm_av (zM 200 [.ref q731, .int 0, .ref q732, .int 0, .int (nI 24)] q730.1 q730.2)).bind fun q733 =>
     (zm_is q733.1 r0 10).bind fun _ => (zm_fw q733.2 r0 23 0 (.int 0)).bind fun s734 =>
     some (.inl (127, [(0, .ref r0), (2, .int 0)], [], q733.1, s734, 0, 0))) ((zm_av (zM 200 [.ref q731, .int 0, .null, .int 0, .int (nI 24)] q730.1 q730.2)).bind fun q735 =>
     (zm_is q735.1 r0 10).bind fun _ => (zm_fw q735.2 r0 23 0 (.int 0)).bind fun s736 =>
     some (.inl (127, [(0, .ref r0), (2, .int 0)], [], q735.1, s736, 0, 0)))) ((zm_is q730.1 r0 10).bind fun _ =>
     zm_opt (q730.2.2.2 r0 10) (fun q737 =>
     (zm_av (zM 200 [.null, .int 0, .ref q737, .int 0, .int (nI 24)] q730.1 q730.2)).bind fun q738 =>
     (zm_is q738.1 r0 10).bind fun _ => (zm_fw q738.2 r0 23 0 (.int 0)).bind fun s739 =>
     some (.inl (127, [(0, .ref r0), (2, .int 0)], [], q738.1, s739, 0, 0))) ((zm_av (zM 200 [.null, .int 0, .null, .int 0, .int (nI 24)] q730.1 q730.2)).bind fun q740 =>
     (zm_is q740.1 r0 10).bind fun _ => (zm_fw q740.2 r0 23 0 (.int 0)).bind fun s741 =>
     some (.inl (127, [(0, .ref r0), (2, .int 0)], [], q740.1, s741, 0, 0))))) ((zm_av (zM 200 [.null, .int 0, .null, .int 0, .int (nI 3)] q702.1 q702.2)).bind fun q742 =>
     (zm_is q742.1 r0 10).bind fun _ =>
     zm_opt (q742.2.2.2 r0 38) (fun q743 =>
     (zm_is q742.1 r0 10).bind fun _ =>
     zm_opt (q742.2.2.2 r0 10) (fun q744 =>
     (zm_av (zM 200 [.ref q743, .int 0, .ref q744, .int 0, .int (nI 24)] q742.1 q742.2)).bind fun q745 =>
     (zm_is q745.1 r0 10).bind fun _ => (zm_fw q745.2 r0 23 0 (.int 0)).bind fun s746 =>
     some (.inl (127, [(0, .ref r0), (2, .int 0)], [], q745.1, s746, 0, 0))) ((zm_av (zM 200 [.ref q743, .int 0, .null, .int 0, .int (nI 24)] q742.1 q742.2)).bind fun q747 =>
     (zm_is q747.1 r0 10).bind fun _ => (zm_fw q747.2 r0 23 0 (.int 0)).bind fun s748 =>
     some (.inl (127, [(0, .ref r0), (2, .int 0)], [], q747.1, s748, 0, 0)))) ((zm_is q742.1 r0 10).bind fun _ =>
     zm_opt (q742.2.2.2 r0 10) (fun q749 =>
     (zm_av (zM 200 [.null, .int 0, .ref q749, .int 0, .int (nI 24)] q742.1 q742.2)).bind fun q750 =>
     (zm_is q750.1 r0 10).bind fun _ => (zm_fw q750.2 r0 23 0 (.int 0)).bind fun s751 =>
     some (.inl (127, [(0, .ref r0), (2, .int 0)], [], q750.1, s751, 0, 0))) ((zm_av (zM 200 [.null, .int 0, .null, .int 0, .int (nI 24)] q742.1 q742.2)).bind fun q752 =>
     (zm_is q752.1 r0 10).bind fun _ => (zm_fw q752.2 r0 23 0 (.int 0)).bind fun s753 =>
     some (.inl (127, [(0, .ref r0), (2, .int 0)], [], q752.1, s753, 0, 0)))))))) ((zm_is q647.1 r0 10).bind fun _ =>
     zm_opt (q647.2.2.2 r0 8) (fun q754 =>
     (zm_av (zM 200 [.null, .int 0, .ref q754, .int 0, .int (nI 15)] q647.1 q647.2)).bind fun q755 =>
     (zm_is q755.1 r0 10).bind fun _ =>
     zm_opt (q755.2.2.2 r0 37) (fun q756 =>
     (zm_is q755.1 r0 10).bind fun _ =>
     zm_opt (q755.2.2.2 r0 9) (fun q757 =>
     (zm_av (zM 200 [.ref q756, .int 0, .ref q757, .int 0, .int (nI 3)] q755.1 q755.2)).bind fun q758 =>
     (zm_is q758.1 r0 10).bind fun _ =>
     zm_opt (q758.2.2.2 r0 38) (fun q759 =>
     (zm_is q758.1 r0 10).bind fun _ =>
     zm_opt (q758.2.2.2 r0 10) (fun q760 =>
     (zm_av (zM 200 [.ref q759, .int 0, .ref q760, .int 0, .int (nI 24)] q758.1 q758.2)).bind fun q761 =>
     (zm_is q761.1 r0 10).bind fun _ => (zm_fw q761.2 r0 23 0 (.int 0)).bind fun s762 =>
     some (.inl (127, [(0, .ref r0), (2, .int 0)], [], q761.1, s762, 0, 0))) ((zm_av (zM 200 [.ref q759, .int 0, .null, .int 0, .int (nI 24)] q758.1 q758.2)).bind fun q763 =>
     (zm_is q763.1 r0 10).bind fun _ => (zm_fw q763.2 r0 23 0 (.int 0)).bind fun s764 =>
     some (.inl (127, [(0, .ref r0), (2, .int 0)], [], q763.1, s764, 0, 0)))) ((zm_is q758.1 r0 10).bind fun _ =>
     zm_opt (q758.2.2.2 r0 10) (fun q765 =>
     (zm_av (zM 200 [.null, .int 0, .ref q765, .int 0, .int (nI 24)] q758.1 q758.2)).bind fun q766 =>
     (zm_is q766.1 r0 10).bind fun _ => (zm_fw q766.2 r0 23 0 (.int 0)).bind fun s767 =>
     some (.inl (127, [(0, .ref r0), (2, .int 0)], [], q766.1, s767, 0, 0))) ((zm_av (zM 200 [.null, .int 0, .null, .int 0, .int (nI 24)] q758.1 q758.2)).bind fun q768 =>
     (zm_is q768.1 r0 10).bind fun _ => (zm_fw q768.2 r0 23 0 (.int 0)).bind fun s769 =>
     some (.inl (127, [(0, .ref r0), (2, .int 0)], [], q768.1, s769, 0, 0))))) ((zm_av (zM 200 [.ref q756, .int 0, .null, .int 0, .int (nI 3)] q755.1 q755.2)).bind fun q770 =>
     (zm_is q770.1 r0 10).bind fun _ =>
     zm_opt (q770.2.2.2 r0 38) (fun q771 =>
     (zm_is q770.1 r0 10).bind fun _ =>
     zm_opt (q770.2.2.2 r0 10) (fun q772 =>
     (zm_av (zM 200 [.ref q771, .int 0, .ref q772, .int 0, .int (nI 24)] q770.1 q770.2)).bind fun q773 =>
     (zm_is q773.1 r0 10).bind fun _ => (zm_fw q773.2 r0 23 0 (.int 0)).bind fun s774 =>
     some (.inl (127, [(0, .ref r0), (2, .int 0)], [], q773.1, s774, 0, 0))) ((zm_av (zM 200 [.ref q771, .int 0, .null, .int 0, .int (nI 24)] q770.1 q770.2)).bind fun q775 =>
     (zm_is q775.1 r0 10).bind fun _ => (zm_fw q775.2 r0 23 0 (.int 0)).bind fun s776 =>
     some (.inl (127, [(0, .ref r0), (2, .int 0)], [], q775.1, s776, 0, 0)))) ((zm_is q770.1 r0 10).bind fun _ =>
     zm_opt (q770.2.2.2 r0 10) (fun q777 =>
     (zm_av (zM 200 [.null, .int 0, .ref q777, .int 0, .int (nI 24)] q770.1 q770.2)).bind fun q778 =>
     (zm_is q778.1 r0 10).bind fun _ => (zm_fw q778.2 r0 23 0 (.int 0)).bind fun s779 =>
     some (.inl (127, [(0, .ref r0), (2, .int 0)], [], q778.1, s779, 0, 0))) ((zm_av (zM 200 [.null, .int 0, .null, .int 0, .int (nI 24)] q770.1 q770.2)).bind fun q780 =>
     (zm_is q780.1 r0 10).bind fun _ => (zm_fw q780.2 r0 23 0 (.int 0)).bind fun s781 =>
     some (.inl (127, [(0, .ref r0), (2, .int 0)], [], q780.1, s781, 0, 0)))))) ((zm_is q755.1 r0 10).bind fun _ =>
     zm_opt (q755.2.2.2 r0 9) (fun q782 =>
     (zm_av (zM 200 [.null, .int 0, .ref q782, .int 0, .int (nI 3)] q755.1 q755.2)).bind fun q783 =>
     (zm_is q783.1 r0 10).bind fun _ =>
     zm_opt (q783.2.2.2 r0 38) (fun q784 =>
     (zm_is q783.1 r0 10).bind fun _ =>
     zm_opt (q783.2.2.2 r0 10) (fun q785 =>
     (zm_av (zM 200 [.ref q784, .int 0, .ref q785, .int 0, .int (nI 24)] q783.1 q783.2)).bind fun q786 =>
     (zm_is q786.1 r0 10).bind fun _ => (zm_fw q786.2 r0 23 0 (.int 0)).bind fun s787 =>
     some (.inl (127, [(0, .ref r0), (2, .int 0)], [], q786.1, s787, 0, 0))) ((zm_av (zM 200 [.ref q784, .int 0, .null, .int 0, .int (nI 24)] q783.1 q783.2)).bind fun q788 =>
     (zm_is q788.1 r0 10).bind fun _ => (zm_fw q788.2 r0 23 0 (.int 0)).bind fun s789 =>
     some (.inl (127, [(0, .ref r0), (2, .int 0)], [], q788.1, s789, 0, 0)))) ((zm_is q783.1 r0 10).bind fun _ =>
     zm_opt (q783.2.2.2 r0 10) (fun q790 =>
     (zm_av (zM 200 [.null, .int 0, .ref q790, .int 0, .int (nI 24)] q783.1 q783.2)).bind fun q791 =>
     (zm_is q791.1 r0 10).bind fun _ => (zm_fw q791.2 r0 23 0 (.int 0)).bind fun s792 =>
     some (.inl (127, [(0, .ref r0), (2, .int 0)], [], q791.1, s792, 0, 0))) ((zm_av (zM 200 [.null, .int 0, .null, .int 0, .int (nI 24)] q783.1 q783.2)).bind fun q793 =>
     (zm_is q793.1 r0 10).bind fun _ => (zm_fw q793.2 r0 23 0 (.int 0)).bind fun s794 =>
     some (.inl (127, [(0, .ref r0), (2, .int 0)], [], q793.1, s794, 0, 0))))) ((zm_av (zM 200 [.null, .int 0, .null, .int 0, .int (nI 3)] q755.1 q755.2)).bind fun q795 =>
     (zm_is q795.1 r0 10).bind fun _ =>
     zm_opt (q795.2.2.2 r0 38) (fun q796 =>
     (zm_is q795.1 r0 10).bind fun _ =>
     zm_opt (q795.2.2.2 r0 10) (fun q797 =>
     (zm_av (zM 200 [.ref q796, .int 0, .ref q797, .int 0, .int (nI 24)] q795.1 q795.2)).bind fun q798 =>
     (zm_is q798.1 r0 10).bind fun _ => (zm_fw q798.2 r0 23 0 (.int 0)).bind fun s799 =>
     some (.inl (127, [(0, .ref r0), (2, .int 0)], [], q798.1, s799, 0, 0))) ((zm_av (zM 200 [.ref q796, .int 0, .null, .int 0, .int (nI 24)] q795.1 q795.2)).bind fun q800 =>
     (zm_is q800.1 r0 10).bind fun _ => (zm_fw q800.2 r0 23 0 (.int 0)).bind fun s801 =>
     some (.inl (127, [(0, .ref r0), (2, .int 0)], [], q800.1, s801, 0, 0)))) ((zm_is q795.1 r0 10).bind fun _ =>
     zm_opt (q795.2.2.2 r0 10) (fun q802 =>
     (zm_av (zM 200 [.null, .int 0, .ref q802, .int 0, .int (nI 24)] q795.1 q795.2)).bind fun q803 =>
     (zm_is q803.1 r0 10).bind fun _ => (zm_fw q803.2 r0 23 0 (.int 0)).bind fun s804 =>
     some (.inl (127, [(0, .ref r0), (2, .int 0)], [], q803.1, s804, 0, 0))) ((zm_av (zM 200 [.null, .int 0, .null, .int 0, .int (nI 24)] q795.1 q795.2)).bind fun q805 =>
     (zm_is q805.1 r0 10).bind fun _ => (zm_fw q805.2 r0 23 0 (.int 0)).bind fun s806 =>
     some (.inl (127, [(0, .ref r0), (2, .int 0)], [], q805.1, s806, 0, 0))))))) ((zm_av (zM 200 [.null, .int 0, .null, .int 0, .int (nI 15)] q647.1 q647.2)).bind fun q807 =>
     (zm_is q807.1 r0 10).bind fun _ =>
     zm_opt (q807.2.2.2 r0 37) (fun q808 =>
     (zm_is q807.1 r0 10).bind fun _ =>
     zm_opt (q807.2.2.2 r0 9) (fun q809 =>
     (zm_av (zM 200 [.ref q808, .int 0, .ref q809, .int 0, .int (nI 3)] q807.1 q807.2)).bind fun q810 =>
     (zm_is q810.1 r0 10).bind fun _ =>
     zm_opt (q810.2.2.2 r0 38) (fun q811 =>
     (zm_is q810.1 r0 10).bind fun _ =>
     zm_opt (q810.2.2.2 r0 10) (fun q812 =>
     (zm_av (zM 200 [.ref q811, .int 0, .ref q812, .int 0, .int (nI 24)] q810.1 q810.2)).bind fun q813 =>
     (zm_is q813.1 r0 10).bind fun _ => (zm_fw q813.2 r0 23 0 (.int 0)).bind fun s814 =>
     some (.inl (127, [(0, .ref r0), (2, .int 0)], [], q813.1, s814, 0, 0))) ((zm_av (zM 200 [.ref q811, .int 0, .null, .int 0, .int (nI 24)] q810.1 q810.2)).bind fun q815 =>
     (zm_is q815.1 r0 10).bind fun _ => (zm_fw q815.2 r0 23 0 (.int 0)).bind fun s816 =>
     some (.inl (127, [(0, .ref r0), (2, .int 0)], [], q815.1, s816, 0, 0)))) ((zm_is q810.1 r0 10).bind fun _ =>
     zm_opt (q810.2.2.2 r0 10) (fun q817 =>
     (zm_av (zM 200 [.null, .int 0, .ref q817, .int 0, .int (nI 24)] q810.1 q810.2)).bind fun q818 =>
     (zm_is q818.1 r0 10).bind fun _ => (zm_fw q818.2 r0 23 0 (.int 0)).bind fun s819 =>
     some (.inl (127, [(0, .ref r0), (2, .int 0)], [], q818.1, s819, 0, 0))) ((zm_av (zM 200 [.null, .int 0, .null, .int 0, .int (nI 24)] q810.1 q810.2)).bind fun q820 =>
     (zm_is q820.1 r0 10).bind fun _ => (zm_fw q820.2 r0 23 0 (.int 0)).bind fun s821 =>
     some (.inl (127, [(0, .ref r0), (2, .int 0)], [], q820.1, s821, 0, 0))))) ((zm_av (zM 200 [.ref q808, .int 0, .null, .int 0, .int (nI 3)] q807.1 q807.2)).bind fun q822 =>
     (zm_is q822.1 r0 10).bind fun _ =>
     zm_opt (q822.2.2.2 r0 38) (fun q823 =>
     (zm_is q822.1 r0 10).bind fun _ =>
     zm_opt (q822.2.2.2 r0 10) (fun q824 =>
     (zm_av (zM 200 [.ref q823, .int 0, .ref q824, .int 0, .int (nI 24)] q822.1 q822.2)).bind fun q825 =>
     (zm_is q825.1 r0 10).bind fun _ => (zm_fw q825.2 r0 23 0 (.int 0)).bind fun s826 =>
     some (.inl (127, [(0, .ref r0), (2, .int 0)], [], q825.1, s826, 0, 0))) ((zm_av (zM 200 [.ref q823, .int 0, .null, .int 0, .int (nI 24)] q822.1 q822.2)).bind fun q827 =>
     (zm_is q827.1 r0 10).bind fun _ => (zm_fw q827.2 r0 23 0 (.int 0)).bind fun s828 =>
     some (.inl (127, [(0, .ref r0), (2, .int 0)], [], q827.1, s828, 0, 0)))) ((zm_is q822.1 r0 10).bind fun _ =>
     zm_opt (q822.2.2.2 r0 10) (fun q829 =>
     (zm_av (zM 200 [.null, .int 0, .ref q829, .int 0, .int (nI 24)] q822.1 q822.2)).bind fun q830 =>
     (zm_is q830.1 r0 10).bind fun _ => (zm_fw q830.2 r0 23 0 (.int 0)).bind fun s831 =>
     some (.inl (127, [(0, .ref r0), (2, .int 0)], [], q830.1, s831, 0, 0))) ((zm_av (zM 200 [.null, .int 0, .null, .int 0, .int (nI 24)] q822.1 q822.2)).bind fun q832 =>
     (zm_is q832.1 r0 10).bind fun _ => (zm_fw q832.2 r0 23 0 (.int 0)).bind fun s833 =>
     some (.inl (127, [(0, .ref r0), (2, .int 0)], [], q832.1, s833, 0, 0)))))) ((zm_is q807.1 r0 10).bind fun _ =>
     zm_opt (q807.2.2.2 r0 9) (fun q834 =>
     (zm_av (zM 200 [.null, .int 0, .ref q834, .int 0, .int (nI 3)] q807.1 q807.2)).bind fun q835 =>
     (zm_is q835.1 r0 10).bind fun _ =>
     zm_opt (q835.2.2.2 r0 38) (fun q836 =>
     (zm_is q835.1 r0 10).bind fun _ =>
     zm_opt (q835.2.2.2 r0 10) (fun q837 =>
     (zm_av (zM 200 [.ref q836, .int 0, .ref q837, .int 0, .int (nI 24)] q835.1 q835.2)).bind fun q838 =>
     (zm_is q838.1 r0 10).bind fun _ => (zm_fw q838.2 r0 23 0 (.int 0)).bind fun s839 =>
     some (.inl (127, [(0, .ref r0), (2, .int 0)], [], q838.1, s839, 0, 0))) ((zm_av (zM 200 [.ref q836, .int 0, .null, .int 0, .int (nI 24)] q835.1 q835.2)).bind fun q840 =>
     (zm_is q840.1 r0 10).bind fun _ => (zm_fw q840.2 r0 23 0 (.int 0)).bind fun s841 =>
     some (.inl (127, [(0, .ref r0), (2, .int 0)], [], q840.1, s841, 0, 0)))) ((zm_is q835.1 r0 10).bind fun _ =>
     zm_opt (q835.2.2.2 r0 10) (fun q842 =>
     (zm_av (zM 200 [.null, .int 0, .ref q842, .int 0, .int (nI 24)] q835.1 q835.2)).bind fun q843 =>
     (zm_is q843.1 r0 10).bind fun _ => (zm_fw q843.2 r0 23 0 (.int 0)).bind fun s844 =>
     some (.inl (127, [(0, .ref r0), (2, .int 0)], [], q843.1, s844, 0, 0))) ((zm_av (zM 200 [.null, .int 0, .null, .int 0, .int (nI 24)] q835.1 q835.2)).bind fun q845 =>
     (zm_is q845.1 r0 10).bind fun _ => (zm_fw q845.2 r0 23 0 (.int 0)).bind fun s846 =>
     some (.inl (127, [(0, .ref r0), (2, .int 0)], [], q845.1, s846, 0, 0))))) ((zm_av (zM 200 [.null, .int 0, .null, .int 0, .int (nI 3)] q807.1 q807.2)).bind fun q847 =>
     (zm_is q847.1 r0 10).bind fun _ =>
     zm_opt (q847.2.2.2 r0 38) (fun q848 =>
     (zm_is q847.1 r0 10).bind fun _ =>
     zm_opt (q847.2.2.2 r0 10) (fun q849 =>
     (zm_av (zM 200 [.ref q848, .int 0, .ref q849, .int 0, .int (nI 24)] q847.1 q847.2)).bind fun q850 =>
     (zm_is q850.1 r0 10).bind fun _ => (zm_fw q850.2 r0 23 0 (.int 0)).bind fun s851 =>
     some (.inl (127, [(0, .ref r0), (2, .int 0)], [], q850.1, s851, 0, 0))) ((zm_av (zM 200 [.ref q848, .int 0, .null, .int 0, .int (nI 24)] q847.1 q847.2)).bind fun q852 =>
     (zm_is q852.1 r0 10).bind fun _ => (zm_fw q852.2 r0 23 0 (.int 0)).bind fun s853 =>
     some (.inl (127, [(0, .ref r0), (2, .int 0)], [], q852.1, s853, 0, 0)))) ((zm_is q847.1 r0 10).bind fun _ =>
     zm_opt (q847.2.2.2 r0 10) (fun q854 =>
     (zm_av (zM 200 [.null, .int 0, .ref q854, .int 0, .int (nI 24)] q847.1 q847.2)).bind fun q855 =>
     (zm_is q855.1 r0 10).bind fun _ => (zm_fw q855.2 r0 23 0 (.int 0)).bind fun s856 =>
     some (.inl (127, [(0, .ref r0), (2, .int 0)], [], q855.1, s856, 0, 0))) ((zm_av (zM 200 [.null, .int 0, .null, .int 0, .int (nI 24)] q847.1 q847.2)).bind fun q857 =>
     (zm_is q857.1 r0 10).bind fun _ => (zm_fw q857.2 r0 23 0 (.int 0)).bind fun s858 =>
     some (.inl (127, [(0, .ref r0), (2, .int 0)], [], q857.1, s858, 0, 0)))))))))))
    else (some (.inr (some (.int (-4)), q4.2.1, q4.2.2))))
   else ((zm_is q1.2.1 r0 10).bind fun _ => (zm_ai (zM 177 [.ref r0, .int 1] q1.2.1 q1.2.2)).bind fun q859 =>
    some (.inr (some (.int q859.1), q859.2.1, q859.2.2)))) (none))
  else (some (.inr (some (.int (-1)), q1.2.1, q1.2.2)))
set_option maxRecDepth 100000 in
theorem zr_199_0 (lay : zm_Lay) (σ : zm_Sig) (r0 : Nat) (i1 : Int32) : zm_blk zM zp_199 (some .int) 0 0 zc_199 87 (zp_199.drop 0) (0, [(0, .ref r0), (1, .int i1)], [], lay, σ, 0, 0) = zb_199_0 lay σ r0 i1 := rfl
theorem ze_199 {lay : zm_Lay} {σ : zm_Sig} {r0 : Nat} {i1 : Int32} {out : zm_Out} {r : zm_St ⊕ zm_Out} (h : zb_199_0 lay σ r0 i1 = some r) (hg : match r with | .inl x => zm_go zp_P 199 x out | .inr o => o = out) : zM 199 [.ref r0, .int i1] lay σ = some out :=
  zm_mean_go (M := zd_199) rfl (Nat.le_of_ble_eq_true rfl) (zm_blk_go (M := zd_199) rfl zs_199 87 (zp_199.drop 0) _ r (fun _ h => List.mem_of_mem_drop h) ((zr_199_0 lay σ r0 i1).trans h) hg)
noncomputable def zb_199_127 (lay : zm_Lay) (σ : zm_Sig) (r0 : Nat) (i2 : Int32) : Option (zm_St ⊕ zm_Out) :=
  if ((nI 3) : Int32) ≤ i2 then ((zm_is lay r0 10).bind fun _ => (zm_av (zM 201 [.ref r0, .int 0] lay σ)).bind fun q1 =>
   (zm_is q1.1 r0 10).bind fun _ =>
   some (.inr (some (.int (q1.2.1 r0 4)), q1.1, q1.2)))
  else ((zm_is lay r0 10).bind fun _ =>
   zm_opt (σ.2.2 r0 25) (fun q2 =>
   (zm_sZ lay σ q2 i2 0).bind fun s3 =>
   some (.inl (127, [(0, .ref r0), (2, .int (i2 + 1))], [], lay, s3, 0, 0))) (none))
set_option maxRecDepth 100000 in
theorem zr_199_127 (lay : zm_Lay) (σ : zm_Sig) (r0 : Nat) (i2 : Int32) : zm_blk zM zp_199 (some .int) 0 0 zc_199 87 (zp_199.drop 70) (127, [(0, .ref r0), (2, .int i2)], [], lay, σ, 0, 0) = zb_199_127 lay σ r0 i2 := rfl
theorem zg_199_127 {lay : zm_Lay} {σ : zm_Sig} {r0 : Nat} {i2 : Int32} {out : zm_Out} {r : zm_St ⊕ zm_Out} (h : zb_199_127 lay σ r0 i2 = some r) (hg : match r with | .inl x => zm_go zp_P 199 x out | .inr o => o = out) : zm_go zp_P 199 (127, [(0, .ref r0), (2, .int i2)], [], lay, σ, 0, 0) out :=
  zm_blk_go (M := zd_199) rfl zs_199 87 (zp_199.drop 70) _ r (fun _ h => List.mem_of_mem_drop h) ((zr_199_127 lay σ r0 i2).trans h) hg
/-! SubgroupWriterModel.bring([II[III)V -/
theorem zs_200 : zm_srt zp_200 = true := by decide +kernel
noncomputable def zb_200_0 (lay : zm_Lay) (σ : zm_Sig) (r0 : Nat) (i1 : Int32) (r2 : Nat) (i3 : Int32) (i4 : Int32) : Option (zm_St ⊕ zm_Out) :=
  some (.inl (3, [(0, .ref r0), (1, .int i1), (2, .ref r2), (3, .int i3), (4, .int i4), (5, .int 0)], [], lay, σ, 0, 0))
set_option maxRecDepth 100000 in
theorem zr_200_0 (lay : zm_Lay) (σ : zm_Sig) (r0 : Nat) (i1 : Int32) (r2 : Nat) (i3 : Int32) (i4 : Int32) : zm_blk zM zp_200 none 0 0 zc_200 19 (zp_200.drop 0) (0, [(0, .ref r0), (1, .int i1), (2, .ref r2), (3, .int i3), (4, .int i4)], [], lay, σ, 0, 0) = zb_200_0 lay σ r0 i1 r2 i3 i4 := rfl
theorem ze_200 {lay : zm_Lay} {σ : zm_Sig} {r0 : Nat} {i1 : Int32} {r2 : Nat} {i3 : Int32} {i4 : Int32} {out : zm_Out} {r : zm_St ⊕ zm_Out} (h : zb_200_0 lay σ r0 i1 r2 i3 i4 = some r) (hg : match r with | .inl x => zm_go zp_P 200 x out | .inr o => o = out) : zM 200 [.ref r0, .int i1, .ref r2, .int i3, .int i4] lay σ = some out :=
  zm_mean_go (M := zd_200) rfl (Nat.le_of_ble_eq_true rfl) (zm_blk_go (M := zd_200) rfl zs_200 19 (zp_200.drop 0) _ r (fun _ h => List.mem_of_mem_drop h) ((zr_200_0 lay σ r0 i1 r2 i3 i4).trans h) hg)
noncomputable def zb_200_3 (lay : zm_Lay) (σ : zm_Sig) (r0 : Nat) (i1 : Int32) (r2 : Nat) (i3 : Int32) (i4 : Int32) (i5 : Int32) : Option (zm_St ⊕ zm_Out) :=
  if i4 ≤ i5 then (some (.inr (none, lay, σ)))
  else ((zm_gI lay σ r0 (i1 + i5)).bind fun v1 =>
   (zm_sI lay σ r2 (i3 + i5) v1).bind fun s2 =>
   some (.inl (3, [(0, .ref r0), (1, .int i1), (2, .ref r2), (3, .int i3), (4, .int i4), (5, .int (i5 + 1))], [], lay, s2, 0, 0)))
set_option maxRecDepth 100000 in
theorem zr_200_3 (lay : zm_Lay) (σ : zm_Sig) (r0 : Nat) (i1 : Int32) (r2 : Nat) (i3 : Int32) (i4 : Int32) (i5 : Int32) : zm_blk zM zp_200 none 0 0 zc_200 19 (zp_200.drop 2) (3, [(0, .ref r0), (1, .int i1), (2, .ref r2), (3, .int i3), (4, .int i4), (5, .int i5)], [], lay, σ, 0, 0) = zb_200_3 lay σ r0 i1 r2 i3 i4 i5 := rfl
theorem zg_200_3 {lay : zm_Lay} {σ : zm_Sig} {r0 : Nat} {i1 : Int32} {r2 : Nat} {i3 : Int32} {i4 : Int32} {i5 : Int32} {out : zm_Out} {r : zm_St ⊕ zm_Out} (h : zb_200_3 lay σ r0 i1 r2 i3 i4 i5 = some r) (hg : match r with | .inl x => zm_go zp_P 200 x out | .inr o => o = out) : zm_go zp_P 200 (3, [(0, .ref r0), (1, .int i1), (2, .ref r2), (3, .int i3), (4, .int i4), (5, .int i5)], [], lay, σ, 0, 0) out :=
  zm_blk_go (M := zd_200) rfl zs_200 19 (zp_200.drop 2) _ r (fun _ h => List.mem_of_mem_drop h) ((zr_200_3 lay σ r0 i1 r2 i3 i4 i5).trans h) hg
/-! SubgroupWriterModel.ordered(I)V -/
theorem zs_201 : zm_srt zp_201 = true := by decide +kernel
noncomputable def zb_201_0 (lay : zm_Lay) (σ : zm_Sig) (r0 : Nat) (i1 : Int32) : Option (zm_St ⊕ zm_Out) :=
  some (.inl (2, [(0, .ref r0), (1, .int i1), (2, .int 0)], [], lay, σ, 0, 0))
set_option maxRecDepth 100000 in
theorem zr_201_0 (lay : zm_Lay) (σ : zm_Sig) (r0 : Nat) (i1 : Int32) : zm_blk zM zp_201 none 0 0 zc_201 23 (zp_201.drop 0) (0, [(0, .ref r0), (1, .int i1)], [], lay, σ, 0, 0) = zb_201_0 lay σ r0 i1 := rfl
theorem ze_201 {lay : zm_Lay} {σ : zm_Sig} {r0 : Nat} {i1 : Int32} {out : zm_Out} {r : zm_St ⊕ zm_Out} (h : zb_201_0 lay σ r0 i1 = some r) (hg : match r with | .inl x => zm_go zp_P 201 x out | .inr o => o = out) : zM 201 [.ref r0, .int i1] lay σ = some out :=
  zm_mean_go (M := zd_201) rfl (Nat.le_of_ble_eq_true rfl) (zm_blk_go (M := zd_201) rfl zs_201 23 (zp_201.drop 0) _ r (fun _ h => List.mem_of_mem_drop h) ((zr_201_0 lay σ r0 i1).trans h) hg)
noncomputable def zb_201_2 (lay : zm_Lay) (σ : zm_Sig) (r0 : Nat) (i1 : Int32) (i2 : Int32) : Option (zm_St ⊕ zm_Out) :=
  if ((nI 258) : Int32) ≤ i2 then ((zm_is lay r0 10).bind fun _ =>
   zm_opt (σ.2.2 r0 21) (fun q1 =>
   (zm_sI lay σ q1 0 i1).bind fun s2 =>
   (zm_is lay r0 10).bind fun _ => (zm_av (zM 202 [.ref r0] lay s2)).bind fun q3 =>
   (zm_is q3.1 r0 10).bind fun _ => (zm_av (zM 211 [.ref r0] q3.1 q3.2)).bind fun q4 =>
   some (.inr (none, q4.1, q4.2))) (none))
  else ((zm_is lay r0 10).bind fun _ =>
   zm_opt (σ.2.2 r0 21) (fun q5 =>
   (zm_sI lay σ q5 i2 0).bind fun s6 =>
   some (.inl (2, [(0, .ref r0), (1, .int i1), (2, .int (i2 + 1))], [], lay, s6, 0, 0))) (none))
set_option maxRecDepth 100000 in
theorem zr_201_2 (lay : zm_Lay) (σ : zm_Sig) (r0 : Nat) (i1 : Int32) (i2 : Int32) : zm_blk zM zp_201 none 0 0 zc_201 23 (zp_201.drop 2) (2, [(0, .ref r0), (1, .int i1), (2, .int i2)], [], lay, σ, 0, 0) = zb_201_2 lay σ r0 i1 i2 := rfl
theorem zg_201_2 {lay : zm_Lay} {σ : zm_Sig} {r0 : Nat} {i1 : Int32} {i2 : Int32} {out : zm_Out} {r : zm_St ⊕ zm_Out} (h : zb_201_2 lay σ r0 i1 i2 = some r) (hg : match r with | .inl x => zm_go zp_P 201 x out | .inr o => o = out) : zm_go zp_P 201 (2, [(0, .ref r0), (1, .int i1), (2, .int i2)], [], lay, σ, 0, 0) out :=
  zm_blk_go (M := zd_201) rfl zs_201 23 (zp_201.drop 2) _ r (fun _ h => List.mem_of_mem_drop h) ((zr_201_2 lay σ r0 i1 i2).trans h) hg
/-! SubgroupWriterModel.laysTree()V -/
theorem zs_202 : zm_srt zp_202 = true := by decide +kernel
noncomputable def zb_202_0 (lay : zm_Lay) (σ : zm_Sig) (r0 : Nat) : Option (zm_St ⊕ zm_Out) :=
  some (.inl (2, [(0, .ref r0), (1, .int 0)], [], lay, σ, 0, 0))
set_option maxRecDepth 100000 in
theorem zr_202_0 (lay : zm_Lay) (σ : zm_Sig) (r0 : Nat) : zm_blk zM zp_202 none 0 0 zc_202 145 (zp_202.drop 0) (0, [(0, .ref r0)], [], lay, σ, 0, 0) = zb_202_0 lay σ r0 := rfl
theorem ze_202 {lay : zm_Lay} {σ : zm_Sig} {r0 : Nat} {out : zm_Out} {r : zm_St ⊕ zm_Out} (h : zb_202_0 lay σ r0 = some r) (hg : match r with | .inl x => zm_go zp_P 202 x out | .inr o => o = out) : zM 202 [.ref r0] lay σ = some out :=
  zm_mean_go (M := zd_202) rfl (Nat.le_of_ble_eq_true rfl) (zm_blk_go (M := zd_202) rfl zs_202 145 (zp_202.drop 0) _ r (fun _ h => List.mem_of_mem_drop h) ((zr_202_0 lay σ r0).trans h) hg)
noncomputable def zb_202_2 (lay : zm_Lay) (σ : zm_Sig) (r0 : Nat) (i1 : Int32) : Option (zm_St ⊕ zm_Out) :=
  if ((nI 5) : Int32) ≤ i1 then ((zm_is lay r0 10).bind fun _ =>
   zm_opt (σ.2.2 r0 15) (fun q1 =>
   (zm_sI lay σ q1 0 0).bind fun s2 =>
   (zm_is lay r0 10).bind fun _ =>
   zm_opt (s2.2.2 r0 14) (fun q3 =>
   (zm_sI lay s2 q3 0 0).bind fun s4 =>
   (zm_is lay r0 10).bind fun _ => (zm_fw s4 r0 16 0 (.int 1)).bind fun s5 =>
   (zm_is lay r0 10).bind fun _ =>
   zm_opt (s5.2.2 r0 21) (fun q6 =>
   (zm_gI lay s5 q6 0).bind fun v7 =>
   if ¬ v7 = (nI 2) then ((zm_is lay r0 10).bind fun _ =>
    zm_opt (s5.2.2 r0 21) (fun q8 =>
    (zm_gI lay s5 q8 0).bind fun v9 =>
    if ¬ v9 = 1 then ((zm_is lay r0 10).bind fun _ => (zm_av (zM 208 [.ref r0, .int 0] lay s5)).bind fun q10 =>
     (zm_is q10.1 r0 10).bind fun _ => (zm_fw q10.2 r0 20 0 (.int 0)).bind fun s11 =>
     some (.inl (98, [(0, .ref r0), (1, .int 0)], [], q10.1, s11, 0, 0)))
    else ((zm_is lay r0 10).bind fun _ => (zm_av (zM 208 [.ref r0, .int 1] lay s5)).bind fun q12 =>
     (zm_is q12.1 r0 10).bind fun _ => (zm_fw q12.2 r0 20 0 (.int 0)).bind fun s13 =>
     some (.inl (98, [(0, .ref r0), (1, .int 0)], [], q12.1, s13, 0, 0)))) (none))
   else ((zm_is lay r0 10).bind fun _ => (zm_av (zM 203 [.ref r0] lay s5)).bind fun q14 =>
    (zm_is q14.1 r0 10).bind fun _ => (zm_fw q14.2 r0 20 0 (.int 0)).bind fun s15 =>
    some (.inl (98, [(0, .ref r0), (1, .int 0)], [], q14.1, s15, 0, 0)))) (none)) (none)) (none))
  else ((zm_is lay r0 10).bind fun _ =>
   zm_opt (σ.2.2 r0 13) (fun q16 =>
   (zm_sI lay σ q16 i1 0).bind fun s17 =>
   (zm_is lay r0 10).bind fun _ =>
   zm_opt (s17.2.2 r0 11) (fun q18 =>
   (zm_sI lay s17 q18 i1 (-9)).bind fun s19 =>
   (zm_is lay r0 10).bind fun _ =>
   zm_opt (s19.2.2 r0 12) (fun q20 =>
   (zm_sI lay s19 q20 i1 (-9)).bind fun s21 =>
   some (.inl (2, [(0, .ref r0), (1, .int (i1 + 1))], [], lay, s21, 0, 0))) (none)) (none)) (none))
set_option maxRecDepth 100000 in
theorem zr_202_2 (lay : zm_Lay) (σ : zm_Sig) (r0 : Nat) (i1 : Int32) : zm_blk zM zp_202 none 0 0 zc_202 145 (zp_202.drop 2) (2, [(0, .ref r0), (1, .int i1)], [], lay, σ, 0, 0) = zb_202_2 lay σ r0 i1 := rfl
theorem zg_202_2 {lay : zm_Lay} {σ : zm_Sig} {r0 : Nat} {i1 : Int32} {out : zm_Out} {r : zm_St ⊕ zm_Out} (h : zb_202_2 lay σ r0 i1 = some r) (hg : match r with | .inl x => zm_go zp_P 202 x out | .inr o => o = out) : zm_go zp_P 202 (2, [(0, .ref r0), (1, .int i1)], [], lay, σ, 0, 0) out :=
  zm_blk_go (M := zd_202) rfl zs_202 145 (zp_202.drop 2) _ r (fun _ h => List.mem_of_mem_drop h) ((zr_202_2 lay σ r0 i1).trans h) hg
noncomputable def zb_202_98 (lay : zm_Lay) (σ : zm_Sig) (r0 : Nat) (i1 : Int32) : Option (zm_St ⊕ zm_Out) :=
  (zm_is lay r0 10).bind fun _ =>
  (zm_is lay r0 10).bind fun _ =>
  if ((σ.1 r0 4) * (σ.1 r0 5)) ≤ i1 then (some (.inr (none, lay, σ)))
  else ((zm_is lay r0 10).bind fun _ =>
   if (σ.1 r0 5) = 0 then none
   else ((zm_is lay r0 10).bind fun _ =>
   zm_opt (σ.2.2 r0 7) (fun q1 =>
   (zm_is lay r0 10).bind fun _ =>
   if (σ.1 r0 5) = 0 then none
   else ((zm_gI lay σ q1 ((((nI 5) : Int32) * (i1 - i1 / (σ.1 r0 5) * (σ.1 r0 5))) + (i1 / (σ.1 r0 5)))).bind fun v2 =>
   (zm_is lay r0 10).bind fun _ =>
   if (σ.1 r0 5) = 0 then none
   else ((zm_is lay r0 10).bind fun _ => (zm_ai (zM 209 [.ref r0, .int (i1 / (σ.1 r0 5)), .int (i1 - i1 / (σ.1 r0 5) * (σ.1 r0 5))] lay σ)).bind fun q3 =>
   (zm_is q3.2.1 r0 10).bind fun _ =>
   zm_opt (q3.2.2.2.2 r0 17) (fun q4 =>
   if q3.1 = 0 then (if ¬ (i1 / (σ.1 r0 5)) = v2 then ((zm_is q3.2.1 r0 10).bind fun _ => (zm_ai (zM 210 [.ref r0, .int (i1 / (σ.1 r0 5)), .int v2] q3.2.1 q3.2.2)).bind fun q5 =>
     if q5.1 = 0 then ((zm_sI q5.2.1 q5.2.2 q4 i1 (nI 2)).bind fun s6 =>
      (zm_is q5.2.1 r0 10).bind fun _ =>
      if q3.1 = 0 then ((zm_is q5.2.1 r0 10).bind fun _ => (zm_fw s6 r0 20 0 (.int ((s6.1 r0 20) + 1))).bind fun s7 =>
       (zm_is q5.2.1 r0 10).bind fun _ =>
       zm_opt (s7.2.2 r0 18) (fun q8 =>
       if q3.1 = 0 then ((zm_is q5.2.1 r0 10).bind fun _ =>
        (zm_sI q5.2.1 s7 q8 i1 (s7.1 r0 20)).bind fun s9 =>
        if ¬ q3.1 = 0 then (some (.inl (98, [(0, .ref r0), (1, .int (i1 + 1))], [], q5.2.1, s9, 0, 0)))
        else ((zm_is q5.2.1 r0 10).bind fun _ =>
         zm_opt (s9.2.2 r0 19) (fun q10 =>
         (zm_is q5.2.1 r0 10).bind fun _ =>
         (zm_sI q5.2.1 s9 q10 (s9.1 r0 20) i1).bind fun s11 =>
         some (.inl (98, [(0, .ref r0), (1, .int (i1 + 1))], [], q5.2.1, s11, 0, 0))) ((zm_is q5.2.1 r0 10).bind fun _ =>
         none)))
       else ((zm_sI q5.2.1 s7 q8 i1 0).bind fun s12 =>
        if ¬ q3.1 = 0 then (some (.inl (98, [(0, .ref r0), (1, .int (i1 + 1))], [], q5.2.1, s12, 0, 0)))
        else ((zm_is q5.2.1 r0 10).bind fun _ =>
         zm_opt (s12.2.2 r0 19) (fun q13 =>
         (zm_is q5.2.1 r0 10).bind fun _ =>
         (zm_sI q5.2.1 s12 q13 (s12.1 r0 20) i1).bind fun s14 =>
         some (.inl (98, [(0, .ref r0), (1, .int (i1 + 1))], [], q5.2.1, s14, 0, 0))) ((zm_is q5.2.1 r0 10).bind fun _ =>
         none)))) (if q3.1 = 0 then ((zm_is q5.2.1 r0 10).bind fun _ =>
        none)
       else (none)))
      else ((zm_is q5.2.1 r0 10).bind fun _ => (zm_fw s6 r0 20 0 (.int ((s6.1 r0 20) + 0))).bind fun s15 =>
       (zm_is q5.2.1 r0 10).bind fun _ =>
       zm_opt (s15.2.2 r0 18) (fun q16 =>
       if q3.1 = 0 then ((zm_is q5.2.1 r0 10).bind fun _ =>
        (zm_sI q5.2.1 s15 q16 i1 (s15.1 r0 20)).bind fun s17 =>
        if ¬ q3.1 = 0 then (some (.inl (98, [(0, .ref r0), (1, .int (i1 + 1))], [], q5.2.1, s17, 0, 0)))
        else ((zm_is q5.2.1 r0 10).bind fun _ =>
         zm_opt (s17.2.2 r0 19) (fun q18 =>
         (zm_is q5.2.1 r0 10).bind fun _ =>
         (zm_sI q5.2.1 s17 q18 (s17.1 r0 20) i1).bind fun s19 =>
         some (.inl (98, [(0, .ref r0), (1, .int (i1 + 1))], [], q5.2.1, s19, 0, 0))) ((zm_is q5.2.1 r0 10).bind fun _ =>
         none)))
       else ((zm_sI q5.2.1 s15 q16 i1 0).bind fun s20 =>
        if ¬ q3.1 = 0 then (some (.inl (98, [(0, .ref r0), (1, .int (i1 + 1))], [], q5.2.1, s20, 0, 0)))
        else ((zm_is q5.2.1 r0 10).bind fun _ =>
         zm_opt (s20.2.2 r0 19) (fun q21 =>
         (zm_is q5.2.1 r0 10).bind fun _ =>
         (zm_sI q5.2.1 s20 q21 (s20.1 r0 20) i1).bind fun s22 =>
         some (.inl (98, [(0, .ref r0), (1, .int (i1 + 1))], [], q5.2.1, s22, 0, 0))) ((zm_is q5.2.1 r0 10).bind fun _ =>
         none)))) (if q3.1 = 0 then ((zm_is q5.2.1 r0 10).bind fun _ =>
        none)
       else (none))))
     else ((zm_sI q5.2.1 q5.2.2 q4 i1 (nI 4)).bind fun s23 =>
      (zm_is q5.2.1 r0 10).bind fun _ =>
      if q3.1 = 0 then ((zm_is q5.2.1 r0 10).bind fun _ => (zm_fw s23 r0 20 0 (.int ((s23.1 r0 20) + 1))).bind fun s24 =>
       (zm_is q5.2.1 r0 10).bind fun _ =>
       zm_opt (s24.2.2 r0 18) (fun q25 =>
       if q3.1 = 0 then ((zm_is q5.2.1 r0 10).bind fun _ =>
        (zm_sI q5.2.1 s24 q25 i1 (s24.1 r0 20)).bind fun s26 =>
        if ¬ q3.1 = 0 then (some (.inl (98, [(0, .ref r0), (1, .int (i1 + 1))], [], q5.2.1, s26, 0, 0)))
        else ((zm_is q5.2.1 r0 10).bind fun _ =>
         zm_opt (s26.2.2 r0 19) (fun q27 =>
         (zm_is q5.2.1 r0 10).bind fun _ =>
         (zm_sI q5.2.1 s26 q27 (s26.1 r0 20) i1).bind fun s28 =>
         some (.inl (98, [(0, .ref r0), (1, .int (i1 + 1))], [], q5.2.1, s28, 0, 0))) ((zm_is q5.2.1 r0 10).bind fun _ =>
         none)))
       else ((zm_sI q5.2.1 s24 q25 i1 0).bind fun s29 =>
        if ¬ q3.1 = 0 then (some (.inl (98, [(0, .ref r0), (1, .int (i1 + 1))], [], q5.2.1, s29, 0, 0)))
        else ((zm_is q5.2.1 r0 10).bind fun _ =>
         zm_opt (s29.2.2 r0 19) (fun q30 =>
         (zm_is q5.2.1 r0 10).bind fun _ =>
         (zm_sI q5.2.1 s29 q30 (s29.1 r0 20) i1).bind fun s31 =>
         some (.inl (98, [(0, .ref r0), (1, .int (i1 + 1))], [], q5.2.1, s31, 0, 0))) ((zm_is q5.2.1 r0 10).bind fun _ =>
         none)))) (if q3.1 = 0 then ((zm_is q5.2.1 r0 10).bind fun _ =>
        none)
       else (none)))
      else ((zm_is q5.2.1 r0 10).bind fun _ => (zm_fw s23 r0 20 0 (.int ((s23.1 r0 20) + 0))).bind fun s32 =>
       (zm_is q5.2.1 r0 10).bind fun _ =>
       zm_opt (s32.2.2 r0 18) (fun q33 =>
       if q3.1 = 0 then ((zm_is q5.2.1 r0 10).bind fun _ =>
        (zm_sI q5.2.1 s32 q33 i1 (s32.1 r0 20)).bind fun s34 =>
        if ¬ q3.1 = 0 then (some (.inl (98, [(0, .ref r0), (1, .int (i1 + 1))], [], q5.2.1, s34, 0, 0)))
        else ((zm_is q5.2.1 r0 10).bind fun _ =>
         zm_opt (s34.2.2 r0 19) (fun q35 =>
         (zm_is q5.2.1 r0 10).bind fun _ =>
         (zm_sI q5.2.1 s34 q35 (s34.1 r0 20) i1).bind fun s36 =>
         some (.inl (98, [(0, .ref r0), (1, .int (i1 + 1))], [], q5.2.1, s36, 0, 0))) ((zm_is q5.2.1 r0 10).bind fun _ =>
         none)))
       else ((zm_sI q5.2.1 s32 q33 i1 0).bind fun s37 =>
        if ¬ q3.1 = 0 then (some (.inl (98, [(0, .ref r0), (1, .int (i1 + 1))], [], q5.2.1, s37, 0, 0)))
        else ((zm_is q5.2.1 r0 10).bind fun _ =>
         zm_opt (s37.2.2 r0 19) (fun q38 =>
         (zm_is q5.2.1 r0 10).bind fun _ =>
         (zm_sI q5.2.1 s37 q38 (s37.1 r0 20) i1).bind fun s39 =>
         some (.inl (98, [(0, .ref r0), (1, .int (i1 + 1))], [], q5.2.1, s39, 0, 0))) ((zm_is q5.2.1 r0 10).bind fun _ =>
         none)))) (if q3.1 = 0 then ((zm_is q5.2.1 r0 10).bind fun _ =>
        none)
       else (none)))))
    else ((zm_sI q3.2.1 q3.2.2 q4 i1 (nI 3)).bind fun s40 =>
     (zm_is q3.2.1 r0 10).bind fun _ =>
     if q3.1 = 0 then ((zm_is q3.2.1 r0 10).bind fun _ => (zm_fw s40 r0 20 0 (.int ((s40.1 r0 20) + 1))).bind fun s41 =>
      (zm_is q3.2.1 r0 10).bind fun _ =>
      zm_opt (s41.2.2 r0 18) (fun q42 =>
      if q3.1 = 0 then ((zm_is q3.2.1 r0 10).bind fun _ =>
       (zm_sI q3.2.1 s41 q42 i1 (s41.1 r0 20)).bind fun s43 =>
       if ¬ q3.1 = 0 then (some (.inl (98, [(0, .ref r0), (1, .int (i1 + 1))], [], q3.2.1, s43, 0, 0)))
       else ((zm_is q3.2.1 r0 10).bind fun _ =>
        zm_opt (s43.2.2 r0 19) (fun q44 =>
        (zm_is q3.2.1 r0 10).bind fun _ =>
        (zm_sI q3.2.1 s43 q44 (s43.1 r0 20) i1).bind fun s45 =>
        some (.inl (98, [(0, .ref r0), (1, .int (i1 + 1))], [], q3.2.1, s45, 0, 0))) ((zm_is q3.2.1 r0 10).bind fun _ =>
        none)))
      else ((zm_sI q3.2.1 s41 q42 i1 0).bind fun s46 =>
       if ¬ q3.1 = 0 then (some (.inl (98, [(0, .ref r0), (1, .int (i1 + 1))], [], q3.2.1, s46, 0, 0)))
       else ((zm_is q3.2.1 r0 10).bind fun _ =>
        zm_opt (s46.2.2 r0 19) (fun q47 =>
        (zm_is q3.2.1 r0 10).bind fun _ =>
        (zm_sI q3.2.1 s46 q47 (s46.1 r0 20) i1).bind fun s48 =>
        some (.inl (98, [(0, .ref r0), (1, .int (i1 + 1))], [], q3.2.1, s48, 0, 0))) ((zm_is q3.2.1 r0 10).bind fun _ =>
        none)))) (if q3.1 = 0 then ((zm_is q3.2.1 r0 10).bind fun _ =>
       none)
      else (none)))
     else ((zm_is q3.2.1 r0 10).bind fun _ => (zm_fw s40 r0 20 0 (.int ((s40.1 r0 20) + 0))).bind fun s49 =>
      (zm_is q3.2.1 r0 10).bind fun _ =>
      zm_opt (s49.2.2 r0 18) (fun q50 =>
      if q3.1 = 0 then ((zm_is q3.2.1 r0 10).bind fun _ =>
       (zm_sI q3.2.1 s49 q50 i1 (s49.1 r0 20)).bind fun s51 =>
       if ¬ q3.1 = 0 then (some (.inl (98, [(0, .ref r0), (1, .int (i1 + 1))], [], q3.2.1, s51, 0, 0)))
       else ((zm_is q3.2.1 r0 10).bind fun _ =>
        zm_opt (s51.2.2 r0 19) (fun q52 =>
        (zm_is q3.2.1 r0 10).bind fun _ =>
        (zm_sI q3.2.1 s51 q52 (s51.1 r0 20) i1).bind fun s53 =>
        some (.inl (98, [(0, .ref r0), (1, .int (i1 + 1))], [], q3.2.1, s53, 0, 0))) ((zm_is q3.2.1 r0 10).bind fun _ =>
        none)))
      else ((zm_sI q3.2.1 s49 q50 i1 0).bind fun s54 =>
       if ¬ q3.1 = 0 then (some (.inl (98, [(0, .ref r0), (1, .int (i1 + 1))], [], q3.2.1, s54, 0, 0)))
       else ((zm_is q3.2.1 r0 10).bind fun _ =>
        zm_opt (s54.2.2 r0 19) (fun q55 =>
        (zm_is q3.2.1 r0 10).bind fun _ =>
        (zm_sI q3.2.1 s54 q55 (s54.1 r0 20) i1).bind fun s56 =>
        some (.inl (98, [(0, .ref r0), (1, .int (i1 + 1))], [], q3.2.1, s56, 0, 0))) ((zm_is q3.2.1 r0 10).bind fun _ =>
        none)))) (if q3.1 = 0 then ((zm_is q3.2.1 r0 10).bind fun _ =>
       none)
      else (none)))))
   else ((zm_sI q3.2.1 q3.2.2 q4 i1 1).bind fun s57 =>
    (zm_is q3.2.1 r0 10).bind fun _ =>
    if q3.1 = 0 then ((zm_is q3.2.1 r0 10).bind fun _ => (zm_fw s57 r0 20 0 (.int ((s57.1 r0 20) + 1))).bind fun s58 =>
     (zm_is q3.2.1 r0 10).bind fun _ =>
     zm_opt (s58.2.2 r0 18) (fun q59 =>
     if q3.1 = 0 then ((zm_is q3.2.1 r0 10).bind fun _ =>
      (zm_sI q3.2.1 s58 q59 i1 (s58.1 r0 20)).bind fun s60 =>
      if ¬ q3.1 = 0 then (some (.inl (98, [(0, .ref r0), (1, .int (i1 + 1))], [], q3.2.1, s60, 0, 0)))
      else ((zm_is q3.2.1 r0 10).bind fun _ =>
       zm_opt (s60.2.2 r0 19) (fun q61 =>
       (zm_is q3.2.1 r0 10).bind fun _ =>
       (zm_sI q3.2.1 s60 q61 (s60.1 r0 20) i1).bind fun s62 =>
       some (.inl (98, [(0, .ref r0), (1, .int (i1 + 1))], [], q3.2.1, s62, 0, 0))) ((zm_is q3.2.1 r0 10).bind fun _ =>
       none)))
     else ((zm_sI q3.2.1 s58 q59 i1 0).bind fun s63 =>
      if ¬ q3.1 = 0 then (some (.inl (98, [(0, .ref r0), (1, .int (i1 + 1))], [], q3.2.1, s63, 0, 0)))
      else ((zm_is q3.2.1 r0 10).bind fun _ =>
       zm_opt (s63.2.2 r0 19) (fun q64 =>
       (zm_is q3.2.1 r0 10).bind fun _ =>
       (zm_sI q3.2.1 s63 q64 (s63.1 r0 20) i1).bind fun s65 =>
       some (.inl (98, [(0, .ref r0), (1, .int (i1 + 1))], [], q3.2.1, s65, 0, 0))) ((zm_is q3.2.1 r0 10).bind fun _ =>
       none)))) (if q3.1 = 0 then ((zm_is q3.2.1 r0 10).bind fun _ =>
      none)
     else (none)))
    else ((zm_is q3.2.1 r0 10).bind fun _ => (zm_fw s57 r0 20 0 (.int ((s57.1 r0 20) + 0))).bind fun s66 =>
     (zm_is q3.2.1 r0 10).bind fun _ =>
     zm_opt (s66.2.2 r0 18) (fun q67 =>
     if q3.1 = 0 then ((zm_is q3.2.1 r0 10).bind fun _ =>
      (zm_sI q3.2.1 s66 q67 i1 (s66.1 r0 20)).bind fun s68 =>
      if ¬ q3.1 = 0 then (some (.inl (98, [(0, .ref r0), (1, .int (i1 + 1))], [], q3.2.1, s68, 0, 0)))
      else ((zm_is q3.2.1 r0 10).bind fun _ =>
       zm_opt (s68.2.2 r0 19) (fun q69 =>
       (zm_is q3.2.1 r0 10).bind fun _ =>
       (zm_sI q3.2.1 s68 q69 (s68.1 r0 20) i1).bind fun s70 =>
       some (.inl (98, [(0, .ref r0), (1, .int (i1 + 1))], [], q3.2.1, s70, 0, 0))) ((zm_is q3.2.1 r0 10).bind fun _ =>
       none)))
     else ((zm_sI q3.2.1 s66 q67 i1 0).bind fun s71 =>
      if ¬ q3.1 = 0 then (some (.inl (98, [(0, .ref r0), (1, .int (i1 + 1))], [], q3.2.1, s71, 0, 0)))
      else ((zm_is q3.2.1 r0 10).bind fun _ =>
       zm_opt (s71.2.2 r0 19) (fun q72 =>
       (zm_is q3.2.1 r0 10).bind fun _ =>
       (zm_sI q3.2.1 s71 q72 (s71.1 r0 20) i1).bind fun s73 =>
       some (.inl (98, [(0, .ref r0), (1, .int (i1 + 1))], [], q3.2.1, s73, 0, 0))) ((zm_is q3.2.1 r0 10).bind fun _ =>
       none)))) (if q3.1 = 0 then ((zm_is q3.2.1 r0 10).bind fun _ =>
      none)
     else (none))))) (if q3.1 = 0 then (if ¬ (i1 / (σ.1 r0 5)) = v2 then ((zm_is q3.2.1 r0 10).bind fun _ => (zm_ai (zM 210 [.ref r0, .int (i1 / (σ.1 r0 5)), .int v2] q3.2.1 q3.2.2)).bind fun q74 =>
     if q74.1 = 0 then (none)
     else (none))
    else (none))
   else (none))))) ((zm_is lay r0 10).bind fun _ =>
   if (σ.1 r0 5) = 0 then none
   else (none))))
set_option maxRecDepth 100000 in
theorem zr_202_98 (lay : zm_Lay) (σ : zm_Sig) (r0 : Nat) (i1 : Int32) : zm_blk zM zp_202 none 0 0 zc_202 145 (zp_202.drop 60) (98, [(0, .ref r0), (1, .int i1)], [], lay, σ, 0, 0) = zb_202_98 lay σ r0 i1 := rfl
theorem zg_202_98 {lay : zm_Lay} {σ : zm_Sig} {r0 : Nat} {i1 : Int32} {out : zm_Out} {r : zm_St ⊕ zm_Out} (h : zb_202_98 lay σ r0 i1 = some r) (hg : match r with | .inl x => zm_go zp_P 202 x out | .inr o => o = out) : zm_go zp_P 202 (98, [(0, .ref r0), (1, .int i1)], [], lay, σ, 0, 0) out :=
  zm_blk_go (M := zd_202) rfl zs_202 145 (zp_202.drop 60) _ r (fun _ h => List.mem_of_mem_drop h) ((zr_202_98 lay σ r0 i1).trans h) hg
/-! SubgroupWriterModel.goesDeep()V -/
theorem zs_203 : zm_srt zp_203 = true := by decide +kernel
noncomputable def zb_203_0 (lay : zm_Lay) (σ : zm_Sig) (r0 : Nat) : Option (zm_St ⊕ zm_Out) :=
  some (.inl (2, [(0, .ref r0), (1, .int 0)], [], lay, σ, 0, 0))
set_option maxRecDepth 100000 in
theorem zr_203_0 (lay : zm_Lay) (σ : zm_Sig) (r0 : Nat) : zm_blk zM zp_203 none 0 0 zc_203 61 (zp_203.drop 0) (0, [(0, .ref r0)], [], lay, σ, 0, 0) = zb_203_0 lay σ r0 := rfl
theorem ze_203 {lay : zm_Lay} {σ : zm_Sig} {r0 : Nat} {out : zm_Out} {r : zm_St ⊕ zm_Out} (h : zb_203_0 lay σ r0 = some r) (hg : match r with | .inl x => zm_go zp_P 203 x out | .inr o => o = out) : zM 203 [.ref r0] lay σ = some out :=
  zm_mean_go (M := zd_203) rfl (Nat.le_of_ble_eq_true rfl) (zm_blk_go (M := zd_203) rfl zs_203 61 (zp_203.drop 0) _ r (fun _ h => List.mem_of_mem_drop h) ((zr_203_0 lay σ r0).trans h) hg)
noncomputable def zb_203_2 (lay : zm_Lay) (σ : zm_Sig) (r0 : Nat) (i1 : Int32) : Option (zm_St ⊕ zm_Out) :=
  (zm_is lay r0 10).bind fun _ =>
  (zm_is lay r0 10).bind fun _ =>
  if (σ.1 r0 4) ≤ (σ.1 r0 16) then (some (.inr (none, lay, σ)))
  else ((zm_is lay r0 10).bind fun _ =>
   some (.inl (24, [(0, .ref r0), (1, .int i1), (2, .int 0), (3, .int ((((nI 2) : Int32) * (σ.1 r0 5)) - 1))], [], lay, σ, 0, 0)))
set_option maxRecDepth 100000 in
theorem zr_203_2 (lay : zm_Lay) (σ : zm_Sig) (r0 : Nat) (i1 : Int32) : zm_blk zM zp_203 none 0 0 zc_203 61 (zp_203.drop 2) (2, [(0, .ref r0), (1, .int i1)], [], lay, σ, 0, 0) = zb_203_2 lay σ r0 i1 := rfl
theorem zg_203_2 {lay : zm_Lay} {σ : zm_Sig} {r0 : Nat} {i1 : Int32} {out : zm_Out} {r : zm_St ⊕ zm_Out} (h : zb_203_2 lay σ r0 i1 = some r) (hg : match r with | .inl x => zm_go zp_P 203 x out | .inr o => o = out) : zm_go zp_P 203 (2, [(0, .ref r0), (1, .int i1)], [], lay, σ, 0, 0) out :=
  zm_blk_go (M := zd_203) rfl zs_203 61 (zp_203.drop 2) _ r (fun _ h => List.mem_of_mem_drop h) ((zr_203_2 lay σ r0 i1).trans h) hg
noncomputable def zb_203_24 (lay : zm_Lay) (σ : zm_Sig) (r0 : Nat) (i1 : Int32) (i2 : Int32) (i3 : Int32) : Option (zm_St ⊕ zm_Out) :=
  if i3 < 0 then (if ¬ i2 = 0 then ((zm_is lay r0 10).bind fun _ => (zm_ai (zM 205 [.ref r0, .int i1, .int i2] lay σ)).bind fun q1 =>
    (zm_is q1.2.1 r0 10).bind fun _ => (zm_av (zM 207 [.ref r0, .int q1.1, .int i1, .int i2] q1.2.1 q1.2.2)).bind fun q2 =>
    (zm_is q2.1 r0 10).bind fun _ => (zm_ai (zM 205 [.ref r0, .int i1, .int i2] q2.1 q2.2)).bind fun q3 =>
    some (.inl (2, [(0, .ref r0), (1, .int q3.1)], [], q3.2.1, q3.2.2, 0, 0)))
   else ((zm_is lay r0 10).bind fun _ =>
    zm_opt (σ.2.2 r0 11) (fun q4 =>
    (zm_gI lay σ q4 i1).bind fun v5 =>
    some (.inl (2, [(0, .ref r0), (1, .int v5)], [], lay, σ, 0, 0))) (none)))
  else ((zm_is lay r0 10).bind fun _ => (zm_ai (zM 204 [.ref r0, .int i3, .int 0] lay σ)).bind fun q6 =>
   (zm_is q6.2.1 r0 10).bind fun _ => (zm_ai (zM 205 [.ref r0, .int i1, .int q6.1] q6.2.1 q6.2.2)).bind fun q7 =>
   (zm_is q7.2.1 r0 10).bind fun _ => (zm_ai (zM 206 [.ref r0, .int q7.1] q7.2.1 q7.2.2)).bind fun q8 =>
   if q8.1 = 0 then ((zm_is q8.2.1 r0 10).bind fun _ => (zm_ai (zM 204 [.ref r0, .int i3, .int 0] q8.2.1 q8.2.2)).bind fun q9 =>
    some (.inl (24, [(0, .ref r0), (1, .int i1), (2, .int q9.1), (3, .int (i3 + (-1)))], [], q9.2.1, q9.2.2, 0, 0)))
   else (some (.inl (24, [(0, .ref r0), (1, .int i1), (2, .int i2), (3, .int (i3 + (-1)))], [], q8.2.1, q8.2.2, 0, 0))))
set_option maxRecDepth 100000 in
theorem zr_203_24 (lay : zm_Lay) (σ : zm_Sig) (r0 : Nat) (i1 : Int32) (i2 : Int32) (i3 : Int32) : zm_blk zM zp_203 none 0 0 zc_203 61 (zp_203.drop 16) (24, [(0, .ref r0), (1, .int i1), (2, .int i2), (3, .int i3)], [], lay, σ, 0, 0) = zb_203_24 lay σ r0 i1 i2 i3 := rfl
theorem zg_203_24 {lay : zm_Lay} {σ : zm_Sig} {r0 : Nat} {i1 : Int32} {i2 : Int32} {i3 : Int32} {out : zm_Out} {r : zm_St ⊕ zm_Out} (h : zb_203_24 lay σ r0 i1 i2 i3 = some r) (hg : match r with | .inl x => zm_go zp_P 203 x out | .inr o => o = out) : zm_go zp_P 203 (24, [(0, .ref r0), (1, .int i1), (2, .int i2), (3, .int i3)], [], lay, σ, 0, 0) out :=
  zm_blk_go (M := zd_203) rfl zs_203 61 (zp_203.drop 16) _ r (fun _ h => List.mem_of_mem_drop h) ((zr_203_24 lay σ r0 i1 i2 i3).trans h) hg
/-! SubgroupWriterModel.tried(IZ)I -/
theorem zs_204 : zm_srt zp_204 = true := by decide +kernel
noncomputable def zb_204_0 (lay : zm_Lay) (σ : zm_Sig) (r0 : Nat) (i1 : Int32) (i2 : Int32) : Option (zm_St ⊕ zm_Out) :=
  if i2 = 0 then (if ¬ (i1 - i1 / (nI 2) * (nI 2)) = 0 then (some (.inr (some (.int (-((i1 / (nI 2)) + 1))), lay, σ)))
   else (some (.inr (some (.int ((i1 / (nI 2)) + 1)), lay, σ))))
  else ((zm_is lay r0 10).bind fun _ =>
   if ¬ ((((((nI 2) : Int32) * (σ.1 r0 5)) - 1) - i1) - (((((nI 2) : Int32) * (σ.1 r0 5)) - 1) - i1) / (nI 2) * (nI 2)) = 0 then (some (.inr (some (.int (-(((((((nI 2) : Int32) * (σ.1 r0 5)) - 1) - i1) / (nI 2)) + 1))), lay, σ)))
   else (some (.inr (some (.int (((((((nI 2) : Int32) * (σ.1 r0 5)) - 1) - i1) / (nI 2)) + 1)), lay, σ))))
set_option maxRecDepth 100000 in
theorem zr_204_0 (lay : zm_Lay) (σ : zm_Sig) (r0 : Nat) (i1 : Int32) (i2 : Int32) : zm_blk zM zp_204 (some .int) 0 0 zc_204 31 (zp_204.drop 0) (0, [(0, .ref r0), (1, .int i1), (2, .int i2)], [], lay, σ, 0, 0) = zb_204_0 lay σ r0 i1 i2 := rfl
theorem ze_204 {lay : zm_Lay} {σ : zm_Sig} {r0 : Nat} {i1 : Int32} {i2 : Int32} {out : zm_Out} {r : zm_St ⊕ zm_Out} (h : zb_204_0 lay σ r0 i1 i2 = some r) (hg : match r with | .inl x => zm_go zp_P 204 x out | .inr o => o = out) : zM 204 [.ref r0, .int i1, .int i2] lay σ = some out :=
  zm_mean_go (M := zd_204) rfl (Nat.le_of_ble_eq_true rfl) (zm_blk_go (M := zd_204) rfl zs_204 31 (zp_204.drop 0) _ r (fun _ h => List.mem_of_mem_drop h) ((zr_204_0 lay σ r0 i1 i2).trans h) hg)
/-! SubgroupWriterModel.goesBy(II)I -/
theorem zs_205 : zm_srt zp_205 = true := by decide +kernel
noncomputable def zb_205_0 (lay : zm_Lay) (σ : zm_Sig) (r0 : Nat) (i1 : Int32) (i2 : Int32) : Option (zm_St ⊕ zm_Out) :=
  if i2 ≤ 0 then ((zm_is lay r0 10).bind fun _ =>
   zm_opt (σ.2.2 r0 8) (fun q1 =>
   (zm_gI lay σ q1 ((((nI 5) : Int32) * ((-i2) - 1)) + i1)).bind fun v2 =>
   some (.inr (some (.int v2), lay, σ))) (none))
  else ((zm_is lay r0 10).bind fun _ =>
   zm_opt (σ.2.2 r0 7) (fun q3 =>
   (zm_gI lay σ q3 ((((nI 5) : Int32) * (i2 - 1)) + i1)).bind fun v4 =>
   some (.inr (some (.int v4), lay, σ))) (none))
set_option maxRecDepth 100000 in
theorem zr_205_0 (lay : zm_Lay) (σ : zm_Sig) (r0 : Nat) (i1 : Int32) (i2 : Int32) : zm_blk zM zp_205 (some .int) 0 0 zc_205 26 (zp_205.drop 0) (0, [(0, .ref r0), (1, .int i1), (2, .int i2)], [], lay, σ, 0, 0) = zb_205_0 lay σ r0 i1 i2 := rfl
theorem ze_205 {lay : zm_Lay} {σ : zm_Sig} {r0 : Nat} {i1 : Int32} {i2 : Int32} {out : zm_Out} {r : zm_St ⊕ zm_Out} (h : zb_205_0 lay σ r0 i1 i2 = some r) (hg : match r with | .inl x => zm_go zp_P 205 x out | .inr o => o = out) : zM 205 [.ref r0, .int i1, .int i2] lay σ = some out :=
  zm_mean_go (M := zd_205) rfl (Nat.le_of_ble_eq_true rfl) (zm_blk_go (M := zd_205) rfl zs_205 26 (zp_205.drop 0) _ r (fun _ h => List.mem_of_mem_drop h) ((zr_205_0 lay σ r0 i1 i2).trans h) hg)
/-! SubgroupWriterModel.isMet(I)Z -/
theorem zs_206 : zm_srt zp_206 = true := by decide +kernel
noncomputable def zb_206_0 (lay : zm_Lay) (σ : zm_Sig) (r0 : Nat) (i1 : Int32) : Option (zm_St ⊕ zm_Out) :=
  if i1 = 0 then (some (.inr (some (.int 1), lay, σ)))
  else ((zm_is lay r0 10).bind fun _ =>
   zm_opt (σ.2.2 r0 13) (fun q1 =>
   (zm_gI lay σ q1 i1).bind fun v2 =>
   if v2 ≤ 0 then (some (.inr (some (.int 0), lay, σ)))
   else (some (.inr (some (.int 1), lay, σ)))) (none))
set_option maxRecDepth 100000 in
theorem zr_206_0 (lay : zm_Lay) (σ : zm_Sig) (r0 : Nat) (i1 : Int32) : zm_blk zM zp_206 (some .boolean) 0 0 zc_206 12 (zp_206.drop 0) (0, [(0, .ref r0), (1, .int i1)], [], lay, σ, 0, 0) = zb_206_0 lay σ r0 i1 := rfl
theorem ze_206 {lay : zm_Lay} {σ : zm_Sig} {r0 : Nat} {i1 : Int32} {out : zm_Out} {r : zm_St ⊕ zm_Out} (h : zb_206_0 lay σ r0 i1 = some r) (hg : match r with | .inl x => zm_go zp_P 206 x out | .inr o => o = out) : zM 206 [.ref r0, .int i1] lay σ = some out :=
  zm_mean_go (M := zd_206) rfl (Nat.le_of_ble_eq_true rfl) (zm_blk_go (M := zd_206) rfl zs_206 12 (zp_206.drop 0) _ r (fun _ h => List.mem_of_mem_drop h) ((zr_206_0 lay σ r0 i1).trans h) hg)
/-! SubgroupWriterModel.reaches(III)V -/
theorem zs_207 : zm_srt zp_207 = true := by decide +kernel
noncomputable def zb_207_0 (lay : zm_Lay) (σ : zm_Sig) (r0 : Nat) (i1 : Int32) (i2 : Int32) (i3 : Int32) : Option (zm_St ⊕ zm_Out) :=
  (zm_is lay r0 10).bind fun _ =>
  zm_opt (σ.2.2 r0 11) (fun q1 =>
  (zm_sI lay σ q1 i1 i2).bind fun s2 =>
  (zm_is lay r0 10).bind fun _ =>
  zm_opt (s2.2.2 r0 12) (fun q3 =>
  (zm_sI lay s2 q3 i1 i3).bind fun s4 =>
  (zm_is lay r0 10).bind fun _ =>
  zm_opt (s4.2.2 r0 13) (fun q5 =>
  (zm_is lay r0 10).bind fun _ =>
  zm_opt (s4.2.2 r0 13) (fun q6 =>
  (zm_gI lay s4 q6 i2).bind fun v7 =>
  (zm_sI lay s4 q5 i1 (v7 + 1)).bind fun s8 =>
  (zm_is lay r0 10).bind fun _ =>
  zm_opt (s8.2.2 r0 14) (fun q9 =>
  (zm_is lay r0 10).bind fun _ =>
  (zm_sI lay s8 q9 i1 (s8.1 r0 16)).bind fun s10 =>
  (zm_is lay r0 10).bind fun _ =>
  zm_opt (s10.2.2 r0 15) (fun q11 =>
  (zm_is lay r0 10).bind fun _ =>
  (zm_sI lay s10 q11 (s10.1 r0 16) i1).bind fun s12 =>
  (zm_is lay r0 10).bind fun _ =>
  (zm_is lay r0 10).bind fun _ => (zm_fw s12 r0 16 0 (.int ((s12.1 r0 16) + 1))).bind fun s13 =>
  some (.inr (none, lay, s13))) ((zm_is lay r0 10).bind fun _ =>
  none)) ((zm_is lay r0 10).bind fun _ =>
  none)) (none)) ((zm_is lay r0 10).bind fun _ =>
  zm_opt (s4.2.2 r0 13) (fun q14 =>
  (zm_gI lay s4 q14 i2).bind fun v15 =>
  none) (none))) (none)) (none)
set_option maxRecDepth 100000 in
theorem zr_207_0 (lay : zm_Lay) (σ : zm_Sig) (r0 : Nat) (i1 : Int32) (i2 : Int32) (i3 : Int32) : zm_blk zM zp_207 none 0 0 zc_207 40 (zp_207.drop 0) (0, [(0, .ref r0), (1, .int i1), (2, .int i2), (3, .int i3)], [], lay, σ, 0, 0) = zb_207_0 lay σ r0 i1 i2 i3 := rfl
theorem ze_207 {lay : zm_Lay} {σ : zm_Sig} {r0 : Nat} {i1 : Int32} {i2 : Int32} {i3 : Int32} {out : zm_Out} {r : zm_St ⊕ zm_Out} (h : zb_207_0 lay σ r0 i1 i2 i3 = some r) (hg : match r with | .inl x => zm_go zp_P 207 x out | .inr o => o = out) : zM 207 [.ref r0, .int i1, .int i2, .int i3] lay σ = some out :=
  zm_mean_go (M := zd_207) rfl (Nat.le_of_ble_eq_true rfl) (zm_blk_go (M := zd_207) rfl zs_207 40 (zp_207.drop 0) _ r (fun _ h => List.mem_of_mem_drop h) ((zr_207_0 lay σ r0 i1 i2 i3).trans h) hg)
/-! SubgroupWriterModel.goesBroad(Z)V -/
theorem zs_208 : zm_srt zp_208 = true := by decide +kernel
noncomputable def zb_208_0 (lay : zm_Lay) (σ : zm_Sig) (r0 : Nat) (i1 : Int32) : Option (zm_St ⊕ zm_Out) :=
  some (.inl (2, [(0, .ref r0), (1, .int i1), (2, .int 0)], [], lay, σ, 0, 0))
set_option maxRecDepth 100000 in
theorem zr_208_0 (lay : zm_Lay) (σ : zm_Sig) (r0 : Nat) (i1 : Int32) : zm_blk zM zp_208 none 0 0 zc_208 45 (zp_208.drop 0) (0, [(0, .ref r0), (1, .int i1)], [], lay, σ, 0, 0) = zb_208_0 lay σ r0 i1 := rfl
theorem ze_208 {lay : zm_Lay} {σ : zm_Sig} {r0 : Nat} {i1 : Int32} {out : zm_Out} {r : zm_St ⊕ zm_Out} (h : zb_208_0 lay σ r0 i1 = some r) (hg : match r with | .inl x => zm_go zp_P 208 x out | .inr o => o = out) : zM 208 [.ref r0, .int i1] lay σ = some out :=
  zm_mean_go (M := zd_208) rfl (Nat.le_of_ble_eq_true rfl) (zm_blk_go (M := zd_208) rfl zs_208 45 (zp_208.drop 0) _ r (fun _ h => List.mem_of_mem_drop h) ((zr_208_0 lay σ r0 i1).trans h) hg)
noncomputable def zb_208_2 (lay : zm_Lay) (σ : zm_Sig) (r0 : Nat) (i1 : Int32) (i2 : Int32) : Option (zm_St ⊕ zm_Out) :=
  (zm_is lay r0 10).bind fun _ =>
  if (σ.1 r0 16) ≤ i2 then (some (.inr (none, lay, σ)))
  else ((zm_is lay r0 10).bind fun _ =>
   zm_opt (σ.2.2 r0 15) (fun q1 =>
   (zm_gI lay σ q1 i2).bind fun v2 =>
   some (.inl (20, [(0, .ref r0), (1, .int i1), (2, .int i2), (3, .int v2), (4, .int 0)], [], lay, σ, 0, 0))) (none))
set_option maxRecDepth 100000 in
theorem zr_208_2 (lay : zm_Lay) (σ : zm_Sig) (r0 : Nat) (i1 : Int32) (i2 : Int32) : zm_blk zM zp_208 none 0 0 zc_208 45 (zp_208.drop 2) (2, [(0, .ref r0), (1, .int i1), (2, .int i2)], [], lay, σ, 0, 0) = zb_208_2 lay σ r0 i1 i2 := rfl
theorem zg_208_2 {lay : zm_Lay} {σ : zm_Sig} {r0 : Nat} {i1 : Int32} {i2 : Int32} {out : zm_Out} {r : zm_St ⊕ zm_Out} (h : zb_208_2 lay σ r0 i1 i2 = some r) (hg : match r with | .inl x => zm_go zp_P 208 x out | .inr o => o = out) : zm_go zp_P 208 (2, [(0, .ref r0), (1, .int i1), (2, .int i2)], [], lay, σ, 0, 0) out :=
  zm_blk_go (M := zd_208) rfl zs_208 45 (zp_208.drop 2) _ r (fun _ h => List.mem_of_mem_drop h) ((zr_208_2 lay σ r0 i1 i2).trans h) hg
noncomputable def zb_208_20 (lay : zm_Lay) (σ : zm_Sig) (r0 : Nat) (i1 : Int32) (i2 : Int32) (i3 : Int32) (i4 : Int32) : Option (zm_St ⊕ zm_Out) :=
  (zm_is lay r0 10).bind fun _ =>
  if (((nI 2) : Int32) * (σ.1 r0 5)) ≤ i4 then (some (.inl (2, [(0, .ref r0), (1, .int i1), (2, .int (i2 + 1))], [], lay, σ, 0, 0)))
  else ((zm_is lay r0 10).bind fun _ => (zm_ai (zM 204 [.ref r0, .int i4, .int i1] lay σ)).bind fun q1 =>
   (zm_is q1.2.1 r0 10).bind fun _ => (zm_ai (zM 205 [.ref r0, .int i3, .int q1.1] q1.2.1 q1.2.2)).bind fun q2 =>
   (zm_is q2.2.1 r0 10).bind fun _ => (zm_ai (zM 206 [.ref r0, .int q2.1] q2.2.1 q2.2.2)).bind fun q3 =>
   if ¬ q3.1 = 0 then (some (.inl (20, [(0, .ref r0), (1, .int i1), (2, .int i2), (3, .int i3), (4, .int (i4 + 1))], [], q3.2.1, q3.2.2, 0, 0)))
   else ((zm_is q3.2.1 r0 10).bind fun _ => (zm_ai (zM 205 [.ref r0, .int i3, .int q1.1] q3.2.1 q3.2.2)).bind fun q4 =>
    (zm_is q4.2.1 r0 10).bind fun _ => (zm_av (zM 207 [.ref r0, .int q4.1, .int i3, .int q1.1] q4.2.1 q4.2.2)).bind fun q5 =>
    some (.inl (20, [(0, .ref r0), (1, .int i1), (2, .int i2), (3, .int i3), (4, .int (i4 + 1))], [], q5.1, q5.2, 0, 0))))
set_option maxRecDepth 100000 in
theorem zr_208_20 (lay : zm_Lay) (σ : zm_Sig) (r0 : Nat) (i1 : Int32) (i2 : Int32) (i3 : Int32) (i4 : Int32) : zm_blk zM zp_208 none 0 0 zc_208 45 (zp_208.drop 13) (20, [(0, .ref r0), (1, .int i1), (2, .int i2), (3, .int i3), (4, .int i4)], [], lay, σ, 0, 0) = zb_208_20 lay σ r0 i1 i2 i3 i4 := rfl
theorem zg_208_20 {lay : zm_Lay} {σ : zm_Sig} {r0 : Nat} {i1 : Int32} {i2 : Int32} {i3 : Int32} {i4 : Int32} {out : zm_Out} {r : zm_St ⊕ zm_Out} (h : zb_208_20 lay σ r0 i1 i2 i3 i4 = some r) (hg : match r with | .inl x => zm_go zp_P 208 x out | .inr o => o = out) : zm_go zp_P 208 (20, [(0, .ref r0), (1, .int i1), (2, .int i2), (3, .int i3), (4, .int i4)], [], lay, σ, 0, 0) out :=
  zm_blk_go (M := zd_208) rfl zs_208 45 (zp_208.drop 13) _ r (fun _ h => List.mem_of_mem_drop h) ((zr_208_20 lay σ r0 i1 i2 i3 i4).trans h) hg
/-! SubgroupWriterModel.isBranch(II)Z -/
theorem zs_209 : zm_srt zp_209 = true := by decide +kernel
noncomputable def zb_209_0 (lay : zm_Lay) (σ : zm_Sig) (r0 : Nat) (i1 : Int32) (i2 : Int32) : Option (zm_St ⊕ zm_Out) :=
  (zm_is lay r0 10).bind fun _ =>
  zm_opt (σ.2.2 r0 7) (fun q1 =>
  (zm_gI lay σ q1 ((((nI 5) : Int32) * i2) + i1)).bind fun v2 =>
  if v2 = 0 then (if i1 = 0 then (some (.inr (some (.int 0), lay, σ)))
   else ((zm_is lay r0 10).bind fun _ =>
    zm_opt (σ.2.2 r0 11) (fun q3 =>
    (zm_gI lay σ q3 i1).bind fun v4 =>
    if ¬ v4 = v2 then (some (.inr (some (.int 0), lay, σ)))
    else ((zm_is lay r0 10).bind fun _ =>
     zm_opt (σ.2.2 r0 12) (fun q5 =>
     (zm_gI lay σ q5 i1).bind fun v6 =>
     if ¬ v6 = ((-i2) - 1) then (some (.inr (some (.int 0), lay, σ)))
     else (some (.inr (some (.int 1), lay, σ)))) (none))) (none)))
  else ((zm_is lay r0 10).bind fun _ =>
   zm_opt (σ.2.2 r0 11) (fun q7 =>
   (zm_gI lay σ q7 v2).bind fun v8 =>
   if ¬ v8 = i1 then (if i1 = 0 then (some (.inr (some (.int 0), lay, σ)))
    else ((zm_is lay r0 10).bind fun _ =>
     zm_opt (σ.2.2 r0 11) (fun q9 =>
     (zm_gI lay σ q9 i1).bind fun v10 =>
     if ¬ v10 = v2 then (some (.inr (some (.int 0), lay, σ)))
     else ((zm_is lay r0 10).bind fun _ =>
      zm_opt (σ.2.2 r0 12) (fun q11 =>
      (zm_gI lay σ q11 i1).bind fun v12 =>
      if ¬ v12 = ((-i2) - 1) then (some (.inr (some (.int 0), lay, σ)))
      else (some (.inr (some (.int 1), lay, σ)))) (none))) (none)))
   else ((zm_is lay r0 10).bind fun _ =>
    zm_opt (σ.2.2 r0 12) (fun q13 =>
    (zm_gI lay σ q13 v2).bind fun v14 =>
    if v14 = (i2 + 1) then (some (.inr (some (.int 1), lay, σ)))
    else (if i1 = 0 then (some (.inr (some (.int 0), lay, σ)))
     else ((zm_is lay r0 10).bind fun _ =>
      zm_opt (σ.2.2 r0 11) (fun q15 =>
      (zm_gI lay σ q15 i1).bind fun v16 =>
      if ¬ v16 = v2 then (some (.inr (some (.int 0), lay, σ)))
      else ((zm_is lay r0 10).bind fun _ =>
       zm_opt (σ.2.2 r0 12) (fun q17 =>
       (zm_gI lay σ q17 i1).bind fun v18 =>
       if ¬ v18 = ((-i2) - 1) then (some (.inr (some (.int 0), lay, σ)))
       else (some (.inr (some (.int 1), lay, σ)))) (none))) (none)))) (none))) (none))) (none)
set_option maxRecDepth 100000 in
theorem zr_209_0 (lay : zm_Lay) (σ : zm_Sig) (r0 : Nat) (i1 : Int32) (i2 : Int32) : zm_blk zM zp_209 (some .boolean) 0 0 zc_209 47 (zp_209.drop 0) (0, [(0, .ref r0), (1, .int i1), (2, .int i2)], [], lay, σ, 0, 0) = zb_209_0 lay σ r0 i1 i2 := rfl
theorem ze_209 {lay : zm_Lay} {σ : zm_Sig} {r0 : Nat} {i1 : Int32} {i2 : Int32} {out : zm_Out} {r : zm_St ⊕ zm_Out} (h : zb_209_0 lay σ r0 i1 i2 = some r) (hg : match r with | .inl x => zm_go zp_P 209 x out | .inr o => o = out) : zM 209 [.ref r0, .int i1, .int i2] lay σ = some out :=
  zm_mean_go (M := zd_209) rfl (Nat.le_of_ble_eq_true rfl) (zm_blk_go (M := zd_209) rfl zs_209 47 (zp_209.drop 0) _ r (fun _ h => List.mem_of_mem_drop h) ((zr_209_0 lay σ r0 i1 i2).trans h) hg)
/-! SubgroupWriterModel.isTwin(II)Z -/
theorem zs_210 : zm_srt zp_210 = true := by decide +kernel
noncomputable def zb_210_0 (lay : zm_Lay) (σ : zm_Sig) (r0 : Nat) (i1 : Int32) (i2 : Int32) : Option (zm_St ⊕ zm_Out) :=
  if i1 = 0 then (if i2 = 0 then (some (.inr (some (.int 0), lay, σ)))
   else ((zm_is lay r0 10).bind fun _ =>
    zm_opt (σ.2.2 r0 11) (fun q1 =>
    (zm_gI lay σ q1 i2).bind fun v2 =>
    if ¬ v2 = i1 then (some (.inr (some (.int 0), lay, σ)))
    else (some (.inr (some (.int 1), lay, σ)))) (none)))
  else ((zm_is lay r0 10).bind fun _ =>
   zm_opt (σ.2.2 r0 11) (fun q3 =>
   (zm_gI lay σ q3 i1).bind fun v4 =>
   if v4 = i2 then (some (.inr (some (.int 1), lay, σ)))
   else (if i2 = 0 then (some (.inr (some (.int 0), lay, σ)))
    else ((zm_is lay r0 10).bind fun _ =>
     zm_opt (σ.2.2 r0 11) (fun q5 =>
     (zm_gI lay σ q5 i2).bind fun v6 =>
     if ¬ v6 = i1 then (some (.inr (some (.int 0), lay, σ)))
     else (some (.inr (some (.int 1), lay, σ)))) (none)))) (none))
set_option maxRecDepth 100000 in
theorem zr_210_0 (lay : zm_Lay) (σ : zm_Sig) (r0 : Nat) (i1 : Int32) (i2 : Int32) : zm_blk zM zp_210 (some .boolean) 0 0 zc_210 21 (zp_210.drop 0) (0, [(0, .ref r0), (1, .int i1), (2, .int i2)], [], lay, σ, 0, 0) = zb_210_0 lay σ r0 i1 i2 := rfl
theorem ze_210 {lay : zm_Lay} {σ : zm_Sig} {r0 : Nat} {i1 : Int32} {i2 : Int32} {out : zm_Out} {r : zm_St ⊕ zm_Out} (h : zb_210_0 lay σ r0 i1 i2 = some r) (hg : match r with | .inl x => zm_go zp_P 210 x out | .inr o => o = out) : zM 210 [.ref r0, .int i1, .int i2] lay σ = some out :=
  zm_mean_go (M := zd_210) rfl (Nat.le_of_ble_eq_true rfl) (zm_blk_go (M := zd_210) rfl zs_210 21 (zp_210.drop 0) _ r (fun _ h => List.mem_of_mem_drop h) ((zr_210_0 lay σ r0 i1 i2).trans h) hg)
/-! SubgroupWriterModel.laysRules()V -/
theorem zs_211 : zm_srt zp_211 = true := by decide +kernel
noncomputable def zb_211_0 (lay : zm_Lay) (σ : zm_Sig) (r0 : Nat) : Option (zm_St ⊕ zm_Out) :=
  (zm_is lay r0 10).bind fun _ =>
  zm_opt (σ.2.2 r0 21) (fun q1 =>
  (zm_sI lay σ q1 1 0).bind fun s2 =>
  (zm_is lay r0 10).bind fun _ =>
  zm_opt (s2.2.2 r0 21) (fun q3 =>
  (zm_is lay r0 10).bind fun _ =>
  (zm_sI lay s2 q3 (nI 2) (((1 : Int32) <<< ((s2.1 r0 20) &&& 31)) - 1)).bind fun s4 =>
  some (.inl (23, [(0, .ref r0), (1, .int 0)], [], lay, s4, 0, 0))) ((zm_is lay r0 10).bind fun _ =>
  none)) (none)
set_option maxRecDepth 100000 in
theorem zr_211_0 (lay : zm_Lay) (σ : zm_Sig) (r0 : Nat) : zm_blk zM zp_211 none 0 0 zc_211 85 (zp_211.drop 0) (0, [(0, .ref r0)], [], lay, σ, 0, 0) = zb_211_0 lay σ r0 := rfl
theorem ze_211 {lay : zm_Lay} {σ : zm_Sig} {r0 : Nat} {out : zm_Out} {r : zm_St ⊕ zm_Out} (h : zb_211_0 lay σ r0 = some r) (hg : match r with | .inl x => zm_go zp_P 211 x out | .inr o => o = out) : zM 211 [.ref r0] lay σ = some out :=
  zm_mean_go (M := zd_211) rfl (Nat.le_of_ble_eq_true rfl) (zm_blk_go (M := zd_211) rfl zs_211 85 (zp_211.drop 0) _ r (fun _ h => List.mem_of_mem_drop h) ((zr_211_0 lay σ r0).trans h) hg)
noncomputable def zb_211_23 (lay : zm_Lay) (σ : zm_Sig) (r0 : Nat) (i1 : Int32) : Option (zm_St ⊕ zm_Out) :=
  (zm_is lay r0 10).bind fun _ =>
  if (σ.1 r0 4) ≤ i1 then (some (.inr (none, lay, σ)))
  else (some (.inl (33, [(0, .ref r0), (1, .int i1), (2, .int 0)], [], lay, σ, 0, 0)))
set_option maxRecDepth 100000 in
theorem zr_211_23 (lay : zm_Lay) (σ : zm_Sig) (r0 : Nat) (i1 : Int32) : zm_blk zM zp_211 none 0 0 zc_211 85 (zp_211.drop 17) (23, [(0, .ref r0), (1, .int i1)], [], lay, σ, 0, 0) = zb_211_23 lay σ r0 i1 := rfl
theorem zg_211_23 {lay : zm_Lay} {σ : zm_Sig} {r0 : Nat} {i1 : Int32} {out : zm_Out} {r : zm_St ⊕ zm_Out} (h : zb_211_23 lay σ r0 i1 = some r) (hg : match r with | .inl x => zm_go zp_P 211 x out | .inr o => o = out) : zm_go zp_P 211 (23, [(0, .ref r0), (1, .int i1)], [], lay, σ, 0, 0) out :=
  zm_blk_go (M := zd_211) rfl zs_211 85 (zp_211.drop 17) _ r (fun _ h => List.mem_of_mem_drop h) ((zr_211_23 lay σ r0 i1).trans h) hg
noncomputable def zb_211_33 (lay : zm_Lay) (σ : zm_Sig) (r0 : Nat) (i1 : Int32) (i2 : Int32) : Option (zm_St ⊕ zm_Out) :=
  (zm_is lay r0 10).bind fun _ =>
  if (σ.1 r0 6) ≤ i2 then (some (.inl (23, [(0, .ref r0), (1, .int (i1 + 1))], [], lay, σ, 0, 0)))
  else ((zm_is lay r0 10).bind fun _ => (zm_fw σ r0 40 0 (.int 0)).bind fun s1 =>
   some (.inl (51, [(0, .ref r0), (1, .int i1), (2, .int i2), (3, .int i1), (4, .int 0)], [], lay, s1, 0, 0)))
set_option maxRecDepth 100000 in
theorem zr_211_33 (lay : zm_Lay) (σ : zm_Sig) (r0 : Nat) (i1 : Int32) (i2 : Int32) : zm_blk zM zp_211 none 0 0 zc_211 85 (zp_211.drop 23) (33, [(0, .ref r0), (1, .int i1), (2, .int i2)], [], lay, σ, 0, 0) = zb_211_33 lay σ r0 i1 i2 := rfl
theorem zg_211_33 {lay : zm_Lay} {σ : zm_Sig} {r0 : Nat} {i1 : Int32} {i2 : Int32} {out : zm_Out} {r : zm_St ⊕ zm_Out} (h : zb_211_33 lay σ r0 i1 i2 = some r) (hg : match r with | .inl x => zm_go zp_P 211 x out | .inr o => o = out) : zm_go zp_P 211 (33, [(0, .ref r0), (1, .int i1), (2, .int i2)], [], lay, σ, 0, 0) out :=
  zm_blk_go (M := zd_211) rfl zs_211 85 (zp_211.drop 23) _ r (fun _ h => List.mem_of_mem_drop h) ((zr_211_33 lay σ r0 i1 i2).trans h) hg
noncomputable def zb_211_51 (lay : zm_Lay) (σ : zm_Sig) (r0 : Nat) (i1 : Int32) (i2 : Int32) (i3 : Int32) (i4 : Int32) : Option (zm_St ⊕ zm_Out) :=
  (zm_is lay r0 10).bind fun _ =>
  zm_opt (σ.2.2 r0 9) (fun q1 =>
  (zm_gI lay σ q1 i2).bind fun v2 =>
  if v2 ≤ i4 then ((zm_is lay r0 10).bind fun _ =>
   zm_opt (σ.2.2 r0 21) (fun q3 =>
   (zm_gI lay σ q3 1).bind fun v4 =>
   (zm_is lay r0 10).bind fun _ => (zm_av (zM 214 [.ref r0, .int v4] lay σ)).bind fun q5 =>
   (zm_is q5.1 r0 10).bind fun _ =>
   zm_opt (q5.2.2.2 r0 21) (fun q6 =>
   (zm_gI q5.1 q5.2 q6 1).bind fun v7 =>
   (zm_sI q5.1 q5.2 q6 1 (v7 + 1)).bind fun s8 =>
   some (.inl (33, [(0, .ref r0), (1, .int i1), (2, .int (i2 + 1))], [], q5.1, s8, 0, 0))) (none)) (none))
  else ((zm_is lay r0 10).bind fun _ =>
   zm_opt (σ.2.2 r0 10) (fun q9 =>
   (zm_gI lay σ q9 ((((nI 8) : Int32) * i2) + i4)).bind fun v10 =>
   (zm_is lay r0 10).bind fun _ => (zm_av (zM 212 [.ref r0, .int i3, .int v10] lay σ)).bind fun q11 =>
   (zm_is q11.1 r0 10).bind fun _ =>
   zm_opt (q11.2.2.2 r0 10) (fun q12 =>
   (zm_gI q11.1 q11.2 q12 ((((nI 8) : Int32) * i2) + i4)).bind fun v13 =>
   (zm_is q11.1 r0 10).bind fun _ => (zm_ai (zM 205 [.ref r0, .int i3, .int v13] q11.1 q11.2)).bind fun q14 =>
   some (.inl (51, [(0, .ref r0), (1, .int i1), (2, .int i2), (3, .int q14.1), (4, .int (i4 + 1))], [], q14.2.1, q14.2.2, 0, 0))) (none)) (none))) (none)
set_option maxRecDepth 100000 in
theorem zr_211_51 (lay : zm_Lay) (σ : zm_Sig) (r0 : Nat) (i1 : Int32) (i2 : Int32) (i3 : Int32) (i4 : Int32) : zm_blk zM zp_211 none 0 0 zc_211 85 (zp_211.drop 34) (51, [(0, .ref r0), (1, .int i1), (2, .int i2), (3, .int i3), (4, .int i4)], [], lay, σ, 0, 0) = zb_211_51 lay σ r0 i1 i2 i3 i4 := rfl
theorem zg_211_51 {lay : zm_Lay} {σ : zm_Sig} {r0 : Nat} {i1 : Int32} {i2 : Int32} {i3 : Int32} {i4 : Int32} {out : zm_Out} {r : zm_St ⊕ zm_Out} (h : zb_211_51 lay σ r0 i1 i2 i3 i4 = some r) (hg : match r with | .inl x => zm_go zp_P 211 x out | .inr o => o = out) : zm_go zp_P 211 (51, [(0, .ref r0), (1, .int i1), (2, .int i2), (3, .int i3), (4, .int i4)], [], lay, σ, 0, 0) out :=
  zm_blk_go (M := zd_211) rfl zs_211 85 (zp_211.drop 34) _ r (fun _ h => List.mem_of_mem_drop h) ((zr_211_51 lay σ r0 i1 i2 i3 i4).trans h) hg
/-! SubgroupWriterModel.writes(II)V -/
theorem zs_212 : zm_srt zp_212 = true := by decide +kernel
noncomputable def zb_212_0 (lay : zm_Lay) (σ : zm_Sig) (r0 : Nat) (i1 : Int32) (i2 : Int32) : Option (zm_St ⊕ zm_Out) :=
  if i2 ≤ 0 then ((zm_is lay r0 10).bind fun _ => (zm_ai (zM 205 [.ref r0, .int i1, .int i2] lay σ)).bind fun q1 =>
   (zm_is q1.2.1 r0 10).bind fun _ =>
   zm_opt (q1.2.2.2.2 r0 18) (fun q2 =>
   (zm_is q1.2.1 r0 10).bind fun _ =>
   if i2 ≤ 0 then ((zm_gI q1.2.1 q1.2.2 q2 ((((q1.2.2.1 r0 5) * q1.1) + (-i2)) - 1)).bind fun v3 =>
    if v3 ≤ 0 then (some (.inr (none, q1.2.1, q1.2.2)))
    else (if i2 ≤ 0 then ((zm_is q1.2.1 r0 10).bind fun _ => (zm_av (zM 213 [.ref r0, .int (-v3)] q1.2.1 q1.2.2)).bind fun q4 =>
      some (.inr (none, q4.1, q4.2)))
     else ((zm_is q1.2.1 r0 10).bind fun _ => (zm_av (zM 213 [.ref r0, .int v3] q1.2.1 q1.2.2)).bind fun q5 =>
      some (.inr (none, q5.1, q5.2)))))
   else ((zm_gI q1.2.1 q1.2.2 q2 ((((q1.2.2.1 r0 5) * q1.1) + i2) - 1)).bind fun v6 =>
    if v6 ≤ 0 then (some (.inr (none, q1.2.1, q1.2.2)))
    else (if i2 ≤ 0 then ((zm_is q1.2.1 r0 10).bind fun _ => (zm_av (zM 213 [.ref r0, .int (-v6)] q1.2.1 q1.2.2)).bind fun q7 =>
      some (.inr (none, q7.1, q7.2)))
     else ((zm_is q1.2.1 r0 10).bind fun _ => (zm_av (zM 213 [.ref r0, .int v6] q1.2.1 q1.2.2)).bind fun q8 =>
      some (.inr (none, q8.1, q8.2)))))) ((zm_is q1.2.1 r0 10).bind fun _ =>
   if i2 ≤ 0 then (none)
   else (none)))
  else ((zm_is lay r0 10).bind fun _ =>
   zm_opt (σ.2.2 r0 18) (fun q9 =>
   (zm_is lay r0 10).bind fun _ =>
   if i2 ≤ 0 then ((zm_gI lay σ q9 ((((σ.1 r0 5) * i1) + (-i2)) - 1)).bind fun v10 =>
    if v10 ≤ 0 then (some (.inr (none, lay, σ)))
    else (if i2 ≤ 0 then ((zm_is lay r0 10).bind fun _ => (zm_av (zM 213 [.ref r0, .int (-v10)] lay σ)).bind fun q11 =>
      some (.inr (none, q11.1, q11.2)))
     else ((zm_is lay r0 10).bind fun _ => (zm_av (zM 213 [.ref r0, .int v10] lay σ)).bind fun q12 =>
      some (.inr (none, q12.1, q12.2)))))
   else ((zm_gI lay σ q9 ((((σ.1 r0 5) * i1) + i2) - 1)).bind fun v13 =>
    if v13 ≤ 0 then (some (.inr (none, lay, σ)))
    else (if i2 ≤ 0 then ((zm_is lay r0 10).bind fun _ => (zm_av (zM 213 [.ref r0, .int (-v13)] lay σ)).bind fun q14 =>
      some (.inr (none, q14.1, q14.2)))
     else ((zm_is lay r0 10).bind fun _ => (zm_av (zM 213 [.ref r0, .int v13] lay σ)).bind fun q15 =>
      some (.inr (none, q15.1, q15.2)))))) ((zm_is lay r0 10).bind fun _ =>
   if i2 ≤ 0 then (none)
   else (none)))
set_option maxRecDepth 100000 in
theorem zr_212_0 (lay : zm_Lay) (σ : zm_Sig) (r0 : Nat) (i1 : Int32) (i2 : Int32) : zm_blk zM zp_212 none 0 0 zc_212 38 (zp_212.drop 0) (0, [(0, .ref r0), (1, .int i1), (2, .int i2)], [], lay, σ, 0, 0) = zb_212_0 lay σ r0 i1 i2 := rfl
theorem ze_212 {lay : zm_Lay} {σ : zm_Sig} {r0 : Nat} {i1 : Int32} {i2 : Int32} {out : zm_Out} {r : zm_St ⊕ zm_Out} (h : zb_212_0 lay σ r0 i1 i2 = some r) (hg : match r with | .inl x => zm_go zp_P 212 x out | .inr o => o = out) : zM 212 [.ref r0, .int i1, .int i2] lay σ = some out :=
  zm_mean_go (M := zd_212) rfl (Nat.le_of_ble_eq_true rfl) (zm_blk_go (M := zd_212) rfl zs_212 38 (zp_212.drop 0) _ r (fun _ h => List.mem_of_mem_drop h) ((zr_212_0 lay σ r0 i1 i2).trans h) hg)
/-! SubgroupWriterModel.grows(I)V -/
theorem zs_213 : zm_srt zp_213 = true := by decide +kernel
noncomputable def zb_213_0 (lay : zm_Lay) (σ : zm_Sig) (r0 : Nat) (i1 : Int32) : Option (zm_St ⊕ zm_Out) :=
  (zm_is lay r0 10).bind fun _ =>
  if (σ.1 r0 40) ≤ 0 then ((zm_is lay r0 10).bind fun _ =>
   zm_opt (σ.2.2 r0 39) (fun q1 =>
   (zm_is lay r0 10).bind fun _ =>
   (zm_sI lay σ q1 (σ.1 r0 40) i1).bind fun s2 =>
   (zm_is lay r0 10).bind fun _ =>
   (zm_is lay r0 10).bind fun _ => (zm_fw s2 r0 40 0 (.int ((s2.1 r0 40) + 1))).bind fun s3 =>
   some (.inr (none, lay, s3))) ((zm_is lay r0 10).bind fun _ =>
   none))
  else ((zm_is lay r0 10).bind fun _ =>
   zm_opt (σ.2.2 r0 39) (fun q4 =>
   (zm_is lay r0 10).bind fun _ =>
   (zm_gI lay σ q4 ((σ.1 r0 40) - 1)).bind fun v5 =>
   if ¬ v5 = (-i1) then ((zm_is lay r0 10).bind fun _ =>
    zm_opt (σ.2.2 r0 39) (fun q6 =>
    (zm_is lay r0 10).bind fun _ =>
    (zm_sI lay σ q6 (σ.1 r0 40) i1).bind fun s7 =>
    (zm_is lay r0 10).bind fun _ =>
    (zm_is lay r0 10).bind fun _ => (zm_fw s7 r0 40 0 (.int ((s7.1 r0 40) + 1))).bind fun s8 =>
    some (.inr (none, lay, s8))) ((zm_is lay r0 10).bind fun _ =>
    none))
   else ((zm_is lay r0 10).bind fun _ =>
    (zm_is lay r0 10).bind fun _ => (zm_fw σ r0 40 0 (.int ((σ.1 r0 40) - 1))).bind fun s9 =>
    some (.inr (none, lay, s9)))) ((zm_is lay r0 10).bind fun _ =>
   none))
set_option maxRecDepth 100000 in
theorem zr_213_0 (lay : zm_Lay) (σ : zm_Sig) (r0 : Nat) (i1 : Int32) : zm_blk zM zp_213 none 0 0 zc_213 34 (zp_213.drop 0) (0, [(0, .ref r0), (1, .int i1)], [], lay, σ, 0, 0) = zb_213_0 lay σ r0 i1 := rfl
theorem ze_213 {lay : zm_Lay} {σ : zm_Sig} {r0 : Nat} {i1 : Int32} {out : zm_Out} {r : zm_St ⊕ zm_Out} (h : zb_213_0 lay σ r0 i1 = some r) (hg : match r with | .inl x => zm_go zp_P 213 x out | .inr o => o = out) : zM 213 [.ref r0, .int i1] lay σ = some out :=
  zm_mean_go (M := zd_213) rfl (Nat.le_of_ble_eq_true rfl) (zm_blk_go (M := zd_213) rfl zs_213 34 (zp_213.drop 0) _ r (fun _ h => List.mem_of_mem_drop h) ((zr_213_0 lay σ r0 i1).trans h) hg)
/-! SubgroupWriterModel.puts(I)V -/
theorem zs_214 : zm_srt zp_214 = true := by decide +kernel
noncomputable def zb_214_0 (lay : zm_Lay) (σ : zm_Sig) (r0 : Nat) (i1 : Int32) : Option (zm_St ⊕ zm_Out) :=
  (zm_is lay r0 10).bind fun _ =>
  zm_opt (σ.2.2 r0 21) (fun q1 =>
  (zm_is lay r0 10).bind fun _ =>
  (zm_sI lay σ q1 (((nI 3) : Int32) + i1) (σ.1 r0 40)).bind fun s2 =>
  (zm_is lay r0 10).bind fun _ =>
  zm_opt (s2.2.2 r0 39) (fun q3 =>
  (zm_is lay r0 10).bind fun _ =>
  zm_opt (s2.2.2 r0 21) (fun q4 =>
  (zm_is lay r0 10).bind fun _ =>
  (zm_av (zM 200 [.ref q3, .int 0, .ref q4, .int (((nI 18) : Int32) + (((nI 16) : Int32) * i1)), .int (s2.1 r0 40)] lay s2)).bind fun q5 =>
  some (.inr (none, q5.1, q5.2))) ((zm_is lay r0 10).bind fun _ =>
  (zm_av (zM 200 [.ref q3, .int 0, .null, .int (((nI 18) : Int32) + (((nI 16) : Int32) * i1)), .int (s2.1 r0 40)] lay s2)).bind fun q6 =>
  some (.inr (none, q6.1, q6.2)))) ((zm_is lay r0 10).bind fun _ =>
  zm_opt (s2.2.2 r0 21) (fun q7 =>
  (zm_is lay r0 10).bind fun _ =>
  (zm_av (zM 200 [.null, .int 0, .ref q7, .int (((nI 18) : Int32) + (((nI 16) : Int32) * i1)), .int (s2.1 r0 40)] lay s2)).bind fun q8 =>
  some (.inr (none, q8.1, q8.2))) ((zm_is lay r0 10).bind fun _ =>
  (zm_av (zM 200 [.null, .int 0, .null, .int (((nI 18) : Int32) + (((nI 16) : Int32) * i1)), .int (s2.1 r0 40)] lay s2)).bind fun q9 =>
  some (.inr (none, q9.1, q9.2))))) ((zm_is lay r0 10).bind fun _ =>
  none)
set_option maxRecDepth 100000 in
theorem zr_214_0 (lay : zm_Lay) (σ : zm_Sig) (r0 : Nat) (i1 : Int32) : zm_blk zM zp_214 none 0 0 zc_214 23 (zp_214.drop 0) (0, [(0, .ref r0), (1, .int i1)], [], lay, σ, 0, 0) = zb_214_0 lay σ r0 i1 := rfl
theorem ze_214 {lay : zm_Lay} {σ : zm_Sig} {r0 : Nat} {i1 : Int32} {out : zm_Out} {r : zm_St ⊕ zm_Out} (h : zb_214_0 lay σ r0 i1 = some r) (hg : match r with | .inl x => zm_go zp_P 214 x out | .inr o => o = out) : zM 214 [.ref r0, .int i1] lay σ = some out :=
  zm_mean_go (M := zd_214) rfl (Nat.le_of_ble_eq_true rfl) (zm_blk_go (M := zd_214) rfl zs_214 23 (zp_214.drop 0) _ r (fun _ h => List.mem_of_mem_drop h) ((zr_214_0 lay σ r0 i1).trans h) hg)
/-! SubgroupWriterModel.goes(II)I -/
theorem zs_215 : zm_srt zp_215 = true := by decide +kernel
noncomputable def zb_215_0 (lay : zm_Lay) (σ : zm_Sig) (r0 : Nat) (i1 : Int32) (i2 : Int32) : Option (zm_St ⊕ zm_Out) :=
  (zm_is lay r0 10).bind fun _ => (zm_ai (zM 216 [.ref r0, .int i1] lay σ)).bind fun q1 =>
  if q1.1 = 0 then (some (.inr (some (.int (-1)), q1.2.1, q1.2.2)))
  else ((zm_is q1.2.1 r0 10).bind fun _ => (zm_ai (zM 217 [.ref r0, .int i2] q1.2.1 q1.2.2)).bind fun q2 =>
   if q2.1 = 0 then (some (.inr (some (.int (-1)), q2.2.1, q2.2.2)))
   else ((zm_is q2.2.1 r0 10).bind fun _ => (zm_ai (zM 205 [.ref r0, .int i1, .int i2] q2.2.1 q2.2.2)).bind fun q3 =>
    some (.inr (some (.int q3.1), q3.2.1, q3.2.2))))
set_option maxRecDepth 100000 in
theorem zr_215_0 (lay : zm_Lay) (σ : zm_Sig) (r0 : Nat) (i1 : Int32) (i2 : Int32) : zm_blk zM zp_215 (some .int) 0 0 zc_215 16 (zp_215.drop 0) (0, [(0, .ref r0), (1, .int i1), (2, .int i2)], [], lay, σ, 0, 0) = zb_215_0 lay σ r0 i1 i2 := rfl
theorem ze_215 {lay : zm_Lay} {σ : zm_Sig} {r0 : Nat} {i1 : Int32} {i2 : Int32} {out : zm_Out} {r : zm_St ⊕ zm_Out} (h : zb_215_0 lay σ r0 i1 i2 = some r) (hg : match r with | .inl x => zm_go zp_P 215 x out | .inr o => o = out) : zM 215 [.ref r0, .int i1, .int i2] lay σ = some out :=
  zm_mean_go (M := zd_215) rfl (Nat.le_of_ble_eq_true rfl) (zm_blk_go (M := zd_215) rfl zs_215 16 (zp_215.drop 0) _ r (fun _ h => List.mem_of_mem_drop h) ((zr_215_0 lay σ r0 i1 i2).trans h) hg)
/-! SubgroupWriterModel.isPoint(I)Z -/
theorem zs_216 : zm_srt zp_216 = true := by decide +kernel
noncomputable def zb_216_0 (lay : zm_Lay) (σ : zm_Sig) (r0 : Nat) (i1 : Int32) : Option (zm_St ⊕ zm_Out) :=
  (zm_is lay r0 10).bind fun _ =>
  (zm_ai (zM 176 [.int i1, .int 0, .int ((σ.1 r0 4) - 1)] lay σ)).bind fun q1 =>
  if q1.1 = 0 ∨ q1.1 = 1 then some (.inr (some (.int q1.1), q1.2.1, q1.2.2)) else none
set_option maxRecDepth 100000 in
theorem zr_216_0 (lay : zm_Lay) (σ : zm_Sig) (r0 : Nat) (i1 : Int32) : zm_blk zM zp_216 (some .boolean) 0 0 zc_216 9 (zp_216.drop 0) (0, [(0, .ref r0), (1, .int i1)], [], lay, σ, 0, 0) = zb_216_0 lay σ r0 i1 := rfl
theorem ze_216 {lay : zm_Lay} {σ : zm_Sig} {r0 : Nat} {i1 : Int32} {out : zm_Out} {r : zm_St ⊕ zm_Out} (h : zb_216_0 lay σ r0 i1 = some r) (hg : match r with | .inl x => zm_go zp_P 216 x out | .inr o => o = out) : zM 216 [.ref r0, .int i1] lay σ = some out :=
  zm_mean_go (M := zd_216) rfl (Nat.le_of_ble_eq_true rfl) (zm_blk_go (M := zd_216) rfl zs_216 9 (zp_216.drop 0) _ r (fun _ h => List.mem_of_mem_drop h) ((zr_216_0 lay σ r0 i1).trans h) hg)
/-! SubgroupWriterModel.isLetter(I)Z -/
theorem zs_217 : zm_srt zp_217 = true := by decide +kernel
noncomputable def zb_217_0 (lay : zm_Lay) (σ : zm_Sig) (r0 : Nat) (i1 : Int32) : Option (zm_St ⊕ zm_Out) :=
  if i1 = 0 then (some (.inr (some (.int 0), lay, σ)))
  else ((zm_is lay r0 10).bind fun _ =>
   (zm_is lay r0 10).bind fun _ =>
   (zm_ai (zM 176 [.int i1, .int (-(σ.1 r0 5)), .int (σ.1 r0 5)] lay σ)).bind fun q1 =>
   if q1.1 = 0 then (some (.inr (some (.int 0), q1.2.1, q1.2.2)))
   else (some (.inr (some (.int 1), q1.2.1, q1.2.2))))
set_option maxRecDepth 100000 in
theorem zr_217_0 (lay : zm_Lay) (σ : zm_Sig) (r0 : Nat) (i1 : Int32) : zm_blk zM zp_217 (some .boolean) 0 0 zc_217 15 (zp_217.drop 0) (0, [(0, .ref r0), (1, .int i1)], [], lay, σ, 0, 0) = zb_217_0 lay σ r0 i1 := rfl
theorem ze_217 {lay : zm_Lay} {σ : zm_Sig} {r0 : Nat} {i1 : Int32} {out : zm_Out} {r : zm_St ⊕ zm_Out} (h : zb_217_0 lay σ r0 i1 = some r) (hg : match r with | .inl x => zm_go zp_P 217 x out | .inr o => o = out) : zM 217 [.ref r0, .int i1] lay σ = some out :=
  zm_mean_go (M := zd_217) rfl (Nat.le_of_ble_eq_true rfl) (zm_blk_go (M := zd_217) rfl zs_217 15 (zp_217.drop 0) _ r (fun _ h => List.mem_of_mem_drop h) ((zr_217_0 lay σ r0 i1).trans h) hg)
/-! SubgroupWriterModel.reached(II)I -/
theorem zs_218 : zm_srt zp_218 = true := by decide +kernel
noncomputable def zb_218_0 (lay : zm_Lay) (σ : zm_Sig) (r0 : Nat) (i1 : Int32) (i2 : Int32) : Option (zm_St ⊕ zm_Out) :=
  (zm_is lay r0 10).bind fun _ => (zm_ai (zM 216 [.ref r0, .int i1] lay σ)).bind fun q1 =>
  if q1.1 = 0 then (some (.inr (some (.int (-1)), q1.2.1, q1.2.2)))
  else ((zm_ai (zM 176 [.int i2, .int 0, .int (nI 3)] q1.2.1 q1.2.2)).bind fun q2 =>
   if q2.1 = 0 then (some (.inr (some (.int (-1)), q2.2.1, q2.2.2)))
   else ((zm_is q2.2.1 r0 10).bind fun _ => (zm_ai (zM 219 [.ref r0, .int i1, .int i2] q2.2.1 q2.2.2)).bind fun q3 =>
    (zm_is q3.2.1 r0 10).bind fun _ => (zm_ai (zM 181 [.ref r0, .int q3.1, .int 1] q3.2.1 q3.2.2)).bind fun q4 =>
    some (.inr (some (.int q4.1), q4.2.1, q4.2.2))))
set_option maxRecDepth 100000 in
theorem zr_218_0 (lay : zm_Lay) (σ : zm_Sig) (r0 : Nat) (i1 : Int32) (i2 : Int32) : zm_blk zM zp_218 (some .int) 0 0 zc_218 20 (zp_218.drop 0) (0, [(0, .ref r0), (1, .int i1), (2, .int i2)], [], lay, σ, 0, 0) = zb_218_0 lay σ r0 i1 i2 := rfl
theorem ze_218 {lay : zm_Lay} {σ : zm_Sig} {r0 : Nat} {i1 : Int32} {i2 : Int32} {out : zm_Out} {r : zm_St ⊕ zm_Out} (h : zb_218_0 lay σ r0 i1 i2 = some r) (hg : match r with | .inl x => zm_go zp_P 218 x out | .inr o => o = out) : zM 218 [.ref r0, .int i1, .int i2] lay σ = some out :=
  zm_mean_go (M := zd_218) rfl (Nat.le_of_ble_eq_true rfl) (zm_blk_go (M := zd_218) rfl zs_218 20 (zp_218.drop 0) _ r (fun _ h => List.mem_of_mem_drop h) ((zr_218_0 lay σ r0 i1 i2).trans h) hg)
/-! SubgroupWriterModel.reachedOf(II)I -/
theorem zs_219 : zm_srt zp_219 = true := by decide +kernel
noncomputable def zb_219_0 (lay : zm_Lay) (σ : zm_Sig) (r0 : Nat) (i1 : Int32) (i2 : Int32) : Option (zm_St ⊕ zm_Out) :=
  if ¬ i2 = 0 then (if ¬ i2 = 1 then (if ¬ i2 = (nI 2) then ((zm_is lay r0 10).bind fun _ =>
     zm_opt (σ.2.2 r0 14) (fun q1 =>
     (zm_gI lay σ q1 i1).bind fun v2 =>
     some (.inr (some (.int v2), lay, σ))) (none))
    else ((zm_is lay r0 10).bind fun _ =>
     zm_opt (σ.2.2 r0 13) (fun q3 =>
     (zm_gI lay σ q3 i1).bind fun v4 =>
     some (.inr (some (.int v4), lay, σ))) (none)))
   else ((zm_is lay r0 10).bind fun _ =>
    zm_opt (σ.2.2 r0 12) (fun q5 =>
    (zm_gI lay σ q5 i1).bind fun v6 =>
    some (.inr (some (.int v6), lay, σ))) (none)))
  else ((zm_is lay r0 10).bind fun _ =>
   zm_opt (σ.2.2 r0 11) (fun q7 =>
   (zm_gI lay σ q7 i1).bind fun v8 =>
   some (.inr (some (.int v8), lay, σ))) (none))
set_option maxRecDepth 100000 in
theorem zr_219_0 (lay : zm_Lay) (σ : zm_Sig) (r0 : Nat) (i1 : Int32) (i2 : Int32) : zm_blk zM zp_219 (some .int) 0 0 zc_219 29 (zp_219.drop 0) (0, [(0, .ref r0), (1, .int i1), (2, .int i2)], [], lay, σ, 0, 0) = zb_219_0 lay σ r0 i1 i2 := rfl
theorem ze_219 {lay : zm_Lay} {σ : zm_Sig} {r0 : Nat} {i1 : Int32} {i2 : Int32} {out : zm_Out} {r : zm_St ⊕ zm_Out} (h : zb_219_0 lay σ r0 i1 i2 = some r) (hg : match r with | .inl x => zm_go zp_P 219 x out | .inr o => o = out) : zM 219 [.ref r0, .int i1, .int i2] lay σ = some out :=
  zm_mean_go (M := zd_219) rfl (Nat.le_of_ble_eq_true rfl) (zm_blk_go (M := zd_219) rfl zs_219 29 (zp_219.drop 0) _ r (fun _ h => List.mem_of_mem_drop h) ((zr_219_0 lay σ r0 i1 i2).trans h) hg)
/-! SubgroupWriterModel.way(II)I -/
theorem zs_220 : zm_srt zp_220 = true := by decide +kernel
noncomputable def zb_220_0 (lay : zm_Lay) (σ : zm_Sig) (r0 : Nat) (i1 : Int32) (i2 : Int32) : Option (zm_St ⊕ zm_Out) :=
  (zm_is lay r0 10).bind fun _ => (zm_ai (zM 216 [.ref r0, .int i1] lay σ)).bind fun q1 =>
  if q1.1 = 0 then (some (.inr (some (.int (-1)), q1.2.1, q1.2.2)))
  else ((zm_ai (zM 175 [.int i2] q1.2.1 q1.2.2)).bind fun q2 =>
   if ¬ q2.1 = 0 then ((zm_is q2.2.1 r0 10).bind fun _ =>
    zm_opt (q2.2.2.2.2 r0 13) (fun q3 =>
    (zm_gI q2.2.1 q2.2.2 q3 i1).bind fun v4 =>
    (zm_is q2.2.1 r0 10).bind fun _ => (zm_av (zM 178 [.ref r0, .int i2, .int v4] q2.2.1 q2.2.2)).bind fun q5 =>
    (zm_is q5.1 r0 10).bind fun _ =>
    zm_opt (q5.2.2.2 r0 13) (fun q6 =>
    (zm_gI q5.1 q5.2 q6 i1).bind fun v7 =>
    some (.inl (40, [(0, .ref r0), (1, .int i1), (2, .int i2), (3, .int i1), (4, .int (v7 - 1))], [], q5.1, q5.2, 0, 0))) (none)) (none))
   else (some (.inr (some (.int (-1)), q2.2.1, q2.2.2))))
set_option maxRecDepth 100000 in
theorem zr_220_0 (lay : zm_Lay) (σ : zm_Sig) (r0 : Nat) (i1 : Int32) (i2 : Int32) : zm_blk zM zp_220 (some .int) 0 0 zc_220 52 (zp_220.drop 0) (0, [(0, .ref r0), (1, .int i1), (2, .int i2)], [], lay, σ, 0, 0) = zb_220_0 lay σ r0 i1 i2 := rfl
theorem ze_220 {lay : zm_Lay} {σ : zm_Sig} {r0 : Nat} {i1 : Int32} {i2 : Int32} {out : zm_Out} {r : zm_St ⊕ zm_Out} (h : zb_220_0 lay σ r0 i1 i2 = some r) (hg : match r with | .inl x => zm_go zp_P 220 x out | .inr o => o = out) : zM 220 [.ref r0, .int i1, .int i2] lay σ = some out :=
  zm_mean_go (M := zd_220) rfl (Nat.le_of_ble_eq_true rfl) (zm_blk_go (M := zd_220) rfl zs_220 52 (zp_220.drop 0) _ r (fun _ h => List.mem_of_mem_drop h) ((zr_220_0 lay σ r0 i1 i2).trans h) hg)
noncomputable def zb_220_40 (lay : zm_Lay) (σ : zm_Sig) (r0 : Nat) (i1 : Int32) (i2 : Int32) (i3 : Int32) (i4 : Int32) : Option (zm_St ⊕ zm_Out) :=
  if i4 < 0 then ((zm_is lay r0 10).bind fun _ =>
   zm_opt (σ.2.2 r0 13) (fun q1 =>
   (zm_gI lay σ q1 i1).bind fun v2 =>
   some (.inr (some (.int v2), lay, σ))) (none))
  else ((zm_is lay r0 10).bind fun _ =>
   zm_opt (σ.2.2 r0 1) (fun q3 =>
   (zm_is lay r0 10).bind fun _ =>
   zm_opt (σ.2.2 r0 12) (fun q4 =>
   (zm_gI lay σ q4 i3).bind fun v5 =>
   (zm_sI lay σ q3 ((((nI 40) : Int32) * i2) + i4) v5).bind fun s6 =>
   (zm_is lay r0 10).bind fun _ =>
   zm_opt (s6.2.2 r0 11) (fun q7 =>
   (zm_gI lay s6 q7 i3).bind fun v8 =>
   some (.inl (40, [(0, .ref r0), (1, .int i1), (2, .int i2), (3, .int v8), (4, .int (i4 + (-1)))], [], lay, s6, 0, 0))) (none)) (none)) ((zm_is lay r0 10).bind fun _ =>
   zm_opt (σ.2.2 r0 12) (fun q9 =>
   (zm_gI lay σ q9 i3).bind fun v10 =>
   none) (none)))
set_option maxRecDepth 100000 in
theorem zr_220_40 (lay : zm_Lay) (σ : zm_Sig) (r0 : Nat) (i1 : Int32) (i2 : Int32) (i3 : Int32) (i4 : Int32) : zm_blk zM zp_220 (some .int) 0 0 zc_220 52 (zp_220.drop 25) (40, [(0, .ref r0), (1, .int i1), (2, .int i2), (3, .int i3), (4, .int i4)], [], lay, σ, 0, 0) = zb_220_40 lay σ r0 i1 i2 i3 i4 := rfl
theorem zg_220_40 {lay : zm_Lay} {σ : zm_Sig} {r0 : Nat} {i1 : Int32} {i2 : Int32} {i3 : Int32} {i4 : Int32} {out : zm_Out} {r : zm_St ⊕ zm_Out} (h : zb_220_40 lay σ r0 i1 i2 i3 i4 = some r) (hg : match r with | .inl x => zm_go zp_P 220 x out | .inr o => o = out) : zm_go zp_P 220 (40, [(0, .ref r0), (1, .int i1), (2, .int i2), (3, .int i3), (4, .int i4)], [], lay, σ, 0, 0) out :=
  zm_blk_go (M := zd_220) rfl zs_220 52 (zp_220.drop 25) _ r (fun _ h => List.mem_of_mem_drop h) ((zr_220_40 lay σ r0 i1 i2 i3 i4).trans h) hg
/-! SubgroupWriterModel.edge(II)I -/
theorem zs_221 : zm_srt zp_221 = true := by decide +kernel
noncomputable def zb_221_0 (lay : zm_Lay) (σ : zm_Sig) (r0 : Nat) (i1 : Int32) (i2 : Int32) : Option (zm_St ⊕ zm_Out) :=
  (zm_is lay r0 10).bind fun _ => (zm_ai (zM 222 [.ref r0, .int i1] lay σ)).bind fun q1 =>
  if q1.1 = 0 then (some (.inr (some (.int (-1)), q1.2.1, q1.2.2)))
  else ((zm_ai (zM 176 [.int i2, .int 0, .int (nI 4)] q1.2.1 q1.2.2)).bind fun q2 =>
   if q2.1 = 0 then (some (.inr (some (.int (-1)), q2.2.1, q2.2.2)))
   else ((zm_is q2.2.1 r0 10).bind fun _ => (zm_ai (zM 223 [.ref r0, .int i1, .int i2] q2.2.1 q2.2.2)).bind fun q3 =>
    (zm_is q3.2.1 r0 10).bind fun _ => (zm_ai (zM 181 [.ref r0, .int q3.1, .int 1] q3.2.1 q3.2.2)).bind fun q4 =>
    some (.inr (some (.int q4.1), q4.2.1, q4.2.2))))
set_option maxRecDepth 100000 in
theorem zr_221_0 (lay : zm_Lay) (σ : zm_Sig) (r0 : Nat) (i1 : Int32) (i2 : Int32) : zm_blk zM zp_221 (some .int) 0 0 zc_221 20 (zp_221.drop 0) (0, [(0, .ref r0), (1, .int i1), (2, .int i2)], [], lay, σ, 0, 0) = zb_221_0 lay σ r0 i1 i2 := rfl
theorem ze_221 {lay : zm_Lay} {σ : zm_Sig} {r0 : Nat} {i1 : Int32} {i2 : Int32} {out : zm_Out} {r : zm_St ⊕ zm_Out} (h : zb_221_0 lay σ r0 i1 i2 = some r) (hg : match r with | .inl x => zm_go zp_P 221 x out | .inr o => o = out) : zM 221 [.ref r0, .int i1, .int i2] lay σ = some out :=
  zm_mean_go (M := zd_221) rfl (Nat.le_of_ble_eq_true rfl) (zm_blk_go (M := zd_221) rfl zs_221 20 (zp_221.drop 0) _ r (fun _ h => List.mem_of_mem_drop h) ((zr_221_0 lay σ r0 i1 i2).trans h) hg)
/-! SubgroupWriterModel.isEdge(I)Z -/
theorem zs_222 : zm_srt zp_222 = true := by decide +kernel
noncomputable def zb_222_0 (lay : zm_Lay) (σ : zm_Sig) (r0 : Nat) (i1 : Int32) : Option (zm_St ⊕ zm_Out) :=
  (zm_is lay r0 10).bind fun _ =>
  (zm_is lay r0 10).bind fun _ =>
  (zm_ai (zM 176 [.int i1, .int 0, .int (((σ.1 r0 4) * (σ.1 r0 5)) - 1)] lay σ)).bind fun q1 =>
  if q1.1 = 0 ∨ q1.1 = 1 then some (.inr (some (.int q1.1), q1.2.1, q1.2.2)) else none
set_option maxRecDepth 100000 in
theorem zr_222_0 (lay : zm_Lay) (σ : zm_Sig) (r0 : Nat) (i1 : Int32) : zm_blk zM zp_222 (some .boolean) 0 0 zc_222 12 (zp_222.drop 0) (0, [(0, .ref r0), (1, .int i1)], [], lay, σ, 0, 0) = zb_222_0 lay σ r0 i1 := rfl
theorem ze_222 {lay : zm_Lay} {σ : zm_Sig} {r0 : Nat} {i1 : Int32} {out : zm_Out} {r : zm_St ⊕ zm_Out} (h : zb_222_0 lay σ r0 i1 = some r) (hg : match r with | .inl x => zm_go zp_P 222 x out | .inr o => o = out) : zM 222 [.ref r0, .int i1] lay σ = some out :=
  zm_mean_go (M := zd_222) rfl (Nat.le_of_ble_eq_true rfl) (zm_blk_go (M := zd_222) rfl zs_222 12 (zp_222.drop 0) _ r (fun _ h => List.mem_of_mem_drop h) ((zr_222_0 lay σ r0 i1).trans h) hg)
/-! SubgroupWriterModel.edgeTold(II)I -/
theorem zs_223 : zm_srt zp_223 = true := by decide +kernel
noncomputable def zb_223_0 (lay : zm_Lay) (σ : zm_Sig) (r0 : Nat) (i1 : Int32) (i2 : Int32) : Option (zm_St ⊕ zm_Out) :=
  if i2 = 0 then ((zm_is lay r0 10).bind fun _ =>
   zm_opt (σ.2.2 r0 17) (fun q1 =>
   (zm_gI lay σ q1 i1).bind fun v2 =>
   some (.inr (some (.int v2), lay, σ))) (none))
  else if i2 = 1 then ((zm_is lay r0 10).bind fun _ =>
   if (σ.1 r0 5) = 0 then none
   else (some (.inr (some (.int (i1 / (σ.1 r0 5))), lay, σ))))
  else if i2 = (nI 2) then ((zm_is lay r0 10).bind fun _ => (zm_ai (zM 224 [.ref r0, .int i1] lay σ)).bind fun q3 =>
   some (.inr (some (.int q3.1), q3.2.1, q3.2.2)))
  else if i2 = (nI 3) then ((zm_is lay r0 10).bind fun _ =>
   zm_opt (σ.2.2 r0 18) (fun q4 =>
   (zm_gI lay σ q4 i1).bind fun v5 =>
   some (.inr (some (.int v5), lay, σ))) (none))
  else ((zm_is lay r0 10).bind fun _ =>
   zm_opt (σ.2.2 r0 18) (fun q6 =>
   (zm_gI lay σ q6 i1).bind fun v7 =>
   if v7 ≤ 0 then (some (.inr (some (.int 0), lay, σ)))
   else ((zm_is lay r0 10).bind fun _ =>
    zm_opt (σ.2.2 r0 21) (fun q8 =>
    (zm_gI lay σ q8 (nI 2)).bind fun v9 =>
    (zm_is lay r0 10).bind fun _ =>
    zm_opt (σ.2.2 r0 18) (fun q10 =>
    (zm_gI lay σ q10 i1).bind fun v11 =>
    (zm_ai (zM 194 [.int v9, .int (v11 - 1)] lay σ)).bind fun q12 =>
    if q12.1 = 0 then (some (.inr (some (.int 0), q12.2.1, q12.2.2)))
    else (some (.inr (some (.int 1), q12.2.1, q12.2.2)))) (none)) (none))) (none))
set_option maxRecDepth 100000 in
theorem zr_223_0 (lay : zm_Lay) (σ : zm_Sig) (r0 : Nat) (i1 : Int32) (i2 : Int32) : zm_blk zM zp_223 (some .int) 0 0 zc_223 43 (zp_223.drop 0) (0, [(0, .ref r0), (1, .int i1), (2, .int i2)], [], lay, σ, 0, 0) = zb_223_0 lay σ r0 i1 i2 := rfl
theorem ze_223 {lay : zm_Lay} {σ : zm_Sig} {r0 : Nat} {i1 : Int32} {i2 : Int32} {out : zm_Out} {r : zm_St ⊕ zm_Out} (h : zb_223_0 lay σ r0 i1 i2 = some r) (hg : match r with | .inl x => zm_go zp_P 223 x out | .inr o => o = out) : zM 223 [.ref r0, .int i1, .int i2] lay σ = some out :=
  zm_mean_go (M := zd_223) rfl (Nat.le_of_ble_eq_true rfl) (zm_blk_go (M := zd_223) rfl zs_223 43 (zp_223.drop 0) _ r (fun _ h => List.mem_of_mem_drop h) ((zr_223_0 lay σ r0 i1 i2).trans h) hg)
/-! SubgroupWriterModel.endOf(I)I -/
theorem zs_224 : zm_srt zp_224 = true := by decide +kernel
noncomputable def zb_224_0 (lay : zm_Lay) (σ : zm_Sig) (r0 : Nat) (i1 : Int32) : Option (zm_St ⊕ zm_Out) :=
  (zm_is lay r0 10).bind fun _ =>
  zm_opt (σ.2.2 r0 7) (fun q1 =>
  (zm_is lay r0 10).bind fun _ =>
  if (σ.1 r0 5) = 0 then none
  else ((zm_is lay r0 10).bind fun _ =>
  if (σ.1 r0 5) = 0 then none
  else ((zm_gI lay σ q1 ((((nI 5) : Int32) * (i1 - i1 / (σ.1 r0 5) * (σ.1 r0 5))) + (i1 / (σ.1 r0 5)))).bind fun v2 =>
  some (.inr (some (.int v2), lay, σ))))) ((zm_is lay r0 10).bind fun _ =>
  if (σ.1 r0 5) = 0 then none
  else ((zm_is lay r0 10).bind fun _ =>
  if (σ.1 r0 5) = 0 then none
  else (none)))
set_option maxRecDepth 100000 in
theorem zr_224_0 (lay : zm_Lay) (σ : zm_Sig) (r0 : Nat) (i1 : Int32) : zm_blk zM zp_224 (some .int) 0 0 zc_224 16 (zp_224.drop 0) (0, [(0, .ref r0), (1, .int i1)], [], lay, σ, 0, 0) = zb_224_0 lay σ r0 i1 := rfl
theorem ze_224 {lay : zm_Lay} {σ : zm_Sig} {r0 : Nat} {i1 : Int32} {out : zm_Out} {r : zm_St ⊕ zm_Out} (h : zb_224_0 lay σ r0 i1 = some r) (hg : match r with | .inl x => zm_go zp_P 224 x out | .inr o => o = out) : zM 224 [.ref r0, .int i1] lay σ = some out :=
  zm_mean_go (M := zd_224) rfl (Nat.le_of_ble_eq_true rfl) (zm_blk_go (M := zd_224) rfl zs_224 16 (zp_224.drop 0) _ r (fun _ h => List.mem_of_mem_drop h) ((zr_224_0 lay σ r0 i1).trans h) hg)
/-! SubgroupWriterModel.mark(II)I -/
theorem zs_225 : zm_srt zp_225 = true := by decide +kernel
noncomputable def zb_225_0 (lay : zm_Lay) (σ : zm_Sig) (r0 : Nat) (i1 : Int32) (i2 : Int32) : Option (zm_St ⊕ zm_Out) :=
  (zm_is lay r0 10).bind fun _ => (zm_ai (zM 222 [.ref r0, .int i1] lay σ)).bind fun q1 =>
  if q1.1 = 0 then (some (.inr (some (.int (-1)), q1.2.1, q1.2.2)))
  else ((zm_ai (zM 176 [.int i2, .int 1, .int (nI 4)] q1.2.1 q1.2.2)).bind fun q2 =>
   if ¬ q2.1 = 0 then ((zm_is q2.2.1 r0 10).bind fun _ =>
    zm_opt (q2.2.2.2.2 r0 17) (fun q3 =>
    (zm_gI q2.2.1 q2.2.2 q3 i1).bind fun v4 =>
    (zm_ai (zM 226 [.int v4, .int i2] q2.2.1 q2.2.2)).bind fun q5 =>
    if ¬ q5.1 = 0 then ((zm_is q5.2.1 r0 10).bind fun _ =>
     if (q5.2.2.1 r0 5) = 0 then none
     else ((zm_is q5.2.1 r0 10).bind fun _ => (zm_ai (zM 224 [.ref r0, .int i1] q5.2.1 q5.2.2)).bind fun q6 =>
     if i2 = 1 then ((zm_is q6.2.1 r0 10).bind fun _ =>
      zm_opt (q6.2.2.2.2 r0 14) (fun q7 =>
      (zm_gI q6.2.1 q6.2.2 q7 (i1 / (q5.2.2.1 r0 5))).bind fun v8 =>
      (zm_is q6.2.1 r0 10).bind fun _ =>
      zm_opt (q6.2.2.2.2 r0 14) (fun q9 =>
      (zm_gI q6.2.1 q6.2.2 q9 q6.1).bind fun v10 =>
      if v8 ≤ v10 then ((zm_is q6.2.1 r0 10).bind fun _ => (zm_ai (zM 181 [.ref r0, .int q6.1, .int 1] q6.2.1 q6.2.2)).bind fun q11 =>
       some (.inr (some (.int q11.1), q11.2.1, q11.2.2)))
      else ((zm_is q6.2.1 r0 10).bind fun _ => (zm_ai (zM 181 [.ref r0, .int (i1 / (q5.2.2.1 r0 5)), .int 1] q6.2.1 q6.2.2)).bind fun q12 =>
       some (.inr (some (.int q12.1), q12.2.1, q12.2.2)))) (none)) (none))
     else if i2 = (nI 2) then ((zm_is q6.2.1 r0 10).bind fun _ =>
      zm_opt (q6.2.2.2.2 r0 13) (fun q13 =>
      (zm_gI q6.2.1 q6.2.2 q13 (i1 / (q5.2.2.1 r0 5))).bind fun v14 =>
      (zm_is q6.2.1 r0 10).bind fun _ =>
      zm_opt (q6.2.2.2.2 r0 13) (fun q15 =>
      (zm_gI q6.2.1 q6.2.2 q15 q6.1).bind fun v16 =>
      (zm_is q6.2.1 r0 10).bind fun _ => (zm_ai (zM 181 [.ref r0, .int ((v14 + v16) + 1), .int 1] q6.2.1 q6.2.2)).bind fun q17 =>
      some (.inr (some (.int q17.1), q17.2.1, q17.2.2))) (none)) (none))
     else if i2 = (nI 3) then ((zm_is q6.2.1 r0 10).bind fun _ => (zm_ai (zM 227 [.ref r0, .int (i1 / (q5.2.2.1 r0 5))] q6.2.1 q6.2.2)).bind fun q18 =>
      (zm_is q18.2.1 r0 10).bind fun _ => (zm_ai (zM 181 [.ref r0, .int q18.1, .int 1] q18.2.1 q18.2.2)).bind fun q19 =>
      some (.inr (some (.int q19.1), q19.2.1, q19.2.2)))
     else ((zm_is q6.2.1 r0 10).bind fun _ => (zm_ai (zM 228 [.ref r0, .int i1] q6.2.1 q6.2.2)).bind fun q20 =>
      (zm_is q20.2.1 r0 10).bind fun _ => (zm_ai (zM 181 [.ref r0, .int q20.1, .int 1] q20.2.1 q20.2.2)).bind fun q21 =>
      some (.inr (some (.int q21.1), q21.2.1, q21.2.2)))))
    else ((zm_is q5.2.1 r0 10).bind fun _ => (zm_ai (zM 177 [.ref r0, .int (nI 3)] q5.2.1 q5.2.2)).bind fun q22 =>
     some (.inr (some (.int q22.1), q22.2.1, q22.2.2)))) (none))
   else (some (.inr (some (.int (-1)), q2.2.1, q2.2.2))))
set_option maxRecDepth 100000 in
theorem zr_225_0 (lay : zm_Lay) (σ : zm_Sig) (r0 : Nat) (i1 : Int32) (i2 : Int32) : zm_blk zM zp_225 (some .int) 0 0 zc_225 79 (zp_225.drop 0) (0, [(0, .ref r0), (1, .int i1), (2, .int i2)], [], lay, σ, 0, 0) = zb_225_0 lay σ r0 i1 i2 := rfl
theorem ze_225 {lay : zm_Lay} {σ : zm_Sig} {r0 : Nat} {i1 : Int32} {i2 : Int32} {out : zm_Out} {r : zm_St ⊕ zm_Out} (h : zb_225_0 lay σ r0 i1 i2 = some r) (hg : match r with | .inl x => zm_go zp_P 225 x out | .inr o => o = out) : zM 225 [.ref r0, .int i1, .int i2] lay σ = some out :=
  zm_mean_go (M := zd_225) rfl (Nat.le_of_ble_eq_true rfl) (zm_blk_go (M := zd_225) rfl zs_225 79 (zp_225.drop 0) _ r (fun _ h => List.mem_of_mem_drop h) ((zr_225_0 lay σ r0 i1 i2).trans h) hg)
/-! SubgroupWriterModel.isA(II)Z -/
theorem zs_226 : zm_srt zp_226 = true := by decide +kernel
noncomputable def zb_226_0 (lay : zm_Lay) (σ : zm_Sig) (i0 : Int32) (i1 : Int32) : Option (zm_St ⊕ zm_Out) :=
  if i0 = i1 then (some (.inr (some (.int 1), lay, σ)))
  else (if ¬ i1 = (nI 2) then (some (.inr (some (.int 0), lay, σ)))
   else (if i0 ≤ (nI 2) then (some (.inr (some (.int 0), lay, σ)))
    else (some (.inr (some (.int 1), lay, σ)))))
set_option maxRecDepth 100000 in
theorem zr_226_0 (lay : zm_Lay) (σ : zm_Sig) (i0 : Int32) (i1 : Int32) : zm_blk zM zp_226 (some .boolean) 0 0 zc_226 14 (zp_226.drop 0) (0, [(0, .int i0), (1, .int i1)], [], lay, σ, 0, 0) = zb_226_0 lay σ i0 i1 := rfl
theorem ze_226 {lay : zm_Lay} {σ : zm_Sig} {i0 : Int32} {i1 : Int32} {out : zm_Out} {r : zm_St ⊕ zm_Out} (h : zb_226_0 lay σ i0 i1 = some r) (hg : match r with | .inl x => zm_go zp_P 226 x out | .inr o => o = out) : zM 226 [.int i0, .int i1] lay σ = some out :=
  zm_mean_go (M := zd_226) rfl (Nat.le_of_ble_eq_true rfl) (zm_blk_go (M := zd_226) rfl zs_226 14 (zp_226.drop 0) _ r (fun _ h => List.mem_of_mem_drop h) ((zr_226_0 lay σ i0 i1).trans h) hg)
/-! SubgroupWriterModel.loopsAt(I)I -/
theorem zs_227 : zm_srt zp_227 = true := by decide +kernel
noncomputable def zb_227_0 (lay : zm_Lay) (σ : zm_Sig) (r0 : Nat) (i1 : Int32) : Option (zm_St ⊕ zm_Out) :=
  some (.inl (4, [(0, .ref r0), (1, .int i1), (2, .int 0), (3, .int 0)], [], lay, σ, 0, 0))
set_option maxRecDepth 100000 in
theorem zr_227_0 (lay : zm_Lay) (σ : zm_Sig) (r0 : Nat) (i1 : Int32) : zm_blk zM zp_227 (some .int) 0 0 zc_227 29 (zp_227.drop 0) (0, [(0, .ref r0), (1, .int i1)], [], lay, σ, 0, 0) = zb_227_0 lay σ r0 i1 := rfl
theorem ze_227 {lay : zm_Lay} {σ : zm_Sig} {r0 : Nat} {i1 : Int32} {out : zm_Out} {r : zm_St ⊕ zm_Out} (h : zb_227_0 lay σ r0 i1 = some r) (hg : match r with | .inl x => zm_go zp_P 227 x out | .inr o => o = out) : zM 227 [.ref r0, .int i1] lay σ = some out :=
  zm_mean_go (M := zd_227) rfl (Nat.le_of_ble_eq_true rfl) (zm_blk_go (M := zd_227) rfl zs_227 29 (zp_227.drop 0) _ r (fun _ h => List.mem_of_mem_drop h) ((zr_227_0 lay σ r0 i1).trans h) hg)
noncomputable def zb_227_4 (lay : zm_Lay) (σ : zm_Sig) (r0 : Nat) (i1 : Int32) (i2 : Int32) (i3 : Int32) : Option (zm_St ⊕ zm_Out) :=
  (zm_is lay r0 10).bind fun _ =>
  if (σ.1 r0 5) ≤ i3 then (some (.inr (some (.int i2), lay, σ)))
  else ((zm_is lay r0 10).bind fun _ =>
   zm_opt (σ.2.2 r0 7) (fun q1 =>
   (zm_gI lay σ q1 ((((nI 5) : Int32) * i3) + i1)).bind fun v2 =>
   if ¬ v2 = i1 then (some (.inl (4, [(0, .ref r0), (1, .int i1), (2, .int (i2 + 0)), (3, .int (i3 + 1))], [], lay, σ, 0, 0)))
   else (some (.inl (4, [(0, .ref r0), (1, .int i1), (2, .int (i2 + 1)), (3, .int (i3 + 1))], [], lay, σ, 0, 0)))) (none))
set_option maxRecDepth 100000 in
theorem zr_227_4 (lay : zm_Lay) (σ : zm_Sig) (r0 : Nat) (i1 : Int32) (i2 : Int32) (i3 : Int32) : zm_blk zM zp_227 (some .int) 0 0 zc_227 29 (zp_227.drop 4) (4, [(0, .ref r0), (1, .int i1), (2, .int i2), (3, .int i3)], [], lay, σ, 0, 0) = zb_227_4 lay σ r0 i1 i2 i3 := rfl
theorem zg_227_4 {lay : zm_Lay} {σ : zm_Sig} {r0 : Nat} {i1 : Int32} {i2 : Int32} {i3 : Int32} {out : zm_Out} {r : zm_St ⊕ zm_Out} (h : zb_227_4 lay σ r0 i1 i2 i3 = some r) (hg : match r with | .inl x => zm_go zp_P 227 x out | .inr o => o = out) : zm_go zp_P 227 (4, [(0, .ref r0), (1, .int i1), (2, .int i2), (3, .int i3)], [], lay, σ, 0, 0) out :=
  zm_blk_go (M := zd_227) rfl zs_227 29 (zp_227.drop 4) _ r (fun _ h => List.mem_of_mem_drop h) ((zr_227_4 lay σ r0 i1 i2 i3).trans h) hg
/-! SubgroupWriterModel.branchBeside(I)I -/
theorem zs_228 : zm_srt zp_228 = true := by decide +kernel
noncomputable def zb_228_0 (lay : zm_Lay) (σ : zm_Sig) (r0 : Nat) (i1 : Int32) : Option (zm_St ⊕ zm_Out) :=
  (zm_is lay r0 10).bind fun _ =>
  if (σ.1 r0 5) = 0 then none
  else ((zm_is lay r0 10).bind fun _ => (zm_ai (zM 224 [.ref r0, .int i1] lay σ)).bind fun q1 =>
  (zm_is q1.2.1 r0 10).bind fun _ =>
  (zm_is q1.2.1 r0 10).bind fun _ =>
  some (.inl (29, [(0, .ref r0), (2, .int (i1 / (σ.1 r0 5))), (3, .int q1.1), (4, .int 0), (5, .int (((q1.2.2.1 r0 4) * (q1.2.2.1 r0 5)) - 1))], [], q1.2.1, q1.2.2, 0, 0)))
set_option maxRecDepth 100000 in
theorem zr_228_0 (lay : zm_Lay) (σ : zm_Sig) (r0 : Nat) (i1 : Int32) : zm_blk zM zp_228 (some .int) 0 0 zc_228 63 (zp_228.drop 0) (0, [(0, .ref r0), (1, .int i1)], [], lay, σ, 0, 0) = zb_228_0 lay σ r0 i1 := rfl
theorem ze_228 {lay : zm_Lay} {σ : zm_Sig} {r0 : Nat} {i1 : Int32} {out : zm_Out} {r : zm_St ⊕ zm_Out} (h : zb_228_0 lay σ r0 i1 = some r) (hg : match r with | .inl x => zm_go zp_P 228 x out | .inr o => o = out) : zM 228 [.ref r0, .int i1] lay σ = some out :=
  zm_mean_go (M := zd_228) rfl (Nat.le_of_ble_eq_true rfl) (zm_blk_go (M := zd_228) rfl zs_228 63 (zp_228.drop 0) _ r (fun _ h => List.mem_of_mem_drop h) ((zr_228_0 lay σ r0 i1).trans h) hg)
noncomputable def zb_228_29 (lay : zm_Lay) (σ : zm_Sig) (r0 : Nat) (i2 : Int32) (i3 : Int32) (i4 : Int32) (i5 : Int32) : Option (zm_St ⊕ zm_Out) :=
  if i5 < 0 then (some (.inr (some (.int i4), lay, σ)))
  else ((zm_is lay r0 10).bind fun _ =>
   if (σ.1 r0 5) = 0 then none
   else ((zm_is lay r0 10).bind fun _ => (zm_ai (zM 224 [.ref r0, .int i5] lay σ)).bind fun q1 =>
   if ¬ i2 = (i5 / (σ.1 r0 5)) then (if ¬ i2 = q1.1 then (some (.inl (29, [(0, .ref r0), (2, .int i2), (3, .int i3), (4, .int i4), (5, .int (i5 + (-1)))], [], q1.2.1, q1.2.2, 0, 0)))
    else (if ¬ i3 = (i5 / (σ.1 r0 5)) then (some (.inl (29, [(0, .ref r0), (2, .int i2), (3, .int i3), (4, .int i4), (5, .int (i5 + (-1)))], [], q1.2.1, q1.2.2, 0, 0)))
     else ((zm_is q1.2.1 r0 10).bind fun _ =>
       zm_opt (q1.2.2.2.2 r0 17) (fun q2 =>
       (zm_gI q1.2.1 q1.2.2 q2 i5).bind fun v3 =>
       if ¬ v3 = 1 then (some (.inl (29, [(0, .ref r0), (2, .int i2), (3, .int i3), (4, .int i4), (5, .int (i5 + (-1)))], [], q1.2.1, q1.2.2, 0, 0)))
       else (some (.inl (29, [(0, .ref r0), (2, .int i2), (3, .int i3), (4, .int i5), (5, .int (i5 + (-1)))], [], q1.2.1, q1.2.2, 0, 0)))) (none))))
   else (if i3 = q1.1 then ((zm_is q1.2.1 r0 10).bind fun _ =>
      zm_opt (q1.2.2.2.2 r0 17) (fun q4 =>
      (zm_gI q1.2.1 q1.2.2 q4 i5).bind fun v5 =>
      if ¬ v5 = 1 then (some (.inl (29, [(0, .ref r0), (2, .int i2), (3, .int i3), (4, .int i4), (5, .int (i5 + (-1)))], [], q1.2.1, q1.2.2, 0, 0)))
      else (some (.inl (29, [(0, .ref r0), (2, .int i2), (3, .int i3), (4, .int i5), (5, .int (i5 + (-1)))], [], q1.2.1, q1.2.2, 0, 0)))) (none))
    else (if ¬ i2 = q1.1 then (some (.inl (29, [(0, .ref r0), (2, .int i2), (3, .int i3), (4, .int i4), (5, .int (i5 + (-1)))], [], q1.2.1, q1.2.2, 0, 0)))
     else (if ¬ i3 = (i5 / (σ.1 r0 5)) then (some (.inl (29, [(0, .ref r0), (2, .int i2), (3, .int i3), (4, .int i4), (5, .int (i5 + (-1)))], [], q1.2.1, q1.2.2, 0, 0)))
      else ((zm_is q1.2.1 r0 10).bind fun _ =>
        zm_opt (q1.2.2.2.2 r0 17) (fun q6 =>
        (zm_gI q1.2.1 q1.2.2 q6 i5).bind fun v7 =>
        if ¬ v7 = 1 then (some (.inl (29, [(0, .ref r0), (2, .int i2), (3, .int i3), (4, .int i4), (5, .int (i5 + (-1)))], [], q1.2.1, q1.2.2, 0, 0)))
        else (some (.inl (29, [(0, .ref r0), (2, .int i2), (3, .int i3), (4, .int i5), (5, .int (i5 + (-1)))], [], q1.2.1, q1.2.2, 0, 0)))) (none)))))))
set_option maxRecDepth 100000 in
theorem zr_228_29 (lay : zm_Lay) (σ : zm_Sig) (r0 : Nat) (i2 : Int32) (i3 : Int32) (i4 : Int32) (i5 : Int32) : zm_blk zM zp_228 (some .int) 0 0 zc_228 63 (zp_228.drop 19) (29, [(0, .ref r0), (2, .int i2), (3, .int i3), (4, .int i4), (5, .int i5)], [], lay, σ, 0, 0) = zb_228_29 lay σ r0 i2 i3 i4 i5 := rfl
theorem zg_228_29 {lay : zm_Lay} {σ : zm_Sig} {r0 : Nat} {i2 : Int32} {i3 : Int32} {i4 : Int32} {i5 : Int32} {out : zm_Out} {r : zm_St ⊕ zm_Out} (h : zb_228_29 lay σ r0 i2 i3 i4 i5 = some r) (hg : match r with | .inl x => zm_go zp_P 228 x out | .inr o => o = out) : zm_go zp_P 228 (29, [(0, .ref r0), (2, .int i2), (3, .int i3), (4, .int i4), (5, .int i5)], [], lay, σ, 0, 0) out :=
  zm_blk_go (M := zd_228) rfl zs_228 63 (zp_228.drop 19) _ r (fun _ h => List.mem_of_mem_drop h) ((zr_228_29 lay σ r0 i2 i3 i4 i5).trans h) hg
/-! SubgroupWriterModel.written(III)I -/
theorem zs_229 : zm_srt zp_229 = true := by decide +kernel
noncomputable def zb_229_0 (lay : zm_Lay) (σ : zm_Sig) (r0 : Nat) (i1 : Int32) (i2 : Int32) (i3 : Int32) : Option (zm_St ⊕ zm_Out) :=
  (zm_is lay r0 10).bind fun _ => (zm_ai (zM 216 [.ref r0, .int i1] lay σ)).bind fun q1 =>
  if q1.1 = 0 then (some (.inr (some (.int (-1)), q1.2.1, q1.2.2)))
  else ((zm_ai (zM 175 [.int i2] q1.2.1 q1.2.2)).bind fun q2 =>
   if q2.1 = 0 then (some (.inr (some (.int (-1)), q2.2.1, q2.2.2)))
   else ((zm_ai (zM 175 [.int i3] q2.2.1 q2.2.2)).bind fun q3 =>
    if ¬ q3.1 = 0 then ((zm_is q3.2.1 r0 10).bind fun _ =>
     zm_opt (q3.2.2.2.2 r0 0) (fun q4 =>
     (zm_gI q3.2.1 q3.2.2 q4 i2).bind fun v5 =>
     if (0 : Int32) ≤ v5 then ((zm_is q3.2.1 r0 10).bind fun _ =>
      (zm_is q3.2.1 r0 10).bind fun _ => (zm_ai (zM 230 [.ref r0, .int i2, .int (q3.2.2.1 r0 5)] q3.2.1 q3.2.2)).bind fun q6 =>
      if ¬ q6.1 = 0 then ((zm_is q6.2.1 r0 10).bind fun _ => (zm_fw q6.2.2 r0 40 0 (.int 0)).bind fun s7 =>
       some (.inl (68, [(0, .ref r0), (2, .int i2), (3, .int i3), (4, .int i1), (5, .int 0)], [], q6.2.1, s7, 0, 0)))
      else ((zm_is q6.2.1 r0 10).bind fun _ => (zm_ai (zM 177 [.ref r0, .int (nI 3)] q6.2.1 q6.2.2)).bind fun q8 =>
       some (.inr (some (.int q8.1), q8.2.1, q8.2.2))))
     else ((zm_is q3.2.1 r0 10).bind fun _ => (zm_ai (zM 177 [.ref r0, .int 1] q3.2.1 q3.2.2)).bind fun q9 =>
      some (.inr (some (.int q9.1), q9.2.1, q9.2.2)))) (none))
    else (some (.inr (some (.int (-1)), q3.2.1, q3.2.2)))))
set_option maxRecDepth 100000 in
theorem zr_229_0 (lay : zm_Lay) (σ : zm_Sig) (r0 : Nat) (i1 : Int32) (i2 : Int32) (i3 : Int32) : zm_blk zM zp_229 (some .int) 0 0 zc_229 79 (zp_229.drop 0) (0, [(0, .ref r0), (1, .int i1), (2, .int i2), (3, .int i3)], [], lay, σ, 0, 0) = zb_229_0 lay σ r0 i1 i2 i3 := rfl
theorem ze_229 {lay : zm_Lay} {σ : zm_Sig} {r0 : Nat} {i1 : Int32} {i2 : Int32} {i3 : Int32} {out : zm_Out} {r : zm_St ⊕ zm_Out} (h : zb_229_0 lay σ r0 i1 i2 i3 = some r) (hg : match r with | .inl x => zm_go zp_P 229 x out | .inr o => o = out) : zM 229 [.ref r0, .int i1, .int i2, .int i3] lay σ = some out :=
  zm_mean_go (M := zd_229) rfl (Nat.le_of_ble_eq_true rfl) (zm_blk_go (M := zd_229) rfl zs_229 79 (zp_229.drop 0) _ r (fun _ h => List.mem_of_mem_drop h) ((zr_229_0 lay σ r0 i1 i2 i3).trans h) hg)
noncomputable def zb_229_68 (lay : zm_Lay) (σ : zm_Sig) (r0 : Nat) (i2 : Int32) (i3 : Int32) (i4 : Int32) (i5 : Int32) : Option (zm_St ⊕ zm_Out) :=
  (zm_is lay r0 10).bind fun _ =>
  zm_opt (σ.2.2 r0 0) (fun q1 =>
  (zm_gI lay σ q1 i2).bind fun v2 =>
  if v2 ≤ i5 then ((zm_is lay r0 10).bind fun _ => (zm_av (zM 231 [.ref r0, .int i3] lay σ)).bind fun q3 =>
   (zm_is q3.1 r0 10).bind fun _ =>
   (zm_is q3.1 r0 10).bind fun _ => (zm_ai (zM 181 [.ref r0, .int i4, .int (q3.2.1 r0 40)] q3.1 q3.2)).bind fun q4 =>
   some (.inr (some (.int q4.1), q4.2.1, q4.2.2)))
  else ((zm_is lay r0 10).bind fun _ =>
   zm_opt (σ.2.2 r0 1) (fun q5 =>
   (zm_gI lay σ q5 ((((nI 40) : Int32) * i2) + i5)).bind fun v6 =>
   (zm_is lay r0 10).bind fun _ => (zm_av (zM 212 [.ref r0, .int i4, .int v6] lay σ)).bind fun q7 =>
   (zm_is q7.1 r0 10).bind fun _ =>
   zm_opt (q7.2.2.2 r0 1) (fun q8 =>
   (zm_gI q7.1 q7.2 q8 ((((nI 40) : Int32) * i2) + i5)).bind fun v9 =>
   (zm_is q7.1 r0 10).bind fun _ => (zm_ai (zM 205 [.ref r0, .int i4, .int v9] q7.1 q7.2)).bind fun q10 =>
   some (.inl (68, [(0, .ref r0), (2, .int i2), (3, .int i3), (4, .int q10.1), (5, .int (i5 + 1))], [], q10.2.1, q10.2.2, 0, 0))) (none)) (none))) (none)
set_option maxRecDepth 100000 in
theorem zr_229_68 (lay : zm_Lay) (σ : zm_Sig) (r0 : Nat) (i2 : Int32) (i3 : Int32) (i4 : Int32) (i5 : Int32) : zm_blk zM zp_229 (some .int) 0 0 zc_229 79 (zp_229.drop 38) (68, [(0, .ref r0), (2, .int i2), (3, .int i3), (4, .int i4), (5, .int i5)], [], lay, σ, 0, 0) = zb_229_68 lay σ r0 i2 i3 i4 i5 := rfl
theorem zg_229_68 {lay : zm_Lay} {σ : zm_Sig} {r0 : Nat} {i2 : Int32} {i3 : Int32} {i4 : Int32} {i5 : Int32} {out : zm_Out} {r : zm_St ⊕ zm_Out} (h : zb_229_68 lay σ r0 i2 i3 i4 i5 = some r) (hg : match r with | .inl x => zm_go zp_P 229 x out | .inr o => o = out) : zm_go zp_P 229 (68, [(0, .ref r0), (2, .int i2), (3, .int i3), (4, .int i4), (5, .int i5)], [], lay, σ, 0, 0) out :=
  zm_blk_go (M := zd_229) rfl zs_229 79 (zp_229.drop 38) _ r (fun _ h => List.mem_of_mem_drop h) ((zr_229_68 lay σ r0 i2 i3 i4 i5).trans h) hg
