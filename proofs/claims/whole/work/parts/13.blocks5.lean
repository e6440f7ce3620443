/-! SubgroupWriterModel.solve(II)I -/
theorem zs_256 : zm_srt zp_256 = true := by decide +kernel
noncomputable def zb_256_0 (lay : zm_Lay) (σ : zm_Sig) (r0 : Nat) (i1 : Int32) (i2 : Int32) : Option (zm_St ⊕ zm_Out) :=
  (zm_is lay r0 10).bind fun _ => (zm_ai (zM 237 [.ref r0, .int i1] lay σ)).bind fun q1 =>
  if q1.1 = 0 then (some (.inr (some (.int (-1)), q1.2.1, q1.2.2)))
  else ((zm_is q1.2.1 r0 10).bind fun _ => (zm_ai (zM 240 [.ref r0, .int i2] q1.2.1 q1.2.2)).bind fun q2 =>
   if ¬ q2.1 = 0 then ((zm_is q2.2.1 r0 10).bind fun _ => (zm_ai (zM 242 [.ref r0, .int i1, .int i2] q2.2.1 q2.2.2)).bind fun q3 =>
    if q3.1 = 1 then ((zm_is q3.2.1 r0 10).bind fun _ => (zm_ai (zM 257 [.ref r0, .int i1, .int i2] q3.2.1 q3.2.2)).bind fun q4 =>
     if ¬ q4.1 = 0 then ((zm_is q4.2.1 r0 10).bind fun _ =>
      if ¬ (q4.2.2.1 r0 23) = (nI 20) then ((zm_is q4.2.1 r0 10).bind fun _ => (zm_av (zM 246 [.ref r0] q4.2.1 q4.2.2)).bind fun q5 =>
       (zm_is q5.1 r0 10).bind fun _ => (zm_av (zM 260 [.ref r0, .int i1, .int i2] q5.1 q5.2)).bind fun q6 =>
       (zm_is q6.1 r0 10).bind fun _ =>
       zm_opt (q6.2.2.2 r0 21) (fun q7 =>
       (zm_gI q6.1 q6.2 q7 1).bind fun v8 =>
       some (.inr (some (.int v8), q6.1, q6.2))) (none))
      else (some (.inr (some (.int (-2)), q4.2.1, q4.2.2))))
     else (some (.inr (some (.int (-6)), q4.2.1, q4.2.2))))
    else (some (.inr (some (.int (-4)), q3.2.1, q3.2.2))))
   else (some (.inr (some (.int (-1)), q2.2.1, q2.2.2))))
set_option maxRecDepth 100000 in
theorem zr_256_0 (lay : zm_Lay) (σ : zm_Sig) (r0 : Nat) (i1 : Int32) (i2 : Int32) : zm_blk zM zp_256 (some .int) 0 0 zc_256 43 (zp_256.drop 0) (0, [(0, .ref r0), (1, .int i1), (2, .int i2)], [], lay, σ, 0, 0) = zb_256_0 lay σ r0 i1 i2 := rfl
theorem ze_256 {lay : zm_Lay} {σ : zm_Sig} {r0 : Nat} {i1 : Int32} {i2 : Int32} {out : zm_Out} {r : zm_St ⊕ zm_Out} (h : zb_256_0 lay σ r0 i1 i2 = some r) (hg : zm_end zp_P 256 out r) : zM 256 [.ref r0, .int i1, .int i2] lay σ = some out :=
  zm_mean_go (M := zd_256) rfl (Nat.le_of_ble_eq_true rfl) (zm_blk_go (M := zd_256) rfl zs_256 43 (zp_256.drop 0) _ r (fun _ h => List.mem_of_mem_drop h) ((zr_256_0 lay σ r0 i1 i2).trans h) hg)
/-! SubgroupWriterModel.maySolve(II)Z -/
theorem zs_257 : zm_srt zp_257 = true := by decide +kernel
noncomputable def zb_257_0 (lay : zm_Lay) (σ : zm_Sig) (r0 : Nat) (i1 : Int32) (i2 : Int32) : Option (zm_St ⊕ zm_Out) :=
  (zm_is lay r0 10).bind fun _ => (zm_av (zM 258 [.ref r0, .int i1, .int i2] lay σ)).bind fun q1 =>
  some (.inl (11, [(0, .ref r0), (1, .int i1), (2, .int i2), (3, .int 1), (4, .int 0)], [], q1.1, q1.2, 0, 0))
set_option maxRecDepth 100000 in
theorem zr_257_0 (lay : zm_Lay) (σ : zm_Sig) (r0 : Nat) (i1 : Int32) (i2 : Int32) : zm_blk zM zp_257 (some .boolean) 0 0 zc_257 36 (zp_257.drop 0) (0, [(0, .ref r0), (1, .int i1), (2, .int i2)], [], lay, σ, 0, 0) = zb_257_0 lay σ r0 i1 i2 := rfl
theorem ze_257 {lay : zm_Lay} {σ : zm_Sig} {r0 : Nat} {i1 : Int32} {i2 : Int32} {out : zm_Out} {r : zm_St ⊕ zm_Out} (h : zb_257_0 lay σ r0 i1 i2 = some r) (hg : zm_end zp_P 257 out r) : zM 257 [.ref r0, .int i1, .int i2] lay σ = some out :=
  zm_mean_go (M := zd_257) rfl (Nat.le_of_ble_eq_true rfl) (zm_blk_go (M := zd_257) rfl zs_257 36 (zp_257.drop 0) _ r (fun _ h => List.mem_of_mem_drop h) ((zr_257_0 lay σ r0 i1 i2).trans h) hg)
noncomputable def zb_257_11 (lay : zm_Lay) (σ : zm_Sig) (r0 : Nat) (i1 : Int32) (i2 : Int32) (i3 : Int32) (i4 : Int32) : Option (zm_St ⊕ zm_Out) :=
  (zm_is lay r0 10).bind fun _ =>
  zm_opt (σ.2.2 r0 21) (fun q1 =>
  (zm_gI lay σ q1 1).bind fun v2 =>
  if v2 ≤ i4 then (if i3 = 0 ∨ i3 = 1 then some (.inr (some (.int i3), lay, σ)) else none)
  else (if i3 = 0 then (if i3 = 0 ∨ i3 = 1 then some (.inr (some (.int i3), lay, σ)) else none)
   else (if i4 = i1 then (some (.inl (11, [(0, .ref r0), (1, .int i1), (2, .int i2), (3, .int i3), (4, .int (i4 + 1))], [], lay, σ, 0, 0)))
    else ((zm_is lay r0 10).bind fun _ => (zm_av (zM 259 [.ref r0, .int i4, .int i2] lay σ)).bind fun q3 =>
     (zm_is q3.1 r0 10).bind fun _ =>
     if ((nI 16) : Int32) < (q3.2.1 r0 40) then (some (.inl (11, [(0, .ref r0), (1, .int i1), (2, .int i2), (3, .int 0), (4, .int (i4 + 1))], [], q3.1, q3.2, 0, 0)))
     else (some (.inl (11, [(0, .ref r0), (1, .int i1), (2, .int i2), (3, .int 1), (4, .int (i4 + 1))], [], q3.1, q3.2, 0, 0))))))) (none)
set_option maxRecDepth 100000 in
theorem zr_257_11 (lay : zm_Lay) (σ : zm_Sig) (r0 : Nat) (i1 : Int32) (i2 : Int32) (i3 : Int32) (i4 : Int32) : zm_blk zM zp_257 (some .boolean) 0 0 zc_257 36 (zp_257.drop 8) (11, [(0, .ref r0), (1, .int i1), (2, .int i2), (3, .int i3), (4, .int i4)], [], lay, σ, 0, 0) = zb_257_11 lay σ r0 i1 i2 i3 i4 := rfl
theorem zg_257_11 {lay : zm_Lay} {σ : zm_Sig} {r0 : Nat} {i1 : Int32} {i2 : Int32} {i3 : Int32} {i4 : Int32} {out : zm_Out} {r : zm_St ⊕ zm_Out} (h : zb_257_11 lay σ r0 i1 i2 i3 i4 = some r) (hg : zm_end zp_P 257 out r) : zm_go zp_P 257 (11, [(0, .ref r0), (1, .int i1), (2, .int i2), (3, .int i3), (4, .int i4)], [], lay, σ, 0, 0) out :=
  zm_blk_go (M := zd_257) rfl zs_257 36 (zp_257.drop 8) _ r (fun _ h => List.mem_of_mem_drop h) ((zr_257_11 lay σ r0 i1 i2 i3 i4).trans h) hg
/-! SubgroupWriterModel.laysInstead(II)V -/
theorem zs_258 : zm_srt zp_258 = true := by decide +kernel
noncomputable def zb_258_0 (lay : zm_Lay) (σ : zm_Sig) (r0 : Nat) (i1 : Int32) (i2 : Int32) : Option (zm_St ⊕ zm_Out) :=
  (zm_is lay r0 10).bind fun _ =>
  zm_opt (σ.2.2 r0 21) (fun q1 =>
  (zm_gI lay σ q1 (((nI 3) : Int32) + i1)).bind fun v2 =>
  some (.inl (12, [(0, .ref r0), (1, .int i1), (2, .int i2), (3, .int v2), (4, .int 0)], [], lay, σ, 0, 0))) (none)
set_option maxRecDepth 100000 in
theorem zr_258_0 (lay : zm_Lay) (σ : zm_Sig) (r0 : Nat) (i1 : Int32) (i2 : Int32) : zm_blk zM zp_258 none 0 0 zc_258 80 (zp_258.drop 0) (0, [(0, .ref r0), (1, .int i1), (2, .int i2)], [], lay, σ, 0, 0) = zb_258_0 lay σ r0 i1 i2 := rfl
theorem ze_258 {lay : zm_Lay} {σ : zm_Sig} {r0 : Nat} {i1 : Int32} {i2 : Int32} {out : zm_Out} {r : zm_St ⊕ zm_Out} (h : zb_258_0 lay σ r0 i1 i2 = some r) (hg : zm_end zp_P 258 out r) : zM 258 [.ref r0, .int i1, .int i2] lay σ = some out :=
  zm_mean_go (M := zd_258) rfl (Nat.le_of_ble_eq_true rfl) (zm_blk_go (M := zd_258) rfl zs_258 80 (zp_258.drop 0) _ r (fun _ h => List.mem_of_mem_drop h) ((zr_258_0 lay σ r0 i1 i2).trans h) hg)
noncomputable def zb_258_12 (lay : zm_Lay) (σ : zm_Sig) (r0 : Nat) (i1 : Int32) (i2 : Int32) (i3 : Int32) (i4 : Int32) : Option (zm_St ⊕ zm_Out) :=
  (zm_is lay r0 10).bind fun _ => (zm_ai (zM 238 [.ref r0, .int i1, .int i4] lay σ)).bind fun q1 =>
  if q1.1 = i2 then ((zm_is q1.2.1 r0 10).bind fun _ => (zm_ai (zM 238 [.ref r0, .int i1, .int i4] q1.2.1 q1.2.2)).bind fun q2 =>
   if ¬ q2.1 = i2 then ((zm_is q2.2.1 r0 10).bind fun _ => (zm_fw q2.2.2 r0 43 0 (.int (i3 - 1))).bind fun s3 =>
    some (.inl (69, [(0, .ref r0), (1, .int i1), (3, .int i3), (4, .int i4), (5, .int 0), (6, .int 0)], [], q2.2.1, s3, 0, 0)))
   else ((zm_is q2.2.1 r0 10).bind fun _ => (zm_fw q2.2.2 r0 43 0 (.int (i3 - 1))).bind fun s4 =>
    some (.inl (69, [(0, .ref r0), (1, .int i1), (3, .int i3), (4, .int i4), (5, .int 1), (6, .int 0)], [], q2.2.1, s4, 0, 0))))
  else ((zm_is q1.2.1 r0 10).bind fun _ => (zm_ai (zM 238 [.ref r0, .int i1, .int i4] q1.2.1 q1.2.2)).bind fun q5 =>
   if q5.1 = (-i2) then ((zm_is q5.2.1 r0 10).bind fun _ => (zm_ai (zM 238 [.ref r0, .int i1, .int i4] q5.2.1 q5.2.2)).bind fun q6 =>
    if ¬ q6.1 = i2 then ((zm_is q6.2.1 r0 10).bind fun _ => (zm_fw q6.2.2 r0 43 0 (.int (i3 - 1))).bind fun s7 =>
     some (.inl (69, [(0, .ref r0), (1, .int i1), (3, .int i3), (4, .int i4), (5, .int 0), (6, .int 0)], [], q6.2.1, s7, 0, 0)))
    else ((zm_is q6.2.1 r0 10).bind fun _ => (zm_fw q6.2.2 r0 43 0 (.int (i3 - 1))).bind fun s8 =>
     some (.inl (69, [(0, .ref r0), (1, .int i1), (3, .int i3), (4, .int i4), (5, .int 1), (6, .int 0)], [], q6.2.1, s8, 0, 0))))
   else (some (.inl (12, [(0, .ref r0), (1, .int i1), (2, .int i2), (3, .int i3), (4, .int (i4 + 1))], [], q5.2.1, q5.2.2, 0, 0))))
set_option maxRecDepth 100000 in
theorem zr_258_12 (lay : zm_Lay) (σ : zm_Sig) (r0 : Nat) (i1 : Int32) (i2 : Int32) (i3 : Int32) (i4 : Int32) : zm_blk zM zp_258 none 0 0 zc_258 80 (zp_258.drop 9) (12, [(0, .ref r0), (1, .int i1), (2, .int i2), (3, .int i3), (4, .int i4)], [], lay, σ, 0, 0) = zb_258_12 lay σ r0 i1 i2 i3 i4 := rfl
theorem zg_258_12 {lay : zm_Lay} {σ : zm_Sig} {r0 : Nat} {i1 : Int32} {i2 : Int32} {i3 : Int32} {i4 : Int32} {out : zm_Out} {r : zm_St ⊕ zm_Out} (h : zb_258_12 lay σ r0 i1 i2 i3 i4 = some r) (hg : zm_end zp_P 258 out r) : zm_go zp_P 258 (12, [(0, .ref r0), (1, .int i1), (2, .int i2), (3, .int i3), (4, .int i4)], [], lay, σ, 0, 0) out :=
  zm_blk_go (M := zd_258) rfl zs_258 80 (zp_258.drop 9) _ r (fun _ h => List.mem_of_mem_drop h) ((zr_258_12 lay σ r0 i1 i2 i3 i4).trans h) hg
noncomputable def zb_258_69 (lay : zm_Lay) (σ : zm_Sig) (r0 : Nat) (i1 : Int32) (i3 : Int32) (i4 : Int32) (i5 : Int32) (i6 : Int32) : Option (zm_St ⊕ zm_Out) :=
  if (i3 - 1) ≤ i6 then (some (.inr (none, lay, σ)))
  else ((zm_is lay r0 10).bind fun _ =>
   zm_opt (σ.2.2 r0 42) (fun q1 =>
   if i5 = 0 then (if i3 = 0 then none
    else ((zm_is lay r0 10).bind fun _ => (zm_ai (zM 238 [.ref r0, .int i1, .int (((i4 + 1) + i6) - ((i4 + 1) + i6) / i3 * i3)] lay σ)).bind fun q2 =>
    (zm_sI q2.2.1 q2.2.2 q1 i6 q2.1).bind fun s3 =>
    some (.inl (69, [(0, .ref r0), (1, .int i1), (3, .int i3), (4, .int i4), (5, .int i5), (6, .int (i6 + 1))], [], q2.2.1, s3, 0, 0))))
   else (if i3 = 0 then none
    else ((zm_is lay r0 10).bind fun _ => (zm_ai (zM 238 [.ref r0, .int i1, .int ((((i4 + i3) - 1) - i6) - (((i4 + i3) - 1) - i6) / i3 * i3)] lay σ)).bind fun q4 =>
    (zm_sI q4.2.1 q4.2.2 q1 i6 (-q4.1)).bind fun s5 =>
    some (.inl (69, [(0, .ref r0), (1, .int i1), (3, .int i3), (4, .int i4), (5, .int i5), (6, .int (i6 + 1))], [], q4.2.1, s5, 0, 0))))) (none))
set_option maxRecDepth 100000 in
theorem zr_258_69 (lay : zm_Lay) (σ : zm_Sig) (r0 : Nat) (i1 : Int32) (i3 : Int32) (i4 : Int32) (i5 : Int32) (i6 : Int32) : zm_blk zM zp_258 none 0 0 zc_258 80 (zp_258.drop 41) (69, [(0, .ref r0), (1, .int i1), (3, .int i3), (4, .int i4), (5, .int i5), (6, .int i6)], [], lay, σ, 0, 0) = zb_258_69 lay σ r0 i1 i3 i4 i5 i6 := rfl
theorem zg_258_69 {lay : zm_Lay} {σ : zm_Sig} {r0 : Nat} {i1 : Int32} {i3 : Int32} {i4 : Int32} {i5 : Int32} {i6 : Int32} {out : zm_Out} {r : zm_St ⊕ zm_Out} (h : zb_258_69 lay σ r0 i1 i3 i4 i5 i6 = some r) (hg : zm_end zp_P 258 out r) : zm_go zp_P 258 (69, [(0, .ref r0), (1, .int i1), (3, .int i3), (4, .int i4), (5, .int i5), (6, .int i6)], [], lay, σ, 0, 0) out :=
  zm_blk_go (M := zd_258) rfl zs_258 80 (zp_258.drop 41) _ r (fun _ h => List.mem_of_mem_drop h) ((zr_258_69 lay σ r0 i1 i3 i4 i5 i6).trans h) hg
/-! SubgroupWriterModel.putsSo(II)V -/
theorem zs_259 : zm_srt zp_259 = true := by decide +kernel
noncomputable def zb_259_0 (lay : zm_Lay) (σ : zm_Sig) (r0 : Nat) (i1 : Int32) (i2 : Int32) : Option (zm_St ⊕ zm_Out) :=
  (zm_is lay r0 10).bind fun _ => (zm_fw σ r0 40 0 (.int 0)).bind fun s1 =>
  some (.inl (7, [(0, .ref r0), (1, .int i1), (2, .int i2), (3, .int 0)], [], lay, s1, 0, 0))
set_option maxRecDepth 100000 in
theorem zr_259_0 (lay : zm_Lay) (σ : zm_Sig) (r0 : Nat) (i1 : Int32) (i2 : Int32) : zm_blk zM zp_259 none 0 0 zc_259 61 (zp_259.drop 0) (0, [(0, .ref r0), (1, .int i1), (2, .int i2)], [], lay, σ, 0, 0) = zb_259_0 lay σ r0 i1 i2 := rfl
theorem ze_259 {lay : zm_Lay} {σ : zm_Sig} {r0 : Nat} {i1 : Int32} {i2 : Int32} {out : zm_Out} {r : zm_St ⊕ zm_Out} (h : zb_259_0 lay σ r0 i1 i2 = some r) (hg : zm_end zp_P 259 out r) : zM 259 [.ref r0, .int i1, .int i2] lay σ = some out :=
  zm_mean_go (M := zd_259) rfl (Nat.le_of_ble_eq_true rfl) (zm_blk_go (M := zd_259) rfl zs_259 61 (zp_259.drop 0) _ r (fun _ h => List.mem_of_mem_drop h) ((zr_259_0 lay σ r0 i1 i2).trans h) hg)
noncomputable def zb_259_7 (lay : zm_Lay) (σ : zm_Sig) (r0 : Nat) (i1 : Int32) (i2 : Int32) (i3 : Int32) : Option (zm_St ⊕ zm_Out) :=
  (zm_is lay r0 10).bind fun _ =>
  zm_opt (σ.2.2 r0 21) (fun q1 =>
  (zm_gI lay σ q1 (((nI 3) : Int32) + i1)).bind fun v2 =>
  if v2 ≤ i3 then (some (.inr (none, lay, σ)))
  else ((zm_is lay r0 10).bind fun _ => (zm_ai (zM 238 [.ref r0, .int i1, .int i3] lay σ)).bind fun q3 =>
   if q3.1 = i2 then (some (.inl (43, [(0, .ref r0), (1, .int i1), (2, .int i2), (3, .int i3), (4, .int q3.1), (5, .int 0)], [], q3.2.1, q3.2.2, 0, 0)))
   else (if ¬ q3.1 = (-i2) then ((zm_is q3.2.1 r0 10).bind fun _ => (zm_av (zM 213 [.ref r0, .int q3.1] q3.2.1 q3.2.2)).bind fun q4 =>
     some (.inl (7, [(0, .ref r0), (1, .int i1), (2, .int i2), (3, .int (i3 + 1))], [], q4.1, q4.2, 0, 0)))
    else (some (.inl (43, [(0, .ref r0), (1, .int i1), (2, .int i2), (3, .int i3), (4, .int q3.1), (5, .int 0)], [], q3.2.1, q3.2.2, 0, 0)))))) (none)
set_option maxRecDepth 100000 in
theorem zr_259_7 (lay : zm_Lay) (σ : zm_Sig) (r0 : Nat) (i1 : Int32) (i2 : Int32) (i3 : Int32) : zm_blk zM zp_259 none 0 0 zc_259 61 (zp_259.drop 5) (7, [(0, .ref r0), (1, .int i1), (2, .int i2), (3, .int i3)], [], lay, σ, 0, 0) = zb_259_7 lay σ r0 i1 i2 i3 := rfl
theorem zg_259_7 {lay : zm_Lay} {σ : zm_Sig} {r0 : Nat} {i1 : Int32} {i2 : Int32} {i3 : Int32} {out : zm_Out} {r : zm_St ⊕ zm_Out} (h : zb_259_7 lay σ r0 i1 i2 i3 = some r) (hg : zm_end zp_P 259 out r) : zm_go zp_P 259 (7, [(0, .ref r0), (1, .int i1), (2, .int i2), (3, .int i3)], [], lay, σ, 0, 0) out :=
  zm_blk_go (M := zd_259) rfl zs_259 61 (zp_259.drop 5) _ r (fun _ h => List.mem_of_mem_drop h) ((zr_259_7 lay σ r0 i1 i2 i3).trans h) hg
noncomputable def zb_259_43 (lay : zm_Lay) (σ : zm_Sig) (r0 : Nat) (i1 : Int32) (i2 : Int32) (i3 : Int32) (i4 : Int32) (i5 : Int32) : Option (zm_St ⊕ zm_Out) :=
  (zm_is lay r0 10).bind fun _ =>
  if (σ.1 r0 43) ≤ i5 then (some (.inl (7, [(0, .ref r0), (1, .int i1), (2, .int i2), (3, .int (i3 + 1))], [], lay, σ, 0, 0)))
  else (if ¬ i4 = i2 then ((zm_is lay r0 10).bind fun _ =>
    zm_opt (σ.2.2 r0 42) (fun q1 =>
    (zm_is lay r0 10).bind fun _ =>
    (zm_gI lay σ q1 (((σ.1 r0 43) - 1) - i5)).bind fun v2 =>
    (zm_is lay r0 10).bind fun _ => (zm_av (zM 213 [.ref r0, .int (-v2)] lay σ)).bind fun q3 =>
    some (.inl (43, [(0, .ref r0), (1, .int i1), (2, .int i2), (3, .int i3), (4, .int i4), (5, .int (i5 + 1))], [], q3.1, q3.2, 0, 0))) (none))
   else ((zm_is lay r0 10).bind fun _ =>
    zm_opt (σ.2.2 r0 42) (fun q4 =>
    (zm_gI lay σ q4 i5).bind fun v5 =>
    (zm_is lay r0 10).bind fun _ => (zm_av (zM 213 [.ref r0, .int v5] lay σ)).bind fun q6 =>
    some (.inl (43, [(0, .ref r0), (1, .int i1), (2, .int i2), (3, .int i3), (4, .int i4), (5, .int (i5 + 1))], [], q6.1, q6.2, 0, 0))) (none)))
set_option maxRecDepth 100000 in
theorem zr_259_43 (lay : zm_Lay) (σ : zm_Sig) (r0 : Nat) (i1 : Int32) (i2 : Int32) (i3 : Int32) (i4 : Int32) (i5 : Int32) : zm_blk zM zp_259 none 0 0 zc_259 61 (zp_259.drop 27) (43, [(0, .ref r0), (1, .int i1), (2, .int i2), (3, .int i3), (4, .int i4), (5, .int i5)], [], lay, σ, 0, 0) = zb_259_43 lay σ r0 i1 i2 i3 i4 i5 := rfl
theorem zg_259_43 {lay : zm_Lay} {σ : zm_Sig} {r0 : Nat} {i1 : Int32} {i2 : Int32} {i3 : Int32} {i4 : Int32} {i5 : Int32} {out : zm_Out} {r : zm_St ⊕ zm_Out} (h : zb_259_43 lay σ r0 i1 i2 i3 i4 i5 = some r) (hg : zm_end zp_P 259 out r) : zm_go zp_P 259 (43, [(0, .ref r0), (1, .int i1), (2, .int i2), (3, .int i3), (4, .int i4), (5, .int i5)], [], lay, σ, 0, 0) out :=
  zm_blk_go (M := zd_259) rfl zs_259 61 (zp_259.drop 27) _ r (fun _ h => List.mem_of_mem_drop h) ((zr_259_43 lay σ r0 i1 i2 i3 i4 i5).trans h) hg
/-! SubgroupWriterModel.solves(II)V -/
theorem zs_260 : zm_srt zp_260 = true := by decide +kernel
noncomputable def zb_260_0 (lay : zm_Lay) (σ : zm_Sig) (r0 : Nat) (i1 : Int32) (i2 : Int32) : Option (zm_St ⊕ zm_Out) :=
  (zm_is lay r0 10).bind fun _ => (zm_av (zM 258 [.ref r0, .int i1, .int i2] lay σ)).bind fun q1 =>
  some (.inl (8, [(0, .ref r0), (1, .int i1), (2, .int i2), (3, .int 0)], [], q1.1, q1.2, 0, 0))
set_option maxRecDepth 100000 in
theorem zr_260_0 (lay : zm_Lay) (σ : zm_Sig) (r0 : Nat) (i1 : Int32) (i2 : Int32) : zm_blk zM zp_260 none 0 0 zc_260 43 (zp_260.drop 0) (0, [(0, .ref r0), (1, .int i1), (2, .int i2)], [], lay, σ, 0, 0) = zb_260_0 lay σ r0 i1 i2 := rfl
theorem ze_260 {lay : zm_Lay} {σ : zm_Sig} {r0 : Nat} {i1 : Int32} {i2 : Int32} {out : zm_Out} {r : zm_St ⊕ zm_Out} (h : zb_260_0 lay σ r0 i1 i2 = some r) (hg : zm_end zp_P 260 out r) : zM 260 [.ref r0, .int i1, .int i2] lay σ = some out :=
  zm_mean_go (M := zd_260) rfl (Nat.le_of_ble_eq_true rfl) (zm_blk_go (M := zd_260) rfl zs_260 43 (zp_260.drop 0) _ r (fun _ h => List.mem_of_mem_drop h) ((zr_260_0 lay σ r0 i1 i2).trans h) hg)
noncomputable def zb_260_8 (lay : zm_Lay) (σ : zm_Sig) (r0 : Nat) (i1 : Int32) (i2 : Int32) (i3 : Int32) : Option (zm_St ⊕ zm_Out) :=
  (zm_is lay r0 10).bind fun _ =>
  zm_opt (σ.2.2 r0 21) (fun q1 =>
  (zm_gI lay σ q1 1).bind fun v2 =>
  if v2 ≤ i3 then ((zm_is lay r0 10).bind fun _ => (zm_av (zM 255 [.ref r0, .int i1] lay σ)).bind fun q3 =>
   (zm_is q3.1 r0 10).bind fun _ =>
   zm_opt (q3.2.2.2 r0 21) (fun q4 =>
   (zm_gI q3.1 q3.2 q4 (nI 2)).bind fun v5 =>
   (zm_sI q3.1 q3.2 q4 (nI 2) (v5 &&& (((1 : Int32) <<< ((i2 - 1) &&& 31)) ^^^ (-1)))).bind fun s6 =>
   some (.inr (none, q3.1, s6))) (none))
  else (if i3 = i1 then (some (.inl (8, [(0, .ref r0), (1, .int i1), (2, .int i2), (3, .int (i3 + 1))], [], lay, σ, 0, 0)))
   else ((zm_is lay r0 10).bind fun _ => (zm_av (zM 259 [.ref r0, .int i3, .int i2] lay σ)).bind fun q7 =>
    (zm_is q7.1 r0 10).bind fun _ => (zm_av (zM 214 [.ref r0, .int i3] q7.1 q7.2)).bind fun q8 =>
    some (.inl (8, [(0, .ref r0), (1, .int i1), (2, .int i2), (3, .int (i3 + 1))], [], q8.1, q8.2, 0, 0))))) (none)
set_option maxRecDepth 100000 in
theorem zr_260_8 (lay : zm_Lay) (σ : zm_Sig) (r0 : Nat) (i1 : Int32) (i2 : Int32) (i3 : Int32) : zm_blk zM zp_260 none 0 0 zc_260 43 (zp_260.drop 6) (8, [(0, .ref r0), (1, .int i1), (2, .int i2), (3, .int i3)], [], lay, σ, 0, 0) = zb_260_8 lay σ r0 i1 i2 i3 := rfl
theorem zg_260_8 {lay : zm_Lay} {σ : zm_Sig} {r0 : Nat} {i1 : Int32} {i2 : Int32} {i3 : Int32} {out : zm_Out} {r : zm_St ⊕ zm_Out} (h : zb_260_8 lay σ r0 i1 i2 i3 = some r) (hg : zm_end zp_P 260 out r) : zm_go zp_P 260 (8, [(0, .ref r0), (1, .int i1), (2, .int i2), (3, .int i3)], [], lay, σ, 0, 0) out :=
  zm_blk_go (M := zd_260) rfl zs_260 43 (zp_260.drop 6) _ r (fun _ h => List.mem_of_mem_drop h) ((zr_260_8 lay σ r0 i1 i2 i3).trans h) hg
/-! SubgroupWriterModel.shorten()I -/
theorem zs_261 : zm_srt zp_261 = true := by decide +kernel
noncomputable def zb_261_0 (lay : zm_Lay) (σ : zm_Sig) (r0 : Nat) : Option (zm_St ⊕ zm_Out) :=
  (zm_is lay r0 10).bind fun _ =>
  if (σ.1 r0 4) = 0 then (some (.inr (some (.int (-4)), lay, σ)))
  else ((zm_is lay r0 10).bind fun _ => (zm_ai (zM 262 [.ref r0] lay σ)).bind fun q1 =>
   if ¬ q1.1 = (-9) then ((zm_is q1.2.1 r0 10).bind fun _ =>
    if ¬ (q1.2.2.1 r0 23) = (nI 20) then ((zm_is q1.2.1 r0 10).bind fun _ => (zm_av (zM 246 [.ref r0] q1.2.1 q1.2.2)).bind fun q2 =>
     some (.inl (48, [(0, .ref r0), (1, .int 0), (2, .int 1)], [], q2.1, q2.2, 0, 0)))
    else (some (.inr (some (.int (-2)), q1.2.1, q1.2.2))))
   else ((zm_is q1.2.1 r0 10).bind fun _ => (zm_ai (zM 263 [.ref r0] q1.2.1 q1.2.2)).bind fun q3 =>
    if ¬ q3.1 = (-9) then ((zm_is q3.2.1 r0 10).bind fun _ =>
     if ¬ (q3.2.2.1 r0 23) = (nI 20) then ((zm_is q3.2.1 r0 10).bind fun _ => (zm_av (zM 246 [.ref r0] q3.2.1 q3.2.2)).bind fun q4 =>
      some (.inl (48, [(0, .ref r0), (1, .int 0), (2, .int 1)], [], q4.1, q4.2, 0, 0)))
     else (some (.inr (some (.int (-2)), q3.2.1, q3.2.2))))
    else (some (.inr (some (.int (-4)), q3.2.1, q3.2.2)))))
set_option maxRecDepth 100000 in
theorem zr_261_0 (lay : zm_Lay) (σ : zm_Sig) (r0 : Nat) : zm_blk zM zp_261 (some .int) 0 0 zc_261 81 (zp_261.drop 0) (0, [(0, .ref r0)], [], lay, σ, 0, 0) = zb_261_0 lay σ r0 := rfl
theorem ze_261 {lay : zm_Lay} {σ : zm_Sig} {r0 : Nat} {out : zm_Out} {r : zm_St ⊕ zm_Out} (h : zb_261_0 lay σ r0 = some r) (hg : zm_end zp_P 261 out r) : zM 261 [.ref r0] lay σ = some out :=
  zm_mean_go (M := zd_261) rfl (Nat.le_of_ble_eq_true rfl) (zm_blk_go (M := zd_261) rfl zs_261 81 (zp_261.drop 0) _ r (fun _ h => List.mem_of_mem_drop h) ((zr_261_0 lay σ r0).trans h) hg)
noncomputable def zb_261_48 (lay : zm_Lay) (σ : zm_Sig) (r0 : Nat) (i1 : Int32) (i2 : Int32) : Option (zm_St ⊕ zm_Out) :=
  if i2 = 0 then (some (.inr (some (.int i1), lay, σ)))
  else (if ((nI 20) : Int32) ≤ i1 then (some (.inr (some (.int i1), lay, σ)))
   else ((zm_is lay r0 10).bind fun _ => (zm_ai (zM 262 [.ref r0] lay σ)).bind fun q1 =>
    if ¬ q1.1 = (-9) then (if q1.1 = (-9) then (if ¬ q1.1 = (-9) then (some (.inl (48, [(0, .ref r0), (1, .int (i1 + 1)), (2, .int 1)], [], q1.2.1, q1.2.2, 0, 0)))
       else (some (.inl (48, [(0, .ref r0), (1, .int (i1 + 0)), (2, .int 0)], [], q1.2.1, q1.2.2, 0, 0))))
     else ((zm_is q1.2.1 r0 10).bind fun _ => (zm_av (zM 255 [.ref r0, .int q1.1] q1.2.1 q1.2.2)).bind fun q2 =>
      if ¬ q1.1 = (-9) then (some (.inl (48, [(0, .ref r0), (1, .int (i1 + 1)), (2, .int 1)], [], q2.1, q2.2, 0, 0)))
      else (some (.inl (48, [(0, .ref r0), (1, .int (i1 + 0)), (2, .int 0)], [], q2.1, q2.2, 0, 0)))))
    else ((zm_is q1.2.1 r0 10).bind fun _ => (zm_ai (zM 263 [.ref r0] q1.2.1 q1.2.2)).bind fun q3 =>
     if q1.1 = (-9) then (if q3.1 = (-9) then (if ¬ q1.1 = (-9) then (some (.inl (48, [(0, .ref r0), (1, .int (i1 + 1)), (2, .int 1)], [], q3.2.1, q3.2.2, 0, 0)))
       else (if q3.1 = (-9) then (some (.inl (48, [(0, .ref r0), (1, .int (i1 + 0)), (2, .int 0)], [], q3.2.1, q3.2.2, 0, 0)))
        else (some (.inl (48, [(0, .ref r0), (1, .int (i1 + 1)), (2, .int 1)], [], q3.2.1, q3.2.2, 0, 0)))))
      else ((zm_is q3.2.1 r0 10).bind fun _ => (zm_av (zM 260 [.ref r0, .int (q3.1 / (nI 16)), .int (q3.1 - q3.1 / (nI 16) * (nI 16))] q3.2.1 q3.2.2)).bind fun q4 =>
       if ¬ q1.1 = (-9) then (some (.inl (48, [(0, .ref r0), (1, .int (i1 + 1)), (2, .int 1)], [], q4.1, q4.2, 0, 0)))
       else (if q3.1 = (-9) then (some (.inl (48, [(0, .ref r0), (1, .int (i1 + 0)), (2, .int 0)], [], q4.1, q4.2, 0, 0)))
        else (some (.inl (48, [(0, .ref r0), (1, .int (i1 + 1)), (2, .int 1)], [], q4.1, q4.2, 0, 0))))))
     else ((zm_is q3.2.1 r0 10).bind fun _ => (zm_av (zM 255 [.ref r0, .int q1.1] q3.2.1 q3.2.2)).bind fun q5 =>
      if ¬ q1.1 = (-9) then (some (.inl (48, [(0, .ref r0), (1, .int (i1 + 1)), (2, .int 1)], [], q5.1, q5.2, 0, 0)))
      else (if q3.1 = (-9) then (some (.inl (48, [(0, .ref r0), (1, .int (i1 + 0)), (2, .int 0)], [], q5.1, q5.2, 0, 0)))
       else (some (.inl (48, [(0, .ref r0), (1, .int (i1 + 1)), (2, .int 1)], [], q5.1, q5.2, 0, 0))))))))
set_option maxRecDepth 100000 in
theorem zr_261_48 (lay : zm_Lay) (σ : zm_Sig) (r0 : Nat) (i1 : Int32) (i2 : Int32) : zm_blk zM zp_261 (some .int) 0 0 zc_261 81 (zp_261.drop 25) (48, [(0, .ref r0), (1, .int i1), (2, .int i2)], [], lay, σ, 0, 0) = zb_261_48 lay σ r0 i1 i2 := rfl
theorem zg_261_48 {lay : zm_Lay} {σ : zm_Sig} {r0 : Nat} {i1 : Int32} {i2 : Int32} {out : zm_Out} {r : zm_St ⊕ zm_Out} (h : zb_261_48 lay σ r0 i1 i2 = some r) (hg : zm_end zp_P 261 out r) : zm_go zp_P 261 (48, [(0, .ref r0), (1, .int i1), (2, .int i2)], [], lay, σ, 0, 0) out :=
  zm_blk_go (M := zd_261) rfl zs_261 81 (zp_261.drop 25) _ r (fun _ h => List.mem_of_mem_drop h) ((zr_261_48 lay σ r0 i1 i2).trans h) hg
/-! SubgroupWriterModel.firstCut()I -/
theorem zs_262 : zm_srt zp_262 = true := by decide +kernel
noncomputable def zb_262_0 (lay : zm_Lay) (σ : zm_Sig) (r0 : Nat) : Option (zm_St ⊕ zm_Out) :=
  some (.inl (2, [(0, .ref r0), (1, .int 0)], [], lay, σ, 0, 0))
set_option maxRecDepth 100000 in
theorem zr_262_0 (lay : zm_Lay) (σ : zm_Sig) (r0 : Nat) : zm_blk zM zp_262 (some .int) 0 0 zc_262 19 (zp_262.drop 0) (0, [(0, .ref r0)], [], lay, σ, 0, 0) = zb_262_0 lay σ r0 := rfl
theorem ze_262 {lay : zm_Lay} {σ : zm_Sig} {r0 : Nat} {out : zm_Out} {r : zm_St ⊕ zm_Out} (h : zb_262_0 lay σ r0 = some r) (hg : zm_end zp_P 262 out r) : zM 262 [.ref r0] lay σ = some out :=
  zm_mean_go (M := zd_262) rfl (Nat.le_of_ble_eq_true rfl) (zm_blk_go (M := zd_262) rfl zs_262 19 (zp_262.drop 0) _ r (fun _ h => List.mem_of_mem_drop h) ((zr_262_0 lay σ r0).trans h) hg)
noncomputable def zb_262_2 (lay : zm_Lay) (σ : zm_Sig) (r0 : Nat) (i1 : Int32) : Option (zm_St ⊕ zm_Out) :=
  (zm_is lay r0 10).bind fun _ =>
  zm_opt (σ.2.2 r0 21) (fun q1 =>
  (zm_gI lay σ q1 1).bind fun v2 =>
  if v2 ≤ i1 then (some (.inr (some (.int (-9)), lay, σ)))
  else ((zm_is lay r0 10).bind fun _ => (zm_ai (zM 254 [.ref r0, .int i1] lay σ)).bind fun q3 =>
   if q3.1 = 0 then (some (.inl (2, [(0, .ref r0), (1, .int (i1 + 1))], [], q3.2.1, q3.2.2, 0, 0)))
   else (some (.inr (some (.int i1), q3.2.1, q3.2.2))))) (none)
set_option maxRecDepth 100000 in
theorem zr_262_2 (lay : zm_Lay) (σ : zm_Sig) (r0 : Nat) (i1 : Int32) : zm_blk zM zp_262 (some .int) 0 0 zc_262 19 (zp_262.drop 2) (2, [(0, .ref r0), (1, .int i1)], [], lay, σ, 0, 0) = zb_262_2 lay σ r0 i1 := rfl
theorem zg_262_2 {lay : zm_Lay} {σ : zm_Sig} {r0 : Nat} {i1 : Int32} {out : zm_Out} {r : zm_St ⊕ zm_Out} (h : zb_262_2 lay σ r0 i1 = some r) (hg : zm_end zp_P 262 out r) : zm_go zp_P 262 (2, [(0, .ref r0), (1, .int i1)], [], lay, σ, 0, 0) out :=
  zm_blk_go (M := zd_262) rfl zs_262 19 (zp_262.drop 2) _ r (fun _ h => List.mem_of_mem_drop h) ((zr_262_2 lay σ r0 i1).trans h) hg
/-! SubgroupWriterModel.firstSolved()I -/
theorem zs_263 : zm_srt zp_263 = true := by decide +kernel
noncomputable def zb_263_0 (lay : zm_Lay) (σ : zm_Sig) (r0 : Nat) : Option (zm_St ⊕ zm_Out) :=
  some (.inl (2, [(0, .ref r0), (1, .int 1)], [], lay, σ, 0, 0))
set_option maxRecDepth 100000 in
theorem zr_263_0 (lay : zm_Lay) (σ : zm_Sig) (r0 : Nat) : zm_blk zM zp_263 (some .int) 0 0 zc_263 57 (zp_263.drop 0) (0, [(0, .ref r0)], [], lay, σ, 0, 0) = zb_263_0 lay σ r0 := rfl
theorem ze_263 {lay : zm_Lay} {σ : zm_Sig} {r0 : Nat} {out : zm_Out} {r : zm_St ⊕ zm_Out} (h : zb_263_0 lay σ r0 = some r) (hg : zm_end zp_P 263 out r) : zM 263 [.ref r0] lay σ = some out :=
  zm_mean_go (M := zd_263) rfl (Nat.le_of_ble_eq_true rfl) (zm_blk_go (M := zd_263) rfl zs_263 57 (zp_263.drop 0) _ r (fun _ h => List.mem_of_mem_drop h) ((zr_263_0 lay σ r0).trans h) hg)
noncomputable def zb_263_2 (lay : zm_Lay) (σ : zm_Sig) (r0 : Nat) (i1 : Int32) : Option (zm_St ⊕ zm_Out) :=
  if ((nI 16) : Int32) < i1 then (some (.inr (some (.int (-9)), lay, σ)))
  else (some (.inl (10, [(0, .ref r0), (1, .int i1), (2, .int 0)], [], lay, σ, 0, 0)))
set_option maxRecDepth 100000 in
theorem zr_263_2 (lay : zm_Lay) (σ : zm_Sig) (r0 : Nat) (i1 : Int32) : zm_blk zM zp_263 (some .int) 0 0 zc_263 57 (zp_263.drop 2) (2, [(0, .ref r0), (1, .int i1)], [], lay, σ, 0, 0) = zb_263_2 lay σ r0 i1 := rfl
theorem zg_263_2 {lay : zm_Lay} {σ : zm_Sig} {r0 : Nat} {i1 : Int32} {out : zm_Out} {r : zm_St ⊕ zm_Out} (h : zb_263_2 lay σ r0 i1 = some r) (hg : zm_end zp_P 263 out r) : zm_go zp_P 263 (2, [(0, .ref r0), (1, .int i1)], [], lay, σ, 0, 0) out :=
  zm_blk_go (M := zd_263) rfl zs_263 57 (zp_263.drop 2) _ r (fun _ h => List.mem_of_mem_drop h) ((zr_263_2 lay σ r0 i1).trans h) hg
noncomputable def zb_263_10 (lay : zm_Lay) (σ : zm_Sig) (r0 : Nat) (i1 : Int32) (i2 : Int32) : Option (zm_St ⊕ zm_Out) :=
  (zm_is lay r0 10).bind fun _ =>
  zm_opt (σ.2.2 r0 21) (fun q1 =>
  (zm_gI lay σ q1 1).bind fun v2 =>
  if v2 ≤ i2 then (some (.inl (2, [(0, .ref r0), (1, .int (i1 + 1))], [], lay, σ, 0, 0)))
  else (some (.inl (22, [(0, .ref r0), (1, .int i1), (2, .int i2), (3, .int 1)], [], lay, σ, 0, 0)))) (none)
set_option maxRecDepth 100000 in
theorem zr_263_10 (lay : zm_Lay) (σ : zm_Sig) (r0 : Nat) (i1 : Int32) (i2 : Int32) : zm_blk zM zp_263 (some .int) 0 0 zc_263 57 (zp_263.drop 7) (10, [(0, .ref r0), (1, .int i1), (2, .int i2)], [], lay, σ, 0, 0) = zb_263_10 lay σ r0 i1 i2 := rfl
theorem zg_263_10 {lay : zm_Lay} {σ : zm_Sig} {r0 : Nat} {i1 : Int32} {i2 : Int32} {out : zm_Out} {r : zm_St ⊕ zm_Out} (h : zb_263_10 lay σ r0 i1 i2 = some r) (hg : zm_end zp_P 263 out r) : zm_go zp_P 263 (10, [(0, .ref r0), (1, .int i1), (2, .int i2)], [], lay, σ, 0, 0) out :=
  zm_blk_go (M := zd_263) rfl zs_263 57 (zp_263.drop 7) _ r (fun _ h => List.mem_of_mem_drop h) ((zr_263_10 lay σ r0 i1 i2).trans h) hg
noncomputable def zb_263_22 (lay : zm_Lay) (σ : zm_Sig) (r0 : Nat) (i1 : Int32) (i2 : Int32) (i3 : Int32) : Option (zm_St ⊕ zm_Out) :=
  (zm_is lay r0 10).bind fun _ =>
  if (σ.1 r0 20) < i3 then (some (.inl (10, [(0, .ref r0), (1, .int i1), (2, .int (i2 + 1))], [], lay, σ, 0, 0)))
  else ((zm_is lay r0 10).bind fun _ =>
   zm_opt (σ.2.2 r0 21) (fun q1 =>
   (zm_gI lay σ q1 (((nI 3) : Int32) + i2)).bind fun v2 =>
   if ¬ v2 = i1 then (some (.inl (10, [(0, .ref r0), (1, .int i1), (2, .int (i2 + 1))], [], lay, σ, 0, 0)))
   else ((zm_is lay r0 10).bind fun _ => (zm_ai (zM 240 [.ref r0, .int i3] lay σ)).bind fun q3 =>
    if q3.1 = 0 then (some (.inl (22, [(0, .ref r0), (1, .int i1), (2, .int i2), (3, .int (i3 + 1))], [], q3.2.1, q3.2.2, 0, 0)))
    else ((zm_is q3.2.1 r0 10).bind fun _ => (zm_ai (zM 242 [.ref r0, .int i2, .int i3] q3.2.1 q3.2.2)).bind fun q4 =>
     if ¬ q4.1 = 1 then (some (.inl (22, [(0, .ref r0), (1, .int i1), (2, .int i2), (3, .int (i3 + 1))], [], q4.2.1, q4.2.2, 0, 0)))
     else ((zm_is q4.2.1 r0 10).bind fun _ => (zm_ai (zM 257 [.ref r0, .int i2, .int i3] q4.2.1 q4.2.2)).bind fun q5 =>
      if q5.1 = 0 then (some (.inl (22, [(0, .ref r0), (1, .int i1), (2, .int i2), (3, .int (i3 + 1))], [], q5.2.1, q5.2.2, 0, 0)))
      else (some (.inr (some (.int ((((nI 16) : Int32) * i2) + i3)), q5.2.1, q5.2.2))))))) (none))
set_option maxRecDepth 100000 in
theorem zr_263_22 (lay : zm_Lay) (σ : zm_Sig) (r0 : Nat) (i1 : Int32) (i2 : Int32) (i3 : Int32) : zm_blk zM zp_263 (some .int) 0 0 zc_263 57 (zp_263.drop 15) (22, [(0, .ref r0), (1, .int i1), (2, .int i2), (3, .int i3)], [], lay, σ, 0, 0) = zb_263_22 lay σ r0 i1 i2 i3 := rfl
theorem zg_263_22 {lay : zm_Lay} {σ : zm_Sig} {r0 : Nat} {i1 : Int32} {i2 : Int32} {i3 : Int32} {out : zm_Out} {r : zm_St ⊕ zm_Out} (h : zb_263_22 lay σ r0 i1 i2 i3 = some r) (hg : zm_end zp_P 263 out r) : zm_go zp_P 263 (22, [(0, .ref r0), (1, .int i1), (2, .int i2), (3, .int i3)], [], lay, σ, 0, 0) out :=
  zm_blk_go (M := zd_263) rfl zs_263 57 (zp_263.drop 15) _ r (fun _ h => List.mem_of_mem_drop h) ((zr_263_22 lay σ r0 i1 i2 i3).trans h) hg
/-! SubgroupWriterModel.undo(I)I -/
theorem zs_264 : zm_srt zp_264 = true := by decide +kernel
noncomputable def zb_264_0 (lay : zm_Lay) (σ : zm_Sig) (r0 : Nat) (i1 : Int32) : Option (zm_St ⊕ zm_Out) :=
  (zm_is lay r0 10).bind fun _ =>
  (zm_ai (zM 176 [.int i1, .int 0, .int (σ.1 r0 23)] lay σ)).bind fun q1 =>
  if ¬ q1.1 = 0 then ((zm_is q1.2.1 r0 10).bind fun _ =>
   if ((q1.2.2.1 r0 23) - i1) ≤ 0 then ((zm_is q1.2.1 r0 10).bind fun _ => (zm_fw q1.2.2 r0 23 0 (.int i1)).bind fun s2 =>
    some (.inr (some (.int ((q1.2.2.1 r0 23) - i1)), q1.2.1, s2)))
   else ((zm_is q1.2.1 r0 10).bind fun _ =>
    zm_opt (q1.2.2.2.2 r0 22) (fun q3 =>
    (zm_is q1.2.1 r0 10).bind fun _ =>
    zm_opt (q1.2.2.2.2 r0 21) (fun q4 =>
    (zm_av (zM 200 [.ref q3, .int (((nI 258) : Int32) * i1), .ref q4, .int 0, .int (nI 258)] q1.2.1 q1.2.2)).bind fun q5 =>
    (zm_is q5.1 r0 10).bind fun _ => (zm_av (zM 202 [.ref r0] q5.1 q5.2)).bind fun q6 =>
    (zm_is q6.1 r0 10).bind fun _ => (zm_fw q6.2 r0 23 0 (.int i1)).bind fun s7 =>
    some (.inr (some (.int ((q1.2.2.1 r0 23) - i1)), q6.1, s7))) (none)) (none)))
  else (some (.inr (some (.int (-1)), q1.2.1, q1.2.2)))
set_option maxRecDepth 100000 in
theorem zr_264_0 (lay : zm_Lay) (σ : zm_Sig) (r0 : Nat) (i1 : Int32) : zm_blk zM zp_264 (some .int) 0 0 zc_264 33 (zp_264.drop 0) (0, [(0, .ref r0), (1, .int i1)], [], lay, σ, 0, 0) = zb_264_0 lay σ r0 i1 := rfl
theorem ze_264 {lay : zm_Lay} {σ : zm_Sig} {r0 : Nat} {i1 : Int32} {out : zm_Out} {r : zm_St ⊕ zm_Out} (h : zb_264_0 lay σ r0 i1 = some r) (hg : zm_end zp_P 264 out r) : zM 264 [.ref r0, .int i1] lay σ = some out :=
  zm_mean_go (M := zd_264) rfl (Nat.le_of_ble_eq_true rfl) (zm_blk_go (M := zd_264) rfl zs_264 33 (zp_264.drop 0) _ r (fun _ h => List.mem_of_mem_drop h) ((zr_264_0 lay σ r0 i1).trans h) hg)
/-! SubgroupWriterModel.keep(I)I -/
theorem zs_265 : zm_srt zp_265 = true := by decide +kernel
noncomputable def zb_265_0 (lay : zm_Lay) (σ : zm_Sig) (r0 : Nat) (i1 : Int32) : Option (zm_St ⊕ zm_Out) :=
  (zm_ai (zM 176 [.int i1, .int 0, .int (nI 2)] lay σ)).bind fun q1 =>
  if ¬ q1.1 = 0 then ((zm_is q1.2.1 r0 10).bind fun _ =>
   if ¬ (q1.2.2.1 r0 4) = 0 then ((zm_is q1.2.1 r0 10).bind fun _ =>
    zm_opt (q1.2.2.2.2 r0 25) (fun q2 =>
    (zm_sZ q1.2.1 q1.2.2 q2 i1 1).bind fun s3 =>
    (zm_is q1.2.1 r0 10).bind fun _ =>
    zm_opt (s3.2.2 r0 24) (fun q4 =>
    (zm_is q1.2.1 r0 10).bind fun _ =>
    (zm_sI q1.2.1 s3 q4 (((nI 5419) : Int32) * i1) (s3.1 r0 23)).bind fun s5 =>
    (zm_is q1.2.1 r0 10).bind fun _ =>
    zm_opt (s5.2.2 r0 21) (fun q6 =>
    (zm_is q1.2.1 r0 10).bind fun _ =>
    zm_opt (s5.2.2 r0 24) (fun q7 =>
    (zm_av (zM 200 [.ref q6, .int 0, .ref q7, .int ((((nI 5419) : Int32) * i1) + 1), .int (nI 258)] q1.2.1 s5)).bind fun q8 =>
    (zm_is q8.1 r0 10).bind fun _ =>
    zm_opt (q8.2.2.2 r0 22) (fun q9 =>
    (zm_is q8.1 r0 10).bind fun _ =>
    zm_opt (q8.2.2.2 r0 24) (fun q10 =>
    (zm_av (zM 200 [.ref q9, .int 0, .ref q10, .int (((((nI 5419) : Int32) * i1) + 1) + (nI 258)), .int (nI 5160)] q8.1 q8.2)).bind fun q11 =>
    (zm_is q11.1 r0 10).bind fun _ =>
    some (.inr (some (.int (q11.2.1 r0 23)), q11.1, q11.2))) (none)) (none)) (none)) (none)) (none)) (none))
   else (some (.inr (some (.int (-4)), q1.2.1, q1.2.2))))
  else (some (.inr (some (.int (-1)), q1.2.1, q1.2.2)))
set_option maxRecDepth 100000 in
theorem zr_265_0 (lay : zm_Lay) (σ : zm_Sig) (r0 : Nat) (i1 : Int32) : zm_blk zM zp_265 (some .int) 0 0 zc_265 53 (zp_265.drop 0) (0, [(0, .ref r0), (1, .int i1)], [], lay, σ, 0, 0) = zb_265_0 lay σ r0 i1 := rfl
theorem ze_265 {lay : zm_Lay} {σ : zm_Sig} {r0 : Nat} {i1 : Int32} {out : zm_Out} {r : zm_St ⊕ zm_Out} (h : zb_265_0 lay σ r0 i1 = some r) (hg : zm_end zp_P 265 out r) : zM 265 [.ref r0, .int i1] lay σ = some out :=
  zm_mean_go (M := zd_265) rfl (Nat.le_of_ble_eq_true rfl) (zm_blk_go (M := zd_265) rfl zs_265 53 (zp_265.drop 0) _ r (fun _ h => List.mem_of_mem_drop h) ((zr_265_0 lay σ r0 i1).trans h) hg)
/-! SubgroupWriterModel.on(I)I -/
theorem zs_266 : zm_srt zp_266 = true := by decide +kernel
noncomputable def zb_266_0 (lay : zm_Lay) (σ : zm_Sig) (r0 : Nat) (i1 : Int32) : Option (zm_St ⊕ zm_Out) :=
  (zm_ai (zM 176 [.int i1, .int 0, .int (nI 2)] lay σ)).bind fun q1 =>
  if ¬ q1.1 = 0 then ((zm_is q1.2.1 r0 10).bind fun _ =>
   zm_opt (q1.2.2.2.2 r0 25) (fun q2 =>
   (zm_gZ q1.2.1 q1.2.2 q2 i1).bind fun v3 =>
   if ¬ v3 = 0 then ((zm_is q1.2.1 r0 10).bind fun _ =>
    zm_opt (q1.2.2.2.2 r0 24) (fun q4 =>
    (zm_gI q1.2.1 q1.2.2 q4 (((nI 5419) : Int32) * i1)).bind fun v5 =>
    (zm_is q1.2.1 r0 10).bind fun _ => (zm_fw q1.2.2 r0 23 0 (.int v5)).bind fun s6 =>
    (zm_is q1.2.1 r0 10).bind fun _ =>
    zm_opt (s6.2.2 r0 24) (fun q7 =>
    (zm_is q1.2.1 r0 10).bind fun _ =>
    zm_opt (s6.2.2 r0 21) (fun q8 =>
    (zm_av (zM 200 [.ref q7, .int ((((nI 5419) : Int32) * i1) + 1), .ref q8, .int 0, .int (nI 258)] q1.2.1 s6)).bind fun q9 =>
    (zm_is q9.1 r0 10).bind fun _ =>
    zm_opt (q9.2.2.2 r0 24) (fun q10 =>
    (zm_is q9.1 r0 10).bind fun _ =>
    zm_opt (q9.2.2.2 r0 22) (fun q11 =>
    (zm_av (zM 200 [.ref q10, .int (((((nI 5419) : Int32) * i1) + 1) + (nI 258)), .ref q11, .int 0, .int (nI 5160)] q9.1 q9.2)).bind fun q12 =>
    (zm_is q12.1 r0 10).bind fun _ => (zm_av (zM 202 [.ref r0] q12.1 q12.2)).bind fun q13 =>
    (zm_is q13.1 r0 10).bind fun _ =>
    some (.inr (some (.int (q13.2.1 r0 23)), q13.1, q13.2))) (none)) (none)) (none)) (none)) (none))
   else ((zm_is q1.2.1 r0 10).bind fun _ => (zm_ai (zM 177 [.ref r0, .int 1] q1.2.1 q1.2.2)).bind fun q14 =>
    some (.inr (some (.int q14.1), q14.2.1, q14.2.2)))) (none))
  else (some (.inr (some (.int (-1)), q1.2.1, q1.2.2)))
set_option maxRecDepth 100000 in
theorem zr_266_0 (lay : zm_Lay) (σ : zm_Sig) (r0 : Nat) (i1 : Int32) : zm_blk zM zp_266 (some .int) 0 0 zc_266 54 (zp_266.drop 0) (0, [(0, .ref r0), (1, .int i1)], [], lay, σ, 0, 0) = zb_266_0 lay σ r0 i1 := rfl
theorem ze_266 {lay : zm_Lay} {σ : zm_Sig} {r0 : Nat} {i1 : Int32} {out : zm_Out} {r : zm_St ⊕ zm_Out} (h : zb_266_0 lay σ r0 i1 = some r) (hg : zm_end zp_P 266 out r) : zM 266 [.ref r0, .int i1] lay σ = some out :=
  zm_mean_go (M := zd_266) rfl (Nat.le_of_ble_eq_true rfl) (zm_blk_go (M := zd_266) rfl zs_266 54 (zp_266.drop 0) _ r (fun _ h => List.mem_of_mem_drop h) ((zr_266_0 lay σ r0 i1).trans h) hg)
/-! SubgroupWriterModel.lots(II)I -/
theorem zs_267 : zm_srt zp_267 = true := by decide +kernel
noncomputable def zb_267_0 (lay : zm_Lay) (σ : zm_Sig) (r0 : Nat) (i1 : Int32) (i2 : Int32) : Option (zm_St ⊕ zm_Out) :=
  (zm_ai (zM 176 [.int i1, .int 1, .int (nI 10)] lay σ)).bind fun q1 =>
  if q1.1 = 0 then (some (.inr (some (.int (-1)), q1.2.1, q1.2.2)))
  else ((zm_ai (zM 176 [.int i2, .int 1, .int (Int32.ofNat 2147483646)] q1.2.1 q1.2.2)).bind fun q2 =>
   if ¬ q2.1 = 0 then ((zm_is q2.2.1 r0 10).bind fun _ =>
    if ¬ (q2.2.2.1 r0 4) = 0 then ((zm_is q2.2.1 r0 10).bind fun _ =>
     if ((q2.2.2.1 r0 23) + i1) ≤ (nI 20) then (some (.inl (53, [(0, .ref r0), (1, .int i1), (3, .long (i2 : Int32).toInt64), (5, .int 0)], [], q2.2.1, q2.2.2, 0, 0)))
     else (some (.inr (some (.int (-2)), q2.2.1, q2.2.2))))
    else (some (.inr (some (.int (-4)), q2.2.1, q2.2.2))))
   else (some (.inr (some (.int (-1)), q2.2.1, q2.2.2))))
set_option maxRecDepth 100000 in
theorem zr_267_0 (lay : zm_Lay) (σ : zm_Sig) (r0 : Nat) (i1 : Int32) (i2 : Int32) : zm_blk zM zp_267 (some .int) 0 0 zc_267 84 (zp_267.drop 0) (0, [(0, .ref r0), (1, .int i1), (2, .int i2)], [], lay, σ, 0, 0) = zb_267_0 lay σ r0 i1 i2 := rfl
theorem ze_267 {lay : zm_Lay} {σ : zm_Sig} {r0 : Nat} {i1 : Int32} {i2 : Int32} {out : zm_Out} {r : zm_St ⊕ zm_Out} (h : zb_267_0 lay σ r0 i1 i2 = some r) (hg : zm_end zp_P 267 out r) : zM 267 [.ref r0, .int i1, .int i2] lay σ = some out :=
  zm_mean_go (M := zd_267) rfl (Nat.le_of_ble_eq_true rfl) (zm_blk_go (M := zd_267) rfl zs_267 84 (zp_267.drop 0) _ r (fun _ h => List.mem_of_mem_drop h) ((zr_267_0 lay σ r0 i1 i2).trans h) hg)
noncomputable def zb_267_53 (lay : zm_Lay) (σ : zm_Sig) (r0 : Nat) (i1 : Int32) (l3 : Int64) (i5 : Int32) : Option (zm_St ⊕ zm_Out) :=
  if i1 ≤ i5 then ((zm_is lay r0 10).bind fun _ =>
   zm_opt (σ.2.2 r0 21) (fun q1 =>
   (zm_gI lay σ q1 1).bind fun v2 =>
   some (.inr (some (.int v2), lay, σ))) (none))
  else (if (Int64.ofNat 2147483647) = 0 then none
   else (some (.inl (69, [(0, .ref r0), (1, .int i1), (3, .long ((l3 * (Int64.ofNat 48271)) - (l3 * (Int64.ofNat 48271)) / (Int64.ofNat 2147483647) * (Int64.ofNat 2147483647))), (5, .int i5)], [], lay, σ, 0, 0))))
set_option maxRecDepth 100000 in
theorem zr_267_53 (lay : zm_Lay) (σ : zm_Sig) (r0 : Nat) (i1 : Int32) (l3 : Int64) (i5 : Int32) : zm_blk zM zp_267 (some .int) 0 0 zc_267 84 (zp_267.drop 30) (53, [(0, .ref r0), (1, .int i1), (3, .long l3), (5, .int i5)], [], lay, σ, 0, 0) = zb_267_53 lay σ r0 i1 l3 i5 := rfl
theorem zg_267_53 {lay : zm_Lay} {σ : zm_Sig} {r0 : Nat} {i1 : Int32} {l3 : Int64} {i5 : Int32} {out : zm_Out} {r : zm_St ⊕ zm_Out} (h : zb_267_53 lay σ r0 i1 l3 i5 = some r) (hg : zm_end zp_P 267 out r) : zm_go zp_P 267 (53, [(0, .ref r0), (1, .int i1), (3, .long l3), (5, .int i5)], [], lay, σ, 0, 0) out :=
  zm_blk_go (M := zd_267) rfl zs_267 84 (zp_267.drop 30) _ r (fun _ h => List.mem_of_mem_drop h) ((zr_267_53 lay σ r0 i1 l3 i5).trans h) hg
noncomputable def zb_267_69 (lay : zm_Lay) (σ : zm_Sig) (r0 : Nat) (i1 : Int32) (l3 : Int64) (i5 : Int32) : Option (zm_St ⊕ zm_Out) :=
  some (.inl (73, [(0, .ref r0), (1, .int i1), (3, .long l3), (5, .int i5), (6, .int (l3 : Int64).toInt32)], [], lay, σ, 0, 0))
set_option maxRecDepth 100000 in
theorem zr_267_69 (lay : zm_Lay) (σ : zm_Sig) (r0 : Nat) (i1 : Int32) (l3 : Int64) (i5 : Int32) : zm_blk zM zp_267 (some .int) 0 0 zc_267 84 (zp_267.drop 39) (69, [(0, .ref r0), (1, .int i1), (3, .long l3), (5, .int i5)], [], lay, σ, 0, 0) = zb_267_69 lay σ r0 i1 l3 i5 := rfl
theorem zg_267_69 {lay : zm_Lay} {σ : zm_Sig} {r0 : Nat} {i1 : Int32} {l3 : Int64} {i5 : Int32} {out : zm_Out} {r : zm_St ⊕ zm_Out} (h : zb_267_69 lay σ r0 i1 l3 i5 = some r) (hg : zm_end zp_P 267 out r) : zm_go zp_P 267 (69, [(0, .ref r0), (1, .int i1), (3, .long l3), (5, .int i5)], [], lay, σ, 0, 0) out :=
  zm_blk_go (M := zd_267) rfl zs_267 84 (zp_267.drop 39) _ r (fun _ h => List.mem_of_mem_drop h) ((zr_267_69 lay σ r0 i1 l3 i5).trans h) hg
noncomputable def zb_267_73 (lay : zm_Lay) (σ : zm_Sig) (r0 : Nat) (i1 : Int32) (l3 : Int64) (i5 : Int32) (i6 : Int32) : Option (zm_St ⊕ zm_Out) :=
  some (.inl (83, [(0, .ref r0), (1, .int i1), (3, .long l3), (5, .int i5), (6, .int i6), (7, .int ((i6 / (nI 8)) - (i6 / (nI 8)) / (nI 6) * (nI 6)))], [], lay, σ, 0, 0))
set_option maxRecDepth 100000 in
theorem zr_267_73 (lay : zm_Lay) (σ : zm_Sig) (r0 : Nat) (i1 : Int32) (l3 : Int64) (i5 : Int32) (i6 : Int32) : zm_blk zM zp_267 (some .int) 0 0 zc_267 84 (zp_267.drop 42) (73, [(0, .ref r0), (1, .int i1), (3, .long l3), (5, .int i5), (6, .int i6)], [], lay, σ, 0, 0) = zb_267_73 lay σ r0 i1 l3 i5 i6 := rfl
theorem zg_267_73 {lay : zm_Lay} {σ : zm_Sig} {r0 : Nat} {i1 : Int32} {l3 : Int64} {i5 : Int32} {i6 : Int32} {out : zm_Out} {r : zm_St ⊕ zm_Out} (h : zb_267_73 lay σ r0 i1 l3 i5 i6 = some r) (hg : zm_end zp_P 267 out r) : zm_go zp_P 267 (73, [(0, .ref r0), (1, .int i1), (3, .long l3), (5, .int i5), (6, .int i6)], [], lay, σ, 0, 0) out :=
  zm_blk_go (M := zd_267) rfl zs_267 84 (zp_267.drop 42) _ r (fun _ h => List.mem_of_mem_drop h) ((zr_267_73 lay σ r0 i1 l3 i5 i6).trans h) hg
noncomputable def zb_267_83 (lay : zm_Lay) (σ : zm_Sig) (r0 : Nat) (i1 : Int32) (l3 : Int64) (i5 : Int32) (i6 : Int32) (i7 : Int32) : Option (zm_St ⊕ zm_Out) :=
  (zm_is lay r0 10).bind fun _ => (zm_av (zM 246 [.ref r0] lay σ)).bind fun q1 =>
  (zm_is q1.1 r0 10).bind fun _ =>
  zm_opt (q1.2.2.2 r0 21) (fun q2 =>
  (zm_gI q1.1 q1.2 q2 1).bind fun v3 =>
  if (0 : Int32) < v3 then ((zm_is q1.1 r0 10).bind fun _ =>
   zm_opt (q1.2.2.2 r0 21) (fun q4 =>
   (zm_gI q1.1 q1.2 q4 1).bind fun v5 =>
   if ¬ v5 = 0 then ((zm_is q1.1 r0 10).bind fun _ =>
    zm_opt (q1.2.2.2 r0 21) (fun q6 =>
    (zm_gI q1.1 q1.2 q6 1).bind fun v7 =>
    if v7 = 0 then none
    else ((zm_is q1.1 r0 10).bind fun _ => (zm_av (zM 268 [.ref r0, .int i7, .int ((i6 / (nI 64)) - (i6 / (nI 64)) / v7 * v7)] q1.1 q1.2)).bind fun q8 =>
    some (.inl (53, [(0, .ref r0), (1, .int i1), (3, .long l3), (5, .int (i5 + 1))], [], q8.1, q8.2, 0, 0)))) (none))
   else ((zm_is q1.1 r0 10).bind fun _ => (zm_av (zM 268 [.ref r0, .int i7, .int 0] q1.1 q1.2)).bind fun q9 =>
    some (.inl (53, [(0, .ref r0), (1, .int i1), (3, .long l3), (5, .int (i5 + 1))], [], q9.1, q9.2, 0, 0)))) (none))
  else (if ¬ i7 = (nI 5) then (some (.inl (53, [(0, .ref r0), (1, .int i1), (3, .long l3), (5, .int (i5 + 1))], [], q1.1, q1.2, 0, 0)))
   else ((zm_is q1.1 r0 10).bind fun _ =>
    zm_opt (q1.2.2.2 r0 21) (fun q10 =>
    (zm_gI q1.1 q1.2 q10 1).bind fun v11 =>
    if ¬ v11 = 0 then ((zm_is q1.1 r0 10).bind fun _ =>
     zm_opt (q1.2.2.2 r0 21) (fun q12 =>
     (zm_gI q1.1 q1.2 q12 1).bind fun v13 =>
     if v13 = 0 then none
     else ((zm_is q1.1 r0 10).bind fun _ => (zm_av (zM 268 [.ref r0, .int i7, .int ((i6 / (nI 64)) - (i6 / (nI 64)) / v13 * v13)] q1.1 q1.2)).bind fun q14 =>
     some (.inl (53, [(0, .ref r0), (1, .int i1), (3, .long l3), (5, .int (i5 + 1))], [], q14.1, q14.2, 0, 0)))) (none))
    else ((zm_is q1.1 r0 10).bind fun _ => (zm_av (zM 268 [.ref r0, .int i7, .int 0] q1.1 q1.2)).bind fun q15 =>
     some (.inl (53, [(0, .ref r0), (1, .int i1), (3, .long l3), (5, .int (i5 + 1))], [], q15.1, q15.2, 0, 0)))) (none)))) (none)
set_option maxRecDepth 100000 in
theorem zr_267_83 (lay : zm_Lay) (σ : zm_Sig) (r0 : Nat) (i1 : Int32) (l3 : Int64) (i5 : Int32) (i6 : Int32) (i7 : Int32) : zm_blk zM zp_267 (some .int) 0 0 zc_267 84 (zp_267.drop 48) (83, [(0, .ref r0), (1, .int i1), (3, .long l3), (5, .int i5), (6, .int i6), (7, .int i7)], [], lay, σ, 0, 0) = zb_267_83 lay σ r0 i1 l3 i5 i6 i7 := rfl
theorem zg_267_83 {lay : zm_Lay} {σ : zm_Sig} {r0 : Nat} {i1 : Int32} {l3 : Int64} {i5 : Int32} {i6 : Int32} {i7 : Int32} {out : zm_Out} {r : zm_St ⊕ zm_Out} (h : zb_267_83 lay σ r0 i1 l3 i5 i6 i7 = some r) (hg : zm_end zp_P 267 out r) : zm_go zp_P 267 (83, [(0, .ref r0), (1, .int i1), (3, .long l3), (5, .int i5), (6, .int i6), (7, .int i7)], [], lay, σ, 0, 0) out :=
  zm_blk_go (M := zd_267) rfl zs_267 84 (zp_267.drop 48) _ r (fun _ h => List.mem_of_mem_drop h) ((zr_267_83 lay σ r0 i1 l3 i5 i6 i7).trans h) hg
/-! SubgroupWriterModel.does(II)V -/
theorem zs_268 : zm_srt zp_268 = true := by decide +kernel
noncomputable def zb_268_0 (lay : zm_Lay) (σ : zm_Sig) (r0 : Nat) (i1 : Int32) (i2 : Int32) : Option (zm_St ⊕ zm_Out) :=
  if i1 = 0 then ((zm_is lay r0 10).bind fun _ =>
   zm_opt (σ.2.2 r0 21) (fun q1 =>
   (zm_gI lay σ q1 (((nI 3) : Int32) + i2)).bind fun v2 =>
   if v2 ≤ 0 then (some (.inr (none, lay, σ)))
   else ((zm_is lay r0 10).bind fun _ => (zm_av (zM 248 [.ref r0, .int i2] lay σ)).bind fun q3 =>
    some (.inr (none, q3.1, q3.2)))) (none))
  else if i1 = 1 then ((zm_is lay r0 10).bind fun _ => (zm_av (zM 250 [.ref r0, .int i2] lay σ)).bind fun q4 =>
   some (.inr (none, q4.1, q4.2)))
  else if i1 = (nI 2) then ((zm_is lay r0 10).bind fun _ =>
   zm_opt (σ.2.2 r0 21) (fun q5 =>
   (zm_gI lay σ q5 1).bind fun v6 =>
   if v6 = 0 then none
   else ((zm_is lay r0 10).bind fun _ => (zm_av (zM 252 [.ref r0, .int i2, .int ((i2 + 1) - (i2 + 1) / v6 * v6)] lay σ)).bind fun q7 =>
   (zm_is q7.1 r0 10).bind fun _ =>
   zm_opt (q7.2.2.2 r0 21) (fun q8 =>
   (zm_gI q7.1 q7.2 q8 1).bind fun v9 =>
   if v9 ≤ 1 then (some (.inr (none, q7.1, q7.2)))
   else ((zm_is q7.1 r0 10).bind fun _ =>
    if ((nI 16) : Int32) < (q7.2.1 r0 40) then (some (.inr (none, q7.1, q7.2)))
    else ((zm_is q7.1 r0 10).bind fun _ => (zm_av (zM 214 [.ref r0, .int i2] q7.1 q7.2)).bind fun q10 =>
     some (.inr (none, q10.1, q10.2))))) (none))) (none))
  else if i1 = (nI 3) then ((zm_is lay r0 10).bind fun _ => (zm_ai (zM 254 [.ref r0, .int i2] lay σ)).bind fun q11 =>
   if q11.1 = 0 then (some (.inr (none, q11.2.1, q11.2.2)))
   else ((zm_is q11.2.1 r0 10).bind fun _ => (zm_av (zM 255 [.ref r0, .int i2] q11.2.1 q11.2.2)).bind fun q12 =>
    some (.inr (none, q12.1, q12.2))))
  else if i1 = (nI 4) then ((zm_is lay r0 10).bind fun _ => (zm_av (zM 269 [.ref r0, .int i2] lay σ)).bind fun q13 =>
   some (.inr (none, q13.1, q13.2)))
  else ((zm_is lay r0 10).bind fun _ =>
   zm_opt (σ.2.2 r0 21) (fun q14 =>
   (zm_gI lay σ q14 0).bind fun v15 =>
   (zm_is lay r0 10).bind fun _ => (zm_av (zM 201 [.ref r0, .int ((v15 + 1) - (v15 + 1) / (nI 3) * (nI 3))] lay σ)).bind fun q16 =>
   some (.inr (none, q16.1, q16.2))) (none))
set_option maxRecDepth 100000 in
theorem zr_268_0 (lay : zm_Lay) (σ : zm_Sig) (r0 : Nat) (i1 : Int32) (i2 : Int32) : zm_blk zM zp_268 none 0 0 zc_268 66 (zp_268.drop 0) (0, [(0, .ref r0), (1, .int i1), (2, .int i2)], [], lay, σ, 0, 0) = zb_268_0 lay σ r0 i1 i2 := rfl
theorem ze_268 {lay : zm_Lay} {σ : zm_Sig} {r0 : Nat} {i1 : Int32} {i2 : Int32} {out : zm_Out} {r : zm_St ⊕ zm_Out} (h : zb_268_0 lay σ r0 i1 i2 = some r) (hg : zm_end zp_P 268 out r) : zM 268 [.ref r0, .int i1, .int i2] lay σ = some out :=
  zm_mean_go (M := zd_268) rfl (Nat.le_of_ble_eq_true rfl) (zm_blk_go (M := zd_268) rfl zs_268 66 (zp_268.drop 0) _ r (fun _ h => List.mem_of_mem_drop h) ((zr_268_0 lay σ r0 i1 i2).trans h) hg)
/-! SubgroupWriterModel.solvesFirst(I)V -/
theorem zs_269 : zm_srt zp_269 = true := by decide +kernel
noncomputable def zb_269_0 (lay : zm_Lay) (σ : zm_Sig) (r0 : Nat) (i1 : Int32) : Option (zm_St ⊕ zm_Out) :=
  some (.inl (2, [(0, .ref r0), (1, .int i1), (2, .int 1)], [], lay, σ, 0, 0))
set_option maxRecDepth 100000 in
theorem zr_269_0 (lay : zm_Lay) (σ : zm_Sig) (r0 : Nat) (i1 : Int32) : zm_blk zM zp_269 none 0 0 zc_269 30 (zp_269.drop 0) (0, [(0, .ref r0), (1, .int i1)], [], lay, σ, 0, 0) = zb_269_0 lay σ r0 i1 := rfl
theorem ze_269 {lay : zm_Lay} {σ : zm_Sig} {r0 : Nat} {i1 : Int32} {out : zm_Out} {r : zm_St ⊕ zm_Out} (h : zb_269_0 lay σ r0 i1 = some r) (hg : zm_end zp_P 269 out r) : zM 269 [.ref r0, .int i1] lay σ = some out :=
  zm_mean_go (M := zd_269) rfl (Nat.le_of_ble_eq_true rfl) (zm_blk_go (M := zd_269) rfl zs_269 30 (zp_269.drop 0) _ r (fun _ h => List.mem_of_mem_drop h) ((zr_269_0 lay σ r0 i1).trans h) hg)
noncomputable def zb_269_2 (lay : zm_Lay) (σ : zm_Sig) (r0 : Nat) (i1 : Int32) (i2 : Int32) : Option (zm_St ⊕ zm_Out) :=
  (zm_is lay r0 10).bind fun _ =>
  if (σ.1 r0 20) < i2 then (some (.inr (none, lay, σ)))
  else ((zm_is lay r0 10).bind fun _ => (zm_ai (zM 240 [.ref r0, .int i2] lay σ)).bind fun q1 =>
   if q1.1 = 0 then (some (.inl (2, [(0, .ref r0), (1, .int i1), (2, .int (i2 + 1))], [], q1.2.1, q1.2.2, 0, 0)))
   else ((zm_is q1.2.1 r0 10).bind fun _ => (zm_ai (zM 242 [.ref r0, .int i1, .int i2] q1.2.1 q1.2.2)).bind fun q2 =>
    if ¬ q2.1 = 1 then (some (.inl (2, [(0, .ref r0), (1, .int i1), (2, .int (i2 + 1))], [], q2.2.1, q2.2.2, 0, 0)))
    else ((zm_is q2.2.1 r0 10).bind fun _ => (zm_ai (zM 257 [.ref r0, .int i1, .int i2] q2.2.1 q2.2.2)).bind fun q3 =>
     if q3.1 = 0 then (some (.inr (none, q3.2.1, q3.2.2)))
     else ((zm_is q3.2.1 r0 10).bind fun _ => (zm_av (zM 260 [.ref r0, .int i1, .int i2] q3.2.1 q3.2.2)).bind fun q4 =>
      some (.inr (none, q4.1, q4.2))))))
set_option maxRecDepth 100000 in
theorem zr_269_2 (lay : zm_Lay) (σ : zm_Sig) (r0 : Nat) (i1 : Int32) (i2 : Int32) : zm_blk zM zp_269 none 0 0 zc_269 30 (zp_269.drop 2) (2, [(0, .ref r0), (1, .int i1), (2, .int i2)], [], lay, σ, 0, 0) = zb_269_2 lay σ r0 i1 i2 := rfl
theorem zg_269_2 {lay : zm_Lay} {σ : zm_Sig} {r0 : Nat} {i1 : Int32} {i2 : Int32} {out : zm_Out} {r : zm_St ⊕ zm_Out} (h : zb_269_2 lay σ r0 i1 i2 = some r) (hg : zm_end zp_P 269 out r) : zm_go zp_P 269 (2, [(0, .ref r0), (1, .int i1), (2, .int i2)], [], lay, σ, 0, 0) out :=
  zm_blk_go (M := zd_269) rfl zs_269 30 (zp_269.drop 2) _ r (fun _ h => List.mem_of_mem_drop h) ((zr_269_2 lay σ r0 i1 i2).trans h) hg
/-! SubgroupWriterModel.rank(I)I -/
theorem zs_270 : zm_srt zp_270 = true := by decide +kernel
noncomputable def zb_270_0 (lay : zm_Lay) (σ : zm_Sig) (r0 : Nat) (i1 : Int32) : Option (zm_St ⊕ zm_Out) :=
  (zm_ai (zM 271 [.int i1] lay σ)).bind fun q1 =>
  if ¬ q1.1 = 0 then ((zm_is q1.2.1 r0 10).bind fun _ =>
   if ¬ (q1.2.2.1 r0 4) = 0 then (some (.inl (21, [(0, .ref r0), (1, .int i1), (2, .int 0)], [], q1.2.1, q1.2.2, 0, 0)))
   else (some (.inr (some (.int (-4)), q1.2.1, q1.2.2))))
  else (some (.inr (some (.int (-1)), q1.2.1, q1.2.2)))
set_option maxRecDepth 100000 in
theorem zr_270_0 (lay : zm_Lay) (σ : zm_Sig) (r0 : Nat) (i1 : Int32) : zm_blk zM zp_270 (some .int) 0 0 zc_270 70 (zp_270.drop 0) (0, [(0, .ref r0), (1, .int i1)], [], lay, σ, 0, 0) = zb_270_0 lay σ r0 i1 := rfl
theorem ze_270 {lay : zm_Lay} {σ : zm_Sig} {r0 : Nat} {i1 : Int32} {out : zm_Out} {r : zm_St ⊕ zm_Out} (h : zb_270_0 lay σ r0 i1 = some r) (hg : zm_end zp_P 270 out r) : zM 270 [.ref r0, .int i1] lay σ = some out :=
  zm_mean_go (M := zd_270) rfl (Nat.le_of_ble_eq_true rfl) (zm_blk_go (M := zd_270) rfl zs_270 70 (zp_270.drop 0) _ r (fun _ h => List.mem_of_mem_drop h) ((zr_270_0 lay σ r0 i1).trans h) hg)
noncomputable def zb_270_21 (lay : zm_Lay) (σ : zm_Sig) (r0 : Nat) (i1 : Int32) (i2 : Int32) : Option (zm_St ⊕ zm_Out) :=
  (zm_is lay r0 10).bind fun _ =>
  zm_opt (σ.2.2 r0 21) (fun q1 =>
  (zm_gI lay σ q1 1).bind fun v2 =>
  if v2 ≤ i2 then ((zm_is lay r0 10).bind fun _ =>
   zm_opt (σ.2.2 r0 21) (fun q3 =>
   (zm_gI lay σ q3 1).bind fun v4 =>
   (zm_is lay r0 10).bind fun _ =>
   (zm_is lay r0 10).bind fun _ => (zm_ai (zM 272 [.ref r0, .int v4, .int (σ.1 r0 20), .int i1] lay σ)).bind fun q5 =>
   (zm_is q5.2.1 r0 10).bind fun _ =>
   zm_opt (q5.2.2.2.2 r0 21) (fun q6 =>
   (zm_gI q5.2.1 q5.2.2 q6 (nI 2)).bind fun v7 =>
   (zm_ai (zM 273 [.int v7] q5.2.1 q5.2.2)).bind fun q8 =>
   (zm_is q8.2.1 r0 10).bind fun _ => (zm_ai (zM 181 [.ref r0, .int (q8.1 - q5.1), .int q5.1] q8.2.1 q8.2.2)).bind fun q9 =>
   some (.inr (some (.int q9.1), q9.2.1, q9.2.2))) (none)) (none))
  else (some (.inl (33, [(0, .ref r0), (1, .int i1), (2, .int i2), (3, .int 1)], [], lay, σ, 0, 0)))) (none)
set_option maxRecDepth 100000 in
theorem zr_270_21 (lay : zm_Lay) (σ : zm_Sig) (r0 : Nat) (i1 : Int32) (i2 : Int32) : zm_blk zM zp_270 (some .int) 0 0 zc_270 70 (zp_270.drop 12) (21, [(0, .ref r0), (1, .int i1), (2, .int i2)], [], lay, σ, 0, 0) = zb_270_21 lay σ r0 i1 i2 := rfl
theorem zg_270_21 {lay : zm_Lay} {σ : zm_Sig} {r0 : Nat} {i1 : Int32} {i2 : Int32} {out : zm_Out} {r : zm_St ⊕ zm_Out} (h : zb_270_21 lay σ r0 i1 i2 = some r) (hg : zm_end zp_P 270 out r) : zm_go zp_P 270 (21, [(0, .ref r0), (1, .int i1), (2, .int i2)], [], lay, σ, 0, 0) out :=
  zm_blk_go (M := zd_270) rfl zs_270 70 (zp_270.drop 12) _ r (fun _ h => List.mem_of_mem_drop h) ((zr_270_21 lay σ r0 i1 i2).trans h) hg
noncomputable def zb_270_33 (lay : zm_Lay) (σ : zm_Sig) (r0 : Nat) (i1 : Int32) (i2 : Int32) (i3 : Int32) : Option (zm_St ⊕ zm_Out) :=
  (zm_is lay r0 10).bind fun _ =>
  if (σ.1 r0 20) < i3 then (some (.inl (21, [(0, .ref r0), (1, .int i1), (2, .int (i2 + 1))], [], lay, σ, 0, 0)))
  else ((zm_is lay r0 10).bind fun _ =>
   zm_opt (σ.2.2 r0 44) (fun q1 =>
   (zm_is lay r0 10).bind fun _ => (zm_ai (zM 241 [.ref r0, .int i2, .int i3] lay σ)).bind fun q2 =>
   if i1 = 0 then none
   else (if i1 = 0 then none
   else ((zm_sI q2.2.1 q2.2.2 q1 (((((nI 16) : Int32) * i2) + i3) - 1) (((q2.1 - q2.1 / i1 * i1) + i1) - ((q2.1 - q2.1 / i1 * i1) + i1) / i1 * i1)).bind fun s3 =>
   some (.inl (33, [(0, .ref r0), (1, .int i1), (2, .int i2), (3, .int (i3 + 1))], [], q2.2.1, s3, 0, 0))))) (none))
set_option maxRecDepth 100000 in
theorem zr_270_33 (lay : zm_Lay) (σ : zm_Sig) (r0 : Nat) (i1 : Int32) (i2 : Int32) (i3 : Int32) : zm_blk zM zp_270 (some .int) 0 0 zc_270 70 (zp_270.drop 20) (33, [(0, .ref r0), (1, .int i1), (2, .int i2), (3, .int i3)], [], lay, σ, 0, 0) = zb_270_33 lay σ r0 i1 i2 i3 := rfl
theorem zg_270_33 {lay : zm_Lay} {σ : zm_Sig} {r0 : Nat} {i1 : Int32} {i2 : Int32} {i3 : Int32} {out : zm_Out} {r : zm_St ⊕ zm_Out} (h : zb_270_33 lay σ r0 i1 i2 i3 = some r) (hg : zm_end zp_P 270 out r) : zm_go zp_P 270 (33, [(0, .ref r0), (1, .int i1), (2, .int i2), (3, .int i3)], [], lay, σ, 0, 0) out :=
  zm_blk_go (M := zd_270) rfl zs_270 70 (zp_270.drop 20) _ r (fun _ h => List.mem_of_mem_drop h) ((zr_270_33 lay σ r0 i1 i2 i3).trans h) hg
/-! SubgroupWriterModel.isPrime(I)Z -/
theorem zs_271 : zm_srt zp_271 = true := by decide +kernel
noncomputable def zb_271_0 (lay : zm_Lay) (σ : zm_Sig) (i0 : Int32) : Option (zm_St ⊕ zm_Out) :=
  if i0 = (nI 2) then (some (.inr (some (.int 1), lay, σ)))
  else (if i0 = (nI 3) then (some (.inr (some (.int 1), lay, σ)))
   else (if i0 = (nI 5) then (some (.inr (some (.int 1), lay, σ)))
    else (if ¬ i0 = (nI 7) then (some (.inr (some (.int 0), lay, σ)))
     else (some (.inr (some (.int 1), lay, σ))))))
set_option maxRecDepth 100000 in
theorem zr_271_0 (lay : zm_Lay) (σ : zm_Sig) (i0 : Int32) : zm_blk zM zp_271 (some .boolean) 0 0 zc_271 17 (zp_271.drop 0) (0, [(0, .int i0)], [], lay, σ, 0, 0) = zb_271_0 lay σ i0 := rfl
theorem ze_271 {lay : zm_Lay} {σ : zm_Sig} {i0 : Int32} {out : zm_Out} {r : zm_St ⊕ zm_Out} (h : zb_271_0 lay σ i0 = some r) (hg : zm_end zp_P 271 out r) : zM 271 [.int i0] lay σ = some out :=
  zm_mean_go (M := zd_271) rfl (Nat.le_of_ble_eq_true rfl) (zm_blk_go (M := zd_271) rfl zs_271 17 (zp_271.drop 0) _ r (fun _ h => List.mem_of_mem_drop h) ((zr_271_0 lay σ i0).trans h) hg)
/-! SubgroupWriterModel.rankOf(III)I -/
theorem zs_272 : zm_srt zp_272 = true := by decide +kernel
noncomputable def zb_272_0 (lay : zm_Lay) (σ : zm_Sig) (r0 : Nat) (i1 : Int32) (i2 : Int32) (i3 : Int32) : Option (zm_St ⊕ zm_Out) :=
  some (.inl (6, [(0, .ref r0), (1, .int i1), (2, .int i2), (3, .int i3), (4, .int 0), (5, .int 0)], [], lay, σ, 0, 0))
set_option maxRecDepth 100000 in
theorem zr_272_0 (lay : zm_Lay) (σ : zm_Sig) (r0 : Nat) (i1 : Int32) (i2 : Int32) (i3 : Int32) : zm_blk zM zp_272 (some .int) 0 0 zc_272 140 (zp_272.drop 0) (0, [(0, .ref r0), (1, .int i1), (2, .int i2), (3, .int i3)], [], lay, σ, 0, 0) = zb_272_0 lay σ r0 i1 i2 i3 := rfl
theorem ze_272 {lay : zm_Lay} {σ : zm_Sig} {r0 : Nat} {i1 : Int32} {i2 : Int32} {i3 : Int32} {out : zm_Out} {r : zm_St ⊕ zm_Out} (h : zb_272_0 lay σ r0 i1 i2 i3 = some r) (hg : zm_end zp_P 272 out r) : zM 272 [.ref r0, .int i1, .int i2, .int i3] lay σ = some out :=
  zm_mean_go (M := zd_272) rfl (Nat.le_of_ble_eq_true rfl) (zm_blk_go (M := zd_272) rfl zs_272 140 (zp_272.drop 0) _ r (fun _ h => List.mem_of_mem_drop h) ((zr_272_0 lay σ r0 i1 i2 i3).trans h) hg)
noncomputable def zb_272_6 (lay : zm_Lay) (σ : zm_Sig) (r0 : Nat) (i1 : Int32) (i2 : Int32) (i3 : Int32) (i4 : Int32) (i5 : Int32) : Option (zm_St ⊕ zm_Out) :=
  if i2 ≤ i5 then (some (.inr (some (.int i4), lay, σ)))
  else (some (.inl (16, [(0, .ref r0), (1, .int i1), (2, .int i2), (3, .int i3), (4, .int i4), (5, .int i5), (6, .int i4)], [], lay, σ, 0, 0)))
set_option maxRecDepth 100000 in
theorem zr_272_6 (lay : zm_Lay) (σ : zm_Sig) (r0 : Nat) (i1 : Int32) (i2 : Int32) (i3 : Int32) (i4 : Int32) (i5 : Int32) : zm_blk zM zp_272 (some .int) 0 0 zc_272 140 (zp_272.drop 4) (6, [(0, .ref r0), (1, .int i1), (2, .int i2), (3, .int i3), (4, .int i4), (5, .int i5)], [], lay, σ, 0, 0) = zb_272_6 lay σ r0 i1 i2 i3 i4 i5 := rfl
theorem zg_272_6 {lay : zm_Lay} {σ : zm_Sig} {r0 : Nat} {i1 : Int32} {i2 : Int32} {i3 : Int32} {i4 : Int32} {i5 : Int32} {out : zm_Out} {r : zm_St ⊕ zm_Out} (h : zb_272_6 lay σ r0 i1 i2 i3 i4 i5 = some r) (hg : zm_end zp_P 272 out r) : zm_go zp_P 272 (6, [(0, .ref r0), (1, .int i1), (2, .int i2), (3, .int i3), (4, .int i4), (5, .int i5)], [], lay, σ, 0, 0) out :=
  zm_blk_go (M := zd_272) rfl zs_272 140 (zp_272.drop 4) _ r (fun _ h => List.mem_of_mem_drop h) ((zr_272_6 lay σ r0 i1 i2 i3 i4 i5).trans h) hg
noncomputable def zb_272_16 (lay : zm_Lay) (σ : zm_Sig) (r0 : Nat) (i1 : Int32) (i2 : Int32) (i3 : Int32) (i4 : Int32) (i5 : Int32) (i6 : Int32) : Option (zm_St ⊕ zm_Out) :=
  if i1 ≤ i6 then (if i1 ≤ i6 then (some (.inl (6, [(0, .ref r0), (1, .int i1), (2, .int i2), (3, .int i3), (4, .int i4), (5, .int (i5 + 1))], [], lay, σ, 0, 0)))
   else (some (.inl (53, [(0, .ref r0), (1, .int i1), (2, .int i2), (3, .int i3), (4, .int i4), (5, .int i5), (6, .int i6), (7, .int 0)], [], lay, σ, 0, 0))))
  else ((zm_is lay r0 10).bind fun _ =>
   zm_opt (σ.2.2 r0 44) (fun q1 =>
   (zm_gI lay σ q1 ((((nI 16) : Int32) * i6) + i5)).bind fun v2 =>
   if ¬ v2 = 0 then (if i1 ≤ i6 then (some (.inl (6, [(0, .ref r0), (1, .int i1), (2, .int i2), (3, .int i3), (4, .int i4), (5, .int (i5 + 1))], [], lay, σ, 0, 0)))
    else (some (.inl (53, [(0, .ref r0), (1, .int i1), (2, .int i2), (3, .int i3), (4, .int i4), (5, .int i5), (6, .int i6), (7, .int 0)], [], lay, σ, 0, 0))))
   else (some (.inl (16, [(0, .ref r0), (1, .int i1), (2, .int i2), (3, .int i3), (4, .int i4), (5, .int i5), (6, .int (i6 + 1))], [], lay, σ, 0, 0)))) (none))
set_option maxRecDepth 100000 in
theorem zr_272_16 (lay : zm_Lay) (σ : zm_Sig) (r0 : Nat) (i1 : Int32) (i2 : Int32) (i3 : Int32) (i4 : Int32) (i5 : Int32) (i6 : Int32) : zm_blk zM zp_272 (some .int) 0 0 zc_272 140 (zp_272.drop 9) (16, [(0, .ref r0), (1, .int i1), (2, .int i2), (3, .int i3), (4, .int i4), (5, .int i5), (6, .int i6)], [], lay, σ, 0, 0) = zb_272_16 lay σ r0 i1 i2 i3 i4 i5 i6 := rfl
theorem zg_272_16 {lay : zm_Lay} {σ : zm_Sig} {r0 : Nat} {i1 : Int32} {i2 : Int32} {i3 : Int32} {i4 : Int32} {i5 : Int32} {i6 : Int32} {out : zm_Out} {r : zm_St ⊕ zm_Out} (h : zb_272_16 lay σ r0 i1 i2 i3 i4 i5 i6 = some r) (hg : zm_end zp_P 272 out r) : zm_go zp_P 272 (16, [(0, .ref r0), (1, .int i1), (2, .int i2), (3, .int i3), (4, .int i4), (5, .int i5), (6, .int i6)], [], lay, σ, 0, 0) out :=
  zm_blk_go (M := zd_272) rfl zs_272 140 (zp_272.drop 9) _ r (fun _ h => List.mem_of_mem_drop h) ((zr_272_16 lay σ r0 i1 i2 i3 i4 i5 i6).trans h) hg
noncomputable def zb_272_53 (lay : zm_Lay) (σ : zm_Sig) (r0 : Nat) (i1 : Int32) (i2 : Int32) (i3 : Int32) (i4 : Int32) (i5 : Int32) (i6 : Int32) (i7 : Int32) : Option (zm_St ⊕ zm_Out) :=
  if i2 ≤ i7 then (some (.inl (127, [(0, .ref r0), (1, .int i1), (2, .int i2), (3, .int i3), (4, .int i4), (5, .int i5), (7, .int (i4 + 1))], [], lay, σ, 0, 0)))
  else ((zm_is lay r0 10).bind fun _ =>
   zm_opt (σ.2.2 r0 44) (fun q1 =>
   (zm_gI lay σ q1 ((((nI 16) : Int32) * i6) + i7)).bind fun v2 =>
   (zm_is lay r0 10).bind fun _ =>
   zm_opt (σ.2.2 r0 44) (fun q3 =>
   (zm_is lay r0 10).bind fun _ =>
   zm_opt (σ.2.2 r0 44) (fun q4 =>
   (zm_gI lay σ q4 ((((nI 16) : Int32) * i4) + i7)).bind fun v5 =>
   (zm_sI lay σ q3 ((((nI 16) : Int32) * i6) + i7) v5).bind fun s6 =>
   (zm_is lay r0 10).bind fun _ =>
   zm_opt (s6.2.2 r0 44) (fun q7 =>
   (zm_sI lay s6 q7 ((((nI 16) : Int32) * i4) + i7) v2).bind fun s8 =>
   some (.inl (53, [(0, .ref r0), (1, .int i1), (2, .int i2), (3, .int i3), (4, .int i4), (5, .int i5), (6, .int i6), (7, .int (i7 + 1))], [], lay, s8, 0, 0))) (none)) (none)) (none)) (none))
set_option maxRecDepth 100000 in
theorem zr_272_53 (lay : zm_Lay) (σ : zm_Sig) (r0 : Nat) (i1 : Int32) (i2 : Int32) (i3 : Int32) (i4 : Int32) (i5 : Int32) (i6 : Int32) (i7 : Int32) : zm_blk zM zp_272 (some .int) 0 0 zc_272 140 (zp_272.drop 28) (53, [(0, .ref r0), (1, .int i1), (2, .int i2), (3, .int i3), (4, .int i4), (5, .int i5), (6, .int i6), (7, .int i7)], [], lay, σ, 0, 0) = zb_272_53 lay σ r0 i1 i2 i3 i4 i5 i6 i7 := rfl
theorem zg_272_53 {lay : zm_Lay} {σ : zm_Sig} {r0 : Nat} {i1 : Int32} {i2 : Int32} {i3 : Int32} {i4 : Int32} {i5 : Int32} {i6 : Int32} {i7 : Int32} {out : zm_Out} {r : zm_St ⊕ zm_Out} (h : zb_272_53 lay σ r0 i1 i2 i3 i4 i5 i6 i7 = some r) (hg : zm_end zp_P 272 out r) : zm_go zp_P 272 (53, [(0, .ref r0), (1, .int i1), (2, .int i2), (3, .int i3), (4, .int i4), (5, .int i5), (6, .int i6), (7, .int i7)], [], lay, σ, 0, 0) out :=
  zm_blk_go (M := zd_272) rfl zs_272 140 (zp_272.drop 28) _ r (fun _ h => List.mem_of_mem_drop h) ((zr_272_53 lay σ r0 i1 i2 i3 i4 i5 i6 i7).trans h) hg
noncomputable def zb_272_127 (lay : zm_Lay) (σ : zm_Sig) (r0 : Nat) (i1 : Int32) (i2 : Int32) (i3 : Int32) (i4 : Int32) (i5 : Int32) (i7 : Int32) : Option (zm_St ⊕ zm_Out) :=
  if i1 ≤ i7 then (some (.inl (6, [(0, .ref r0), (1, .int i1), (2, .int i2), (3, .int i3), (4, .int (i4 + 1)), (5, .int (i5 + 1))], [], lay, σ, 0, 0)))
  else ((zm_is lay r0 10).bind fun _ =>
   zm_opt (σ.2.2 r0 44) (fun q1 =>
   (zm_gI lay σ q1 ((((nI 16) : Int32) * i7) + i5)).bind fun v2 =>
   (zm_is lay r0 10).bind fun _ =>
   zm_opt (σ.2.2 r0 44) (fun q3 =>
   (zm_gI lay σ q3 ((((nI 16) : Int32) * i4) + i5)).bind fun v4 =>
   some (.inl (166, [(0, .ref r0), (1, .int i1), (2, .int i2), (3, .int i3), (4, .int i4), (5, .int i5), (7, .int i7), (8, .int v2), (9, .int v4), (10, .int 0)], [], lay, σ, 0, 0))) (none)) (none))
set_option maxRecDepth 100000 in
theorem zr_272_127 (lay : zm_Lay) (σ : zm_Sig) (r0 : Nat) (i1 : Int32) (i2 : Int32) (i3 : Int32) (i4 : Int32) (i5 : Int32) (i7 : Int32) : zm_blk zM zp_272 (some .int) 0 0 zc_272 140 (zp_272.drop 71) (127, [(0, .ref r0), (1, .int i1), (2, .int i2), (3, .int i3), (4, .int i4), (5, .int i5), (7, .int i7)], [], lay, σ, 0, 0) = zb_272_127 lay σ r0 i1 i2 i3 i4 i5 i7 := rfl
theorem zg_272_127 {lay : zm_Lay} {σ : zm_Sig} {r0 : Nat} {i1 : Int32} {i2 : Int32} {i3 : Int32} {i4 : Int32} {i5 : Int32} {i7 : Int32} {out : zm_Out} {r : zm_St ⊕ zm_Out} (h : zb_272_127 lay σ r0 i1 i2 i3 i4 i5 i7 = some r) (hg : zm_end zp_P 272 out r) : zm_go zp_P 272 (127, [(0, .ref r0), (1, .int i1), (2, .int i2), (3, .int i3), (4, .int i4), (5, .int i5), (7, .int i7)], [], lay, σ, 0, 0) out :=
  zm_blk_go (M := zd_272) rfl zs_272 140 (zp_272.drop 71) _ r (fun _ h => List.mem_of_mem_drop h) ((zr_272_127 lay σ r0 i1 i2 i3 i4 i5 i7).trans h) hg
noncomputable def zb_272_166 (lay : zm_Lay) (σ : zm_Sig) (r0 : Nat) (i1 : Int32) (i2 : Int32) (i3 : Int32) (i4 : Int32) (i5 : Int32) (i7 : Int32) (i8 : Int32) (i9 : Int32) (i10 : Int32) : Option (zm_St ⊕ zm_Out) :=
  if i2 ≤ i10 then (some (.inl (127, [(0, .ref r0), (1, .int i1), (2, .int i2), (3, .int i3), (4, .int i4), (5, .int i5), (7, .int (i7 + 1))], [], lay, σ, 0, 0)))
  else ((zm_is lay r0 10).bind fun _ =>
   zm_opt (σ.2.2 r0 44) (fun q1 =>
   (zm_is lay r0 10).bind fun _ =>
   zm_opt (σ.2.2 r0 44) (fun q2 =>
   (zm_gI lay σ q2 ((((nI 16) : Int32) * i7) + i10)).bind fun v3 =>
   (zm_is lay r0 10).bind fun _ =>
   zm_opt (σ.2.2 r0 44) (fun q4 =>
   (zm_gI lay σ q4 ((((nI 16) : Int32) * i4) + i10)).bind fun v5 =>
   if i3 = 0 then none
   else ((zm_sI lay σ q1 ((((nI 16) : Int32) * i7) + i10) (((v3 * i9) + ((i3 - i8) * v5)) - ((v3 * i9) + ((i3 - i8) * v5)) / i3 * i3)).bind fun s6 =>
   some (.inl (166, [(0, .ref r0), (1, .int i1), (2, .int i2), (3, .int i3), (4, .int i4), (5, .int i5), (7, .int i7), (8, .int i8), (9, .int i9), (10, .int (i10 + 1))], [], lay, s6, 0, 0)))) (none)) (none)) (none))
set_option maxRecDepth 100000 in
theorem zr_272_166 (lay : zm_Lay) (σ : zm_Sig) (r0 : Nat) (i1 : Int32) (i2 : Int32) (i3 : Int32) (i4 : Int32) (i5 : Int32) (i7 : Int32) (i8 : Int32) (i9 : Int32) (i10 : Int32) : zm_blk zM zp_272 (some .int) 0 0 zc_272 140 (zp_272.drop 94) (166, [(0, .ref r0), (1, .int i1), (2, .int i2), (3, .int i3), (4, .int i4), (5, .int i5), (7, .int i7), (8, .int i8), (9, .int i9), (10, .int i10)], [], lay, σ, 0, 0) = zb_272_166 lay σ r0 i1 i2 i3 i4 i5 i7 i8 i9 i10 := rfl
theorem zg_272_166 {lay : zm_Lay} {σ : zm_Sig} {r0 : Nat} {i1 : Int32} {i2 : Int32} {i3 : Int32} {i4 : Int32} {i5 : Int32} {i7 : Int32} {i8 : Int32} {i9 : Int32} {i10 : Int32} {out : zm_Out} {r : zm_St ⊕ zm_Out} (h : zb_272_166 lay σ r0 i1 i2 i3 i4 i5 i7 i8 i9 i10 = some r) (hg : zm_end zp_P 272 out r) : zm_go zp_P 272 (166, [(0, .ref r0), (1, .int i1), (2, .int i2), (3, .int i3), (4, .int i4), (5, .int i5), (7, .int i7), (8, .int i8), (9, .int i9), (10, .int i10)], [], lay, σ, 0, 0) out :=
  zm_blk_go (M := zd_272) rfl zs_272 140 (zp_272.drop 94) _ r (fun _ h => List.mem_of_mem_drop h) ((zr_272_166 lay σ r0 i1 i2 i3 i4 i5 i7 i8 i9 i10).trans h) hg
