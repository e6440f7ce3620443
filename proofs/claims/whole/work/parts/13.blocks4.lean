/-! SubgroupWriterModel.areNumbers(II)Z -/
theorem zs_230 : zm_srt zp_230 = true := by decide +kernel
noncomputable def zb_230_0 (lay : zm_Lay) (σ : zm_Sig) (r0 : Nat) (i1 : Int32) (i2 : Int32) : Option (zm_St ⊕ zm_Out) :=
  some (.inl (5, [(0, .ref r0), (1, .int i1), (2, .int i2), (3, .int 1), (4, .int 0)], [], lay, σ, 0, 0))
set_option maxRecDepth 100000 in
theorem zr_230_0 (lay : zm_Lay) (σ : zm_Sig) (r0 : Nat) (i1 : Int32) (i2 : Int32) : zm_blk zM zp_230 (some .boolean) 0 0 zc_230 38 (zp_230.drop 0) (0, [(0, .ref r0), (1, .int i1), (2, .int i2)], [], lay, σ, 0, 0) = zb_230_0 lay σ r0 i1 i2 := rfl
theorem ze_230 {lay : zm_Lay} {σ : zm_Sig} {r0 : Nat} {i1 : Int32} {i2 : Int32} {out : zm_Out} {r : zm_St ⊕ zm_Out} (h : zb_230_0 lay σ r0 i1 i2 = some r) (hg : zm_end zp_P 230 out r) : zM 230 [.ref r0, .int i1, .int i2] lay σ = some out :=
  zm_mean_go (M := zd_230) rfl (Nat.le_of_ble_eq_true rfl) (zm_blk_go (M := zd_230) rfl zs_230 38 (zp_230.drop 0) _ r (fun _ h => List.mem_of_mem_drop h) ((zr_230_0 lay σ r0 i1 i2).trans h) hg)
noncomputable def zb_230_5 (lay : zm_Lay) (σ : zm_Sig) (r0 : Nat) (i1 : Int32) (i2 : Int32) (i3 : Int32) (i4 : Int32) : Option (zm_St ⊕ zm_Out) :=
  (zm_is lay r0 10).bind fun _ =>
  zm_opt (σ.2.2 r0 0) (fun q1 =>
  (zm_gI lay σ q1 i1).bind fun v2 =>
  if v2 ≤ i4 then (if i3 = 0 ∨ i3 = 1 then some (.inr (some (.int i3), lay, σ)) else none)
  else ((zm_is lay r0 10).bind fun _ =>
   zm_opt (σ.2.2 r0 1) (fun q3 =>
   (zm_gI lay σ q3 ((((nI 40) : Int32) * i1) + i4)).bind fun v4 =>
   if i3 = 0 then (some (.inl (5, [(0, .ref r0), (1, .int i1), (2, .int i2), (3, .int 0), (4, .int (i4 + 1))], [], lay, σ, 0, 0)))
   else (if v4 = 0 then (some (.inl (5, [(0, .ref r0), (1, .int i1), (2, .int i2), (3, .int 0), (4, .int (i4 + 1))], [], lay, σ, 0, 0)))
    else ((zm_ai (zM 176 [.int v4, .int (-i2), .int i2] lay σ)).bind fun q5 =>
     if q5.1 = 0 then (some (.inl (5, [(0, .ref r0), (1, .int i1), (2, .int i2), (3, .int 0), (4, .int (i4 + 1))], [], q5.2.1, q5.2.2, 0, 0)))
     else (some (.inl (5, [(0, .ref r0), (1, .int i1), (2, .int i2), (3, .int 1), (4, .int (i4 + 1))], [], q5.2.1, q5.2.2, 0, 0)))))) (none))) (none)
set_option maxRecDepth 100000 in
theorem zr_230_5 (lay : zm_Lay) (σ : zm_Sig) (r0 : Nat) (i1 : Int32) (i2 : Int32) (i3 : Int32) (i4 : Int32) : zm_blk zM zp_230 (some .boolean) 0 0 zc_230 38 (zp_230.drop 4) (5, [(0, .ref r0), (1, .int i1), (2, .int i2), (3, .int i3), (4, .int i4)], [], lay, σ, 0, 0) = zb_230_5 lay σ r0 i1 i2 i3 i4 := rfl
theorem zg_230_5 {lay : zm_Lay} {σ : zm_Sig} {r0 : Nat} {i1 : Int32} {i2 : Int32} {i3 : Int32} {i4 : Int32} {out : zm_Out} {r : zm_St ⊕ zm_Out} (h : zb_230_5 lay σ r0 i1 i2 i3 i4 = some r) (hg : zm_end zp_P 230 out r) : zm_go zp_P 230 (5, [(0, .ref r0), (1, .int i1), (2, .int i2), (3, .int i3), (4, .int i4)], [], lay, σ, 0, 0) out :=
  zm_blk_go (M := zd_230) rfl zs_230 38 (zp_230.drop 4) _ r (fun _ h => List.mem_of_mem_drop h) ((zr_230_5 lay σ r0 i1 i2 i3 i4).trans h) hg
/-! SubgroupWriterModel.wordTo(I)V -/
theorem zs_231 : zm_srt zp_231 = true := by decide +kernel
noncomputable def zb_231_0 (lay : zm_Lay) (σ : zm_Sig) (r0 : Nat) (i1 : Int32) : Option (zm_St ⊕ zm_Out) :=
  (zm_is lay r0 10).bind fun _ =>
  (zm_is lay r0 10).bind fun _ => (zm_av (zM 178 [.ref r0, .int i1, .int (σ.1 r0 40)] lay σ)).bind fun q1 =>
  (zm_is q1.1 r0 10).bind fun _ =>
  zm_opt (q1.2.2.2 r0 39) (fun q2 =>
  (zm_is q1.1 r0 10).bind fun _ =>
  zm_opt (q1.2.2.2 r0 1) (fun q3 =>
  (zm_is q1.1 r0 10).bind fun _ =>
  (zm_av (zM 200 [.ref q2, .int 0, .ref q3, .int (((nI 40) : Int32) * i1), .int (q1.2.1 r0 40)] q1.1 q1.2)).bind fun q4 =>
  some (.inr (none, q4.1, q4.2))) (none)) (none)
set_option maxRecDepth 100000 in
theorem zr_231_0 (lay : zm_Lay) (σ : zm_Sig) (r0 : Nat) (i1 : Int32) : zm_blk zM zp_231 none 0 0 zc_231 18 (zp_231.drop 0) (0, [(0, .ref r0), (1, .int i1)], [], lay, σ, 0, 0) = zb_231_0 lay σ r0 i1 := rfl
theorem ze_231 {lay : zm_Lay} {σ : zm_Sig} {r0 : Nat} {i1 : Int32} {out : zm_Out} {r : zm_St ⊕ zm_Out} (h : zb_231_0 lay σ r0 i1 = some r) (hg : zm_end zp_P 231 out r) : zM 231 [.ref r0, .int i1] lay σ = some out :=
  zm_mean_go (M := zd_231) rfl (Nat.le_of_ble_eq_true rfl) (zm_blk_go (M := zd_231) rfl zs_231 18 (zp_231.drop 0) _ r (fun _ h => List.mem_of_mem_drop h) ((zr_231_0 lay σ r0 i1).trans h) hg)
/-! SubgroupWriterModel.spelt(II)I -/
theorem zs_232 : zm_srt zp_232 = true := by decide +kernel
noncomputable def zb_232_0 (lay : zm_Lay) (σ : zm_Sig) (r0 : Nat) (i1 : Int32) (i2 : Int32) : Option (zm_St ⊕ zm_Out) :=
  (zm_ai (zM 175 [.int i1] lay σ)).bind fun q1 =>
  if q1.1 = 0 then (some (.inr (some (.int (-1)), q1.2.1, q1.2.2)))
  else ((zm_ai (zM 175 [.int i2] q1.2.1 q1.2.2)).bind fun q2 =>
   if ¬ q2.1 = 0 then ((zm_is q2.2.1 r0 10).bind fun _ =>
    zm_opt (q2.2.2.2.2 r0 0) (fun q3 =>
    (zm_gI q2.2.1 q2.2.2 q3 i1).bind fun v4 =>
    if (0 : Int32) ≤ v4 then ((zm_is q2.2.1 r0 10).bind fun _ =>
     if ¬ (q2.2.2.1 r0 4) = 0 then ((zm_is q2.2.1 r0 10).bind fun _ =>
      (zm_is q2.2.1 r0 10).bind fun _ => (zm_ai (zM 230 [.ref r0, .int i1, .int (q2.2.2.1 r0 20)] q2.2.1 q2.2.2)).bind fun q5 =>
      if ¬ q5.1 = 0 then ((zm_is q5.2.1 r0 10).bind fun _ => (zm_fw q5.2.2 r0 40 0 (.int 0)).bind fun s6 =>
       some (.inl (67, [(0, .ref r0), (1, .int i1), (2, .int i2), (3, .int 0)], [], q5.2.1, s6, 0, 0)))
      else ((zm_is q5.2.1 r0 10).bind fun _ => (zm_ai (zM 177 [.ref r0, .int (nI 3)] q5.2.1 q5.2.2)).bind fun q7 =>
       some (.inr (some (.int q7.1), q7.2.1, q7.2.2))))
     else ((zm_is q2.2.1 r0 10).bind fun _ => (zm_ai (zM 230 [.ref r0, .int i1, .int 0] q2.2.1 q2.2.2)).bind fun q8 =>
      if ¬ q8.1 = 0 then ((zm_is q8.2.1 r0 10).bind fun _ => (zm_fw q8.2.2 r0 40 0 (.int 0)).bind fun s9 =>
       some (.inl (67, [(0, .ref r0), (1, .int i1), (2, .int i2), (3, .int 0)], [], q8.2.1, s9, 0, 0)))
      else ((zm_is q8.2.1 r0 10).bind fun _ => (zm_ai (zM 177 [.ref r0, .int (nI 3)] q8.2.1 q8.2.2)).bind fun q10 =>
       some (.inr (some (.int q10.1), q10.2.1, q10.2.2)))))
    else ((zm_is q2.2.1 r0 10).bind fun _ => (zm_ai (zM 177 [.ref r0, .int 1] q2.2.1 q2.2.2)).bind fun q11 =>
     some (.inr (some (.int q11.1), q11.2.1, q11.2.2)))) (none))
   else (some (.inr (some (.int (-1)), q2.2.1, q2.2.2))))
set_option maxRecDepth 100000 in
theorem zr_232_0 (lay : zm_Lay) (σ : zm_Sig) (r0 : Nat) (i1 : Int32) (i2 : Int32) : zm_blk zM zp_232 (some .int) 0 0 zc_232 68 (zp_232.drop 0) (0, [(0, .ref r0), (1, .int i1), (2, .int i2)], [], lay, σ, 0, 0) = zb_232_0 lay σ r0 i1 i2 := rfl
theorem ze_232 {lay : zm_Lay} {σ : zm_Sig} {r0 : Nat} {i1 : Int32} {i2 : Int32} {out : zm_Out} {r : zm_St ⊕ zm_Out} (h : zb_232_0 lay σ r0 i1 i2 = some r) (hg : zm_end zp_P 232 out r) : zM 232 [.ref r0, .int i1, .int i2] lay σ = some out :=
  zm_mean_go (M := zd_232) rfl (Nat.le_of_ble_eq_true rfl) (zm_blk_go (M := zd_232) rfl zs_232 68 (zp_232.drop 0) _ r (fun _ h => List.mem_of_mem_drop h) ((zr_232_0 lay σ r0 i1 i2).trans h) hg)
noncomputable def zb_232_67 (lay : zm_Lay) (σ : zm_Sig) (r0 : Nat) (i1 : Int32) (i2 : Int32) (i3 : Int32) : Option (zm_St ⊕ zm_Out) :=
  (zm_is lay r0 10).bind fun _ =>
  zm_opt (σ.2.2 r0 0) (fun q1 =>
  (zm_gI lay σ q1 i1).bind fun v2 =>
  if v2 ≤ i3 then ((zm_is lay r0 10).bind fun _ =>
   if (σ.1 r0 40) ≤ (nI 40) then ((zm_is lay r0 10).bind fun _ => (zm_av (zM 231 [.ref r0, .int i2] lay σ)).bind fun q3 =>
    (zm_is q3.1 r0 10).bind fun _ =>
    some (.inr (some (.int (q3.2.1 r0 40)), q3.1, q3.2)))
   else (some (.inr (some (.int (-6)), lay, σ))))
  else ((zm_is lay r0 10).bind fun _ =>
   zm_opt (σ.2.2 r0 1) (fun q4 =>
   (zm_gI lay σ q4 ((((nI 40) : Int32) * i1) + i3)).bind fun v5 =>
   (zm_is lay r0 10).bind fun _ => (zm_av (zM 233 [.ref r0, .int v5] lay σ)).bind fun q6 =>
   some (.inl (67, [(0, .ref r0), (1, .int i1), (2, .int i2), (3, .int (i3 + 1))], [], q6.1, q6.2, 0, 0))) (none))) (none)
set_option maxRecDepth 100000 in
theorem zr_232_67 (lay : zm_Lay) (σ : zm_Sig) (r0 : Nat) (i1 : Int32) (i2 : Int32) (i3 : Int32) : zm_blk zM zp_232 (some .int) 0 0 zc_232 68 (zp_232.drop 37) (67, [(0, .ref r0), (1, .int i1), (2, .int i2), (3, .int i3)], [], lay, σ, 0, 0) = zb_232_67 lay σ r0 i1 i2 i3 := rfl
theorem zg_232_67 {lay : zm_Lay} {σ : zm_Sig} {r0 : Nat} {i1 : Int32} {i2 : Int32} {i3 : Int32} {out : zm_Out} {r : zm_St ⊕ zm_Out} (h : zb_232_67 lay σ r0 i1 i2 i3 = some r) (hg : zm_end zp_P 232 out r) : zm_go zp_P 232 (67, [(0, .ref r0), (1, .int i1), (2, .int i2), (3, .int i3)], [], lay, σ, 0, 0) out :=
  zm_blk_go (M := zd_232) rfl zs_232 68 (zp_232.drop 37) _ r (fun _ h => List.mem_of_mem_drop h) ((zr_232_67 lay σ r0 i1 i2 i3).trans h) hg
/-! SubgroupWriterModel.spells(I)V -/
theorem zs_233 : zm_srt zp_233 = true := by decide +kernel
noncomputable def zb_233_0 (lay : zm_Lay) (σ : zm_Sig) (r0 : Nat) (i1 : Int32) : Option (zm_St ⊕ zm_Out) :=
  (zm_is lay r0 10).bind fun _ =>
  zm_opt (σ.2.2 r0 19) (fun q1 =>
  if (0 : Int32) ≤ i1 then ((zm_gI lay σ q1 i1).bind fun v2 =>
   (zm_is lay r0 10).bind fun _ =>
   if (σ.1 r0 5) = 0 then none
   else (if i1 ≤ 0 then ((zm_is lay r0 10).bind fun _ => (zm_ai (zM 224 [.ref r0, .int v2] lay σ)).bind fun q3 =>
    (zm_is q3.2.1 r0 10).bind fun _ => (zm_av (zM 234 [.ref r0, .int q3.1] q3.2.1 q3.2.2)).bind fun q4 =>
    if i1 ≤ 0 then ((zm_is q4.1 r0 10).bind fun _ => (zm_av (zM 213 [.ref r0, .int (-((v2 - v2 / (σ.1 r0 5) * (σ.1 r0 5)) + 1))] q4.1 q4.2)).bind fun q5 =>
     if i1 ≤ 0 then ((zm_is q5.1 r0 10).bind fun _ =>
      if (q5.2.1 r0 5) = 0 then none
      else ((zm_is q5.1 r0 10).bind fun _ => (zm_av (zM 235 [.ref r0, .int (v2 / (q5.2.1 r0 5))] q5.1 q5.2)).bind fun q6 =>
      some (.inr (none, q6.1, q6.2))))
     else ((zm_is q5.1 r0 10).bind fun _ => (zm_ai (zM 224 [.ref r0, .int v2] q5.1 q5.2)).bind fun q7 =>
      (zm_is q7.2.1 r0 10).bind fun _ => (zm_av (zM 235 [.ref r0, .int q7.1] q7.2.1 q7.2.2)).bind fun q8 =>
      some (.inr (none, q8.1, q8.2))))
    else ((zm_is q4.1 r0 10).bind fun _ => (zm_av (zM 213 [.ref r0, .int ((v2 - v2 / (σ.1 r0 5) * (σ.1 r0 5)) + 1)] q4.1 q4.2)).bind fun q9 =>
     if i1 ≤ 0 then ((zm_is q9.1 r0 10).bind fun _ =>
      if (q9.2.1 r0 5) = 0 then none
      else ((zm_is q9.1 r0 10).bind fun _ => (zm_av (zM 235 [.ref r0, .int (v2 / (q9.2.1 r0 5))] q9.1 q9.2)).bind fun q10 =>
      some (.inr (none, q10.1, q10.2))))
     else ((zm_is q9.1 r0 10).bind fun _ => (zm_ai (zM 224 [.ref r0, .int v2] q9.1 q9.2)).bind fun q11 =>
      (zm_is q11.2.1 r0 10).bind fun _ => (zm_av (zM 235 [.ref r0, .int q11.1] q11.2.1 q11.2.2)).bind fun q12 =>
      some (.inr (none, q12.1, q12.2)))))
   else ((zm_is lay r0 10).bind fun _ =>
    if (σ.1 r0 5) = 0 then none
    else ((zm_is lay r0 10).bind fun _ => (zm_av (zM 234 [.ref r0, .int (v2 / (σ.1 r0 5))] lay σ)).bind fun q13 =>
    if i1 ≤ 0 then ((zm_is q13.1 r0 10).bind fun _ => (zm_av (zM 213 [.ref r0, .int (-((v2 - v2 / (σ.1 r0 5) * (σ.1 r0 5)) + 1))] q13.1 q13.2)).bind fun q14 =>
     if i1 ≤ 0 then ((zm_is q14.1 r0 10).bind fun _ =>
      if (q14.2.1 r0 5) = 0 then none
      else ((zm_is q14.1 r0 10).bind fun _ => (zm_av (zM 235 [.ref r0, .int (v2 / (q14.2.1 r0 5))] q14.1 q14.2)).bind fun q15 =>
      some (.inr (none, q15.1, q15.2))))
     else ((zm_is q14.1 r0 10).bind fun _ => (zm_ai (zM 224 [.ref r0, .int v2] q14.1 q14.2)).bind fun q16 =>
      (zm_is q16.2.1 r0 10).bind fun _ => (zm_av (zM 235 [.ref r0, .int q16.1] q16.2.1 q16.2.2)).bind fun q17 =>
      some (.inr (none, q17.1, q17.2))))
    else ((zm_is q13.1 r0 10).bind fun _ => (zm_av (zM 213 [.ref r0, .int ((v2 - v2 / (σ.1 r0 5) * (σ.1 r0 5)) + 1)] q13.1 q13.2)).bind fun q18 =>
     if i1 ≤ 0 then ((zm_is q18.1 r0 10).bind fun _ =>
      if (q18.2.1 r0 5) = 0 then none
      else ((zm_is q18.1 r0 10).bind fun _ => (zm_av (zM 235 [.ref r0, .int (v2 / (q18.2.1 r0 5))] q18.1 q18.2)).bind fun q19 =>
      some (.inr (none, q19.1, q19.2))))
     else ((zm_is q18.1 r0 10).bind fun _ => (zm_ai (zM 224 [.ref r0, .int v2] q18.1 q18.2)).bind fun q20 =>
      (zm_is q20.2.1 r0 10).bind fun _ => (zm_av (zM 235 [.ref r0, .int q20.1] q20.2.1 q20.2.2)).bind fun q21 =>
      some (.inr (none, q21.1, q21.2))))))))
  else ((zm_gI lay σ q1 (-i1)).bind fun v22 =>
   (zm_is lay r0 10).bind fun _ =>
   if (σ.1 r0 5) = 0 then none
   else (if i1 ≤ 0 then ((zm_is lay r0 10).bind fun _ => (zm_ai (zM 224 [.ref r0, .int v22] lay σ)).bind fun q23 =>
    (zm_is q23.2.1 r0 10).bind fun _ => (zm_av (zM 234 [.ref r0, .int q23.1] q23.2.1 q23.2.2)).bind fun q24 =>
    if i1 ≤ 0 then ((zm_is q24.1 r0 10).bind fun _ => (zm_av (zM 213 [.ref r0, .int (-((v22 - v22 / (σ.1 r0 5) * (σ.1 r0 5)) + 1))] q24.1 q24.2)).bind fun q25 =>
     if i1 ≤ 0 then ((zm_is q25.1 r0 10).bind fun _ =>
      if (q25.2.1 r0 5) = 0 then none
      else ((zm_is q25.1 r0 10).bind fun _ => (zm_av (zM 235 [.ref r0, .int (v22 / (q25.2.1 r0 5))] q25.1 q25.2)).bind fun q26 =>
      some (.inr (none, q26.1, q26.2))))
     else ((zm_is q25.1 r0 10).bind fun _ => (zm_ai (zM 224 [.ref r0, .int v22] q25.1 q25.2)).bind fun q27 =>
      (zm_is q27.2.1 r0 10).bind fun _ => (zm_av (zM 235 [.ref r0, .int q27.1] q27.2.1 q27.2.2)).bind fun q28 =>
      some (.inr (none, q28.1, q28.2))))
    else ((zm_is q24.1 r0 10).bind fun _ => (zm_av (zM 213 [.ref r0, .int ((v22 - v22 / (σ.1 r0 5) * (σ.1 r0 5)) + 1)] q24.1 q24.2)).bind fun q29 =>
     if i1 ≤ 0 then ((zm_is q29.1 r0 10).bind fun _ =>
      if (q29.2.1 r0 5) = 0 then none
      else ((zm_is q29.1 r0 10).bind fun _ => (zm_av (zM 235 [.ref r0, .int (v22 / (q29.2.1 r0 5))] q29.1 q29.2)).bind fun q30 =>
      some (.inr (none, q30.1, q30.2))))
     else ((zm_is q29.1 r0 10).bind fun _ => (zm_ai (zM 224 [.ref r0, .int v22] q29.1 q29.2)).bind fun q31 =>
      (zm_is q31.2.1 r0 10).bind fun _ => (zm_av (zM 235 [.ref r0, .int q31.1] q31.2.1 q31.2.2)).bind fun q32 =>
      some (.inr (none, q32.1, q32.2)))))
   else ((zm_is lay r0 10).bind fun _ =>
    if (σ.1 r0 5) = 0 then none
    else ((zm_is lay r0 10).bind fun _ => (zm_av (zM 234 [.ref r0, .int (v22 / (σ.1 r0 5))] lay σ)).bind fun q33 =>
    if i1 ≤ 0 then ((zm_is q33.1 r0 10).bind fun _ => (zm_av (zM 213 [.ref r0, .int (-((v22 - v22 / (σ.1 r0 5) * (σ.1 r0 5)) + 1))] q33.1 q33.2)).bind fun q34 =>
     if i1 ≤ 0 then ((zm_is q34.1 r0 10).bind fun _ =>
      if (q34.2.1 r0 5) = 0 then none
      else ((zm_is q34.1 r0 10).bind fun _ => (zm_av (zM 235 [.ref r0, .int (v22 / (q34.2.1 r0 5))] q34.1 q34.2)).bind fun q35 =>
      some (.inr (none, q35.1, q35.2))))
     else ((zm_is q34.1 r0 10).bind fun _ => (zm_ai (zM 224 [.ref r0, .int v22] q34.1 q34.2)).bind fun q36 =>
      (zm_is q36.2.1 r0 10).bind fun _ => (zm_av (zM 235 [.ref r0, .int q36.1] q36.2.1 q36.2.2)).bind fun q37 =>
      some (.inr (none, q37.1, q37.2))))
    else ((zm_is q33.1 r0 10).bind fun _ => (zm_av (zM 213 [.ref r0, .int ((v22 - v22 / (σ.1 r0 5) * (σ.1 r0 5)) + 1)] q33.1 q33.2)).bind fun q38 =>
     if i1 ≤ 0 then ((zm_is q38.1 r0 10).bind fun _ =>
      if (q38.2.1 r0 5) = 0 then none
      else ((zm_is q38.1 r0 10).bind fun _ => (zm_av (zM 235 [.ref r0, .int (v22 / (q38.2.1 r0 5))] q38.1 q38.2)).bind fun q39 =>
      some (.inr (none, q39.1, q39.2))))
     else ((zm_is q38.1 r0 10).bind fun _ => (zm_ai (zM 224 [.ref r0, .int v22] q38.1 q38.2)).bind fun q40 =>
      (zm_is q40.2.1 r0 10).bind fun _ => (zm_av (zM 235 [.ref r0, .int q40.1] q40.2.1 q40.2.2)).bind fun q41 =>
      some (.inr (none, q41.1, q41.2))))))))) (none)
set_option maxRecDepth 100000 in
theorem zr_233_0 (lay : zm_Lay) (σ : zm_Sig) (r0 : Nat) (i1 : Int32) : zm_blk zM zp_233 none 0 0 zc_233 51 (zp_233.drop 0) (0, [(0, .ref r0), (1, .int i1)], [], lay, σ, 0, 0) = zb_233_0 lay σ r0 i1 := rfl
theorem ze_233 {lay : zm_Lay} {σ : zm_Sig} {r0 : Nat} {i1 : Int32} {out : zm_Out} {r : zm_St ⊕ zm_Out} (h : zb_233_0 lay σ r0 i1 = some r) (hg : zm_end zp_P 233 out r) : zM 233 [.ref r0, .int i1] lay σ = some out :=
  zm_mean_go (M := zd_233) rfl (Nat.le_of_ble_eq_true rfl) (zm_blk_go (M := zd_233) rfl zs_233 51 (zp_233.drop 0) _ r (fun _ h => List.mem_of_mem_drop h) ((zr_233_0 lay σ r0 i1).trans h) hg)
/-! SubgroupWriterModel.growsWay(I)V -/
theorem zs_234 : zm_srt zp_234 = true := by decide +kernel
noncomputable def zb_234_0 (lay : zm_Lay) (σ : zm_Sig) (r0 : Nat) (i1 : Int32) : Option (zm_St ⊕ zm_Out) :=
  (zm_is lay r0 10).bind fun _ =>
  zm_opt (σ.2.2 r0 13) (fun q1 =>
  (zm_gI lay σ q1 i1).bind fun v2 =>
  some (.inl (11, [(0, .ref r0), (1, .int i1), (2, .int i1), (3, .int (v2 - 1))], [], lay, σ, 0, 0))) (none)
set_option maxRecDepth 100000 in
theorem zr_234_0 (lay : zm_Lay) (σ : zm_Sig) (r0 : Nat) (i1 : Int32) : zm_blk zM zp_234 none 0 0 zc_234 44 (zp_234.drop 0) (0, [(0, .ref r0), (1, .int i1)], [], lay, σ, 0, 0) = zb_234_0 lay σ r0 i1 := rfl
theorem ze_234 {lay : zm_Lay} {σ : zm_Sig} {r0 : Nat} {i1 : Int32} {out : zm_Out} {r : zm_St ⊕ zm_Out} (h : zb_234_0 lay σ r0 i1 = some r) (hg : zm_end zp_P 234 out r) : zM 234 [.ref r0, .int i1] lay σ = some out :=
  zm_mean_go (M := zd_234) rfl (Nat.le_of_ble_eq_true rfl) (zm_blk_go (M := zd_234) rfl zs_234 44 (zp_234.drop 0) _ r (fun _ h => List.mem_of_mem_drop h) ((zr_234_0 lay σ r0 i1).trans h) hg)
noncomputable def zb_234_11 (lay : zm_Lay) (σ : zm_Sig) (r0 : Nat) (i1 : Int32) (i2 : Int32) (i3 : Int32) : Option (zm_St ⊕ zm_Out) :=
  if i3 < 0 then (some (.inl (42, [(0, .ref r0), (1, .int i1), (3, .int 0)], [], lay, σ, 0, 0)))
  else ((zm_is lay r0 10).bind fun _ =>
   zm_opt (σ.2.2 r0 41) (fun q1 =>
   (zm_is lay r0 10).bind fun _ =>
   zm_opt (σ.2.2 r0 12) (fun q2 =>
   (zm_gI lay σ q2 i2).bind fun v3 =>
   (zm_sI lay σ q1 i3 v3).bind fun s4 =>
   (zm_is lay r0 10).bind fun _ =>
   zm_opt (s4.2.2 r0 11) (fun q5 =>
   (zm_gI lay s4 q5 i2).bind fun v6 =>
   some (.inl (11, [(0, .ref r0), (1, .int i1), (2, .int v6), (3, .int (i3 + (-1)))], [], lay, s4, 0, 0))) (none)) (none)) (none))
set_option maxRecDepth 100000 in
theorem zr_234_11 (lay : zm_Lay) (σ : zm_Sig) (r0 : Nat) (i1 : Int32) (i2 : Int32) (i3 : Int32) : zm_blk zM zp_234 none 0 0 zc_234 44 (zp_234.drop 9) (11, [(0, .ref r0), (1, .int i1), (2, .int i2), (3, .int i3)], [], lay, σ, 0, 0) = zb_234_11 lay σ r0 i1 i2 i3 := rfl
theorem zg_234_11 {lay : zm_Lay} {σ : zm_Sig} {r0 : Nat} {i1 : Int32} {i2 : Int32} {i3 : Int32} {out : zm_Out} {r : zm_St ⊕ zm_Out} (h : zb_234_11 lay σ r0 i1 i2 i3 = some r) (hg : zm_end zp_P 234 out r) : zm_go zp_P 234 (11, [(0, .ref r0), (1, .int i1), (2, .int i2), (3, .int i3)], [], lay, σ, 0, 0) out :=
  zm_blk_go (M := zd_234) rfl zs_234 44 (zp_234.drop 9) _ r (fun _ h => List.mem_of_mem_drop h) ((zr_234_11 lay σ r0 i1 i2 i3).trans h) hg
noncomputable def zb_234_42 (lay : zm_Lay) (σ : zm_Sig) (r0 : Nat) (i1 : Int32) (i3 : Int32) : Option (zm_St ⊕ zm_Out) :=
  (zm_is lay r0 10).bind fun _ =>
  zm_opt (σ.2.2 r0 13) (fun q1 =>
  (zm_gI lay σ q1 i1).bind fun v2 =>
  if v2 ≤ i3 then (some (.inr (none, lay, σ)))
  else ((zm_is lay r0 10).bind fun _ =>
   zm_opt (σ.2.2 r0 41) (fun q3 =>
   (zm_gI lay σ q3 i3).bind fun v4 =>
   (zm_is lay r0 10).bind fun _ => (zm_av (zM 213 [.ref r0, .int v4] lay σ)).bind fun q5 =>
   some (.inl (42, [(0, .ref r0), (1, .int i1), (3, .int (i3 + 1))], [], q5.1, q5.2, 0, 0))) (none))) (none)
set_option maxRecDepth 100000 in
theorem zr_234_42 (lay : zm_Lay) (σ : zm_Sig) (r0 : Nat) (i1 : Int32) (i3 : Int32) : zm_blk zM zp_234 none 0 0 zc_234 44 (zp_234.drop 28) (42, [(0, .ref r0), (1, .int i1), (3, .int i3)], [], lay, σ, 0, 0) = zb_234_42 lay σ r0 i1 i3 := rfl
theorem zg_234_42 {lay : zm_Lay} {σ : zm_Sig} {r0 : Nat} {i1 : Int32} {i3 : Int32} {out : zm_Out} {r : zm_St ⊕ zm_Out} (h : zb_234_42 lay σ r0 i1 i3 = some r) (hg : zm_end zp_P 234 out r) : zm_go zp_P 234 (42, [(0, .ref r0), (1, .int i1), (3, .int i3)], [], lay, σ, 0, 0) out :=
  zm_blk_go (M := zd_234) rfl zs_234 44 (zp_234.drop 28) _ r (fun _ h => List.mem_of_mem_drop h) ((zr_234_42 lay σ r0 i1 i3).trans h) hg
/-! SubgroupWriterModel.growsBack(I)V -/
theorem zs_235 : zm_srt zp_235 = true := by decide +kernel
noncomputable def zb_235_0 (lay : zm_Lay) (σ : zm_Sig) (r0 : Nat) (i1 : Int32) : Option (zm_St ⊕ zm_Out) :=
  some (.inl (2, [(0, .ref r0), (2, .int i1)], [], lay, σ, 0, 0))
set_option maxRecDepth 100000 in
theorem zr_235_0 (lay : zm_Lay) (σ : zm_Sig) (r0 : Nat) (i1 : Int32) : zm_blk zM zp_235 none 0 0 zc_235 19 (zp_235.drop 0) (0, [(0, .ref r0), (1, .int i1)], [], lay, σ, 0, 0) = zb_235_0 lay σ r0 i1 := rfl
theorem ze_235 {lay : zm_Lay} {σ : zm_Sig} {r0 : Nat} {i1 : Int32} {out : zm_Out} {r : zm_St ⊕ zm_Out} (h : zb_235_0 lay σ r0 i1 = some r) (hg : zm_end zp_P 235 out r) : zM 235 [.ref r0, .int i1] lay σ = some out :=
  zm_mean_go (M := zd_235) rfl (Nat.le_of_ble_eq_true rfl) (zm_blk_go (M := zd_235) rfl zs_235 19 (zp_235.drop 0) _ r (fun _ h => List.mem_of_mem_drop h) ((zr_235_0 lay σ r0 i1).trans h) hg)
noncomputable def zb_235_2 (lay : zm_Lay) (σ : zm_Sig) (r0 : Nat) (i2 : Int32) : Option (zm_St ⊕ zm_Out) :=
  if i2 = 0 then (some (.inr (none, lay, σ)))
  else ((zm_is lay r0 10).bind fun _ =>
   zm_opt (σ.2.2 r0 12) (fun q1 =>
   (zm_gI lay σ q1 i2).bind fun v2 =>
   (zm_is lay r0 10).bind fun _ => (zm_av (zM 213 [.ref r0, .int (-v2)] lay σ)).bind fun q3 =>
   (zm_is q3.1 r0 10).bind fun _ =>
   zm_opt (q3.2.2.2 r0 11) (fun q4 =>
   (zm_gI q3.1 q3.2 q4 i2).bind fun v5 =>
   some (.inl (2, [(0, .ref r0), (2, .int v5)], [], q3.1, q3.2, 0, 0))) (none)) (none))
set_option maxRecDepth 100000 in
theorem zr_235_2 (lay : zm_Lay) (σ : zm_Sig) (r0 : Nat) (i2 : Int32) : zm_blk zM zp_235 none 0 0 zc_235 19 (zp_235.drop 2) (2, [(0, .ref r0), (2, .int i2)], [], lay, σ, 0, 0) = zb_235_2 lay σ r0 i2 := rfl
theorem zg_235_2 {lay : zm_Lay} {σ : zm_Sig} {r0 : Nat} {i2 : Int32} {out : zm_Out} {r : zm_St ⊕ zm_Out} (h : zb_235_2 lay σ r0 i2 = some r) (hg : zm_end zp_P 235 out r) : zm_go zp_P 235 (2, [(0, .ref r0), (2, .int i2)], [], lay, σ, 0, 0) out :=
  zm_blk_go (M := zd_235) rfl zs_235 19 (zp_235.drop 2) _ r (fun _ h => List.mem_of_mem_drop h) ((zr_235_2 lay σ r0 i2).trans h) hg
/-! SubgroupWriterModel.rule(II)I -/
theorem zs_236 : zm_srt zp_236 = true := by decide +kernel
noncomputable def zb_236_0 (lay : zm_Lay) (σ : zm_Sig) (r0 : Nat) (i1 : Int32) (i2 : Int32) : Option (zm_St ⊕ zm_Out) :=
  (zm_is lay r0 10).bind fun _ => (zm_ai (zM 237 [.ref r0, .int i1] lay σ)).bind fun q1 =>
  if q1.1 = 0 then (some (.inr (some (.int (-1)), q1.2.1, q1.2.2)))
  else ((zm_is q1.2.1 r0 10).bind fun _ =>
   zm_opt (q1.2.2.2.2 r0 21) (fun q2 =>
   (zm_gI q1.2.1 q1.2.2 q2 (((nI 3) : Int32) + i1)).bind fun v3 =>
   (zm_ai (zM 176 [.int i2, .int 0, .int (v3 - 1)] q1.2.1 q1.2.2)).bind fun q4 =>
   if q4.1 = 0 then (some (.inr (some (.int (-1)), q4.2.1, q4.2.2)))
   else ((zm_is q4.2.1 r0 10).bind fun _ => (zm_ai (zM 238 [.ref r0, .int i1, .int i2] q4.2.1 q4.2.2)).bind fun q5 =>
    (zm_is q5.2.1 r0 10).bind fun _ =>
    zm_opt (q5.2.2.2.2 r0 21) (fun q6 =>
    (zm_gI q5.2.1 q5.2.2 q6 (((nI 3) : Int32) + i1)).bind fun v7 =>
    (zm_is q5.2.1 r0 10).bind fun _ => (zm_ai (zM 181 [.ref r0, .int q5.1, .int v7] q5.2.1 q5.2.2)).bind fun q8 =>
    some (.inr (some (.int q8.1), q8.2.1, q8.2.2))) (none))) (none))
set_option maxRecDepth 100000 in
theorem zr_236_0 (lay : zm_Lay) (σ : zm_Sig) (r0 : Nat) (i1 : Int32) (i2 : Int32) : zm_blk zM zp_236 (some .int) 0 0 zc_236 32 (zp_236.drop 0) (0, [(0, .ref r0), (1, .int i1), (2, .int i2)], [], lay, σ, 0, 0) = zb_236_0 lay σ r0 i1 i2 := rfl
theorem ze_236 {lay : zm_Lay} {σ : zm_Sig} {r0 : Nat} {i1 : Int32} {i2 : Int32} {out : zm_Out} {r : zm_St ⊕ zm_Out} (h : zb_236_0 lay σ r0 i1 i2 = some r) (hg : zm_end zp_P 236 out r) : zM 236 [.ref r0, .int i1, .int i2] lay σ = some out :=
  zm_mean_go (M := zd_236) rfl (Nat.le_of_ble_eq_true rfl) (zm_blk_go (M := zd_236) rfl zs_236 32 (zp_236.drop 0) _ r (fun _ h => List.mem_of_mem_drop h) ((zr_236_0 lay σ r0 i1 i2).trans h) hg)
/-! SubgroupWriterModel.isRule(I)Z -/
theorem zs_237 : zm_srt zp_237 = true := by decide +kernel
noncomputable def zb_237_0 (lay : zm_Lay) (σ : zm_Sig) (r0 : Nat) (i1 : Int32) : Option (zm_St ⊕ zm_Out) :=
  (zm_is lay r0 10).bind fun _ =>
  zm_opt (σ.2.2 r0 21) (fun q1 =>
  (zm_gI lay σ q1 1).bind fun v2 =>
  (zm_ai (zM 176 [.int i1, .int 0, .int (v2 - 1)] lay σ)).bind fun q3 =>
  if q3.1 = 0 ∨ q3.1 = 1 then some (.inr (some (.int q3.1), q3.2.1, q3.2.2)) else none) (none)
set_option maxRecDepth 100000 in
theorem zr_237_0 (lay : zm_Lay) (σ : zm_Sig) (r0 : Nat) (i1 : Int32) : zm_blk zM zp_237 (some .boolean) 0 0 zc_237 11 (zp_237.drop 0) (0, [(0, .ref r0), (1, .int i1)], [], lay, σ, 0, 0) = zb_237_0 lay σ r0 i1 := rfl
theorem ze_237 {lay : zm_Lay} {σ : zm_Sig} {r0 : Nat} {i1 : Int32} {out : zm_Out} {r : zm_St ⊕ zm_Out} (h : zb_237_0 lay σ r0 i1 = some r) (hg : zm_end zp_P 237 out r) : zM 237 [.ref r0, .int i1] lay σ = some out :=
  zm_mean_go (M := zd_237) rfl (Nat.le_of_ble_eq_true rfl) (zm_blk_go (M := zd_237) rfl zs_237 11 (zp_237.drop 0) _ r (fun _ h => List.mem_of_mem_drop h) ((zr_237_0 lay σ r0 i1).trans h) hg)
/-! SubgroupWriterModel.signIn(II)I -/
theorem zs_238 : zm_srt zp_238 = true := by decide +kernel
noncomputable def zb_238_0 (lay : zm_Lay) (σ : zm_Sig) (r0 : Nat) (i1 : Int32) (i2 : Int32) : Option (zm_St ⊕ zm_Out) :=
  (zm_is lay r0 10).bind fun _ =>
  zm_opt (σ.2.2 r0 21) (fun q1 =>
  (zm_gI lay σ q1 ((((nI 18) : Int32) + (((nI 16) : Int32) * i1)) + i2)).bind fun v2 =>
  some (.inr (some (.int v2), lay, σ))) (none)
set_option maxRecDepth 100000 in
theorem zr_238_0 (lay : zm_Lay) (σ : zm_Sig) (r0 : Nat) (i1 : Int32) (i2 : Int32) : zm_blk zM zp_238 (some .int) 0 0 zc_238 12 (zp_238.drop 0) (0, [(0, .ref r0), (1, .int i1), (2, .int i2)], [], lay, σ, 0, 0) = zb_238_0 lay σ r0 i1 i2 := rfl
theorem ze_238 {lay : zm_Lay} {σ : zm_Sig} {r0 : Nat} {i1 : Int32} {i2 : Int32} {out : zm_Out} {r : zm_St ⊕ zm_Out} (h : zb_238_0 lay σ r0 i1 i2 = some r) (hg : zm_end zp_P 238 out r) : zM 238 [.ref r0, .int i1, .int i2] lay σ = some out :=
  zm_mean_go (M := zd_238) rfl (Nat.le_of_ble_eq_true rfl) (zm_blk_go (M := zd_238) rfl zs_238 12 (zp_238.drop 0) _ r (fun _ h => List.mem_of_mem_drop h) ((zr_238_0 lay σ r0 i1 i2).trans h) hg)
/-! SubgroupWriterModel.often(II)I -/
theorem zs_239 : zm_srt zp_239 = true := by decide +kernel
noncomputable def zb_239_0 (lay : zm_Lay) (σ : zm_Sig) (r0 : Nat) (i1 : Int32) (i2 : Int32) : Option (zm_St ⊕ zm_Out) :=
  (zm_is lay r0 10).bind fun _ => (zm_ai (zM 237 [.ref r0, .int i1] lay σ)).bind fun q1 =>
  if q1.1 = 0 then (some (.inr (some (.int (-1)), q1.2.1, q1.2.2)))
  else ((zm_is q1.2.1 r0 10).bind fun _ => (zm_ai (zM 240 [.ref r0, .int i2] q1.2.1 q1.2.2)).bind fun q2 =>
   if q2.1 = 0 then (some (.inr (some (.int (-1)), q2.2.1, q2.2.2)))
   else ((zm_is q2.2.1 r0 10).bind fun _ => (zm_ai (zM 241 [.ref r0, .int i1, .int i2] q2.2.1 q2.2.2)).bind fun q3 =>
    (zm_is q3.2.1 r0 10).bind fun _ => (zm_ai (zM 242 [.ref r0, .int i1, .int i2] q3.2.1 q3.2.2)).bind fun q4 =>
    (zm_is q4.2.1 r0 10).bind fun _ => (zm_ai (zM 181 [.ref r0, .int q3.1, .int q4.1] q4.2.1 q4.2.2)).bind fun q5 =>
    some (.inr (some (.int q5.1), q5.2.1, q5.2.2))))
set_option maxRecDepth 100000 in
theorem zr_239_0 (lay : zm_Lay) (σ : zm_Sig) (r0 : Nat) (i1 : Int32) (i2 : Int32) : zm_blk zM zp_239 (some .int) 0 0 zc_239 22 (zp_239.drop 0) (0, [(0, .ref r0), (1, .int i1), (2, .int i2)], [], lay, σ, 0, 0) = zb_239_0 lay σ r0 i1 i2 := rfl
theorem ze_239 {lay : zm_Lay} {σ : zm_Sig} {r0 : Nat} {i1 : Int32} {i2 : Int32} {out : zm_Out} {r : zm_St ⊕ zm_Out} (h : zb_239_0 lay σ r0 i1 i2 = some r) (hg : zm_end zp_P 239 out r) : zM 239 [.ref r0, .int i1, .int i2] lay σ = some out :=
  zm_mean_go (M := zd_239) rfl (Nat.le_of_ble_eq_true rfl) (zm_blk_go (M := zd_239) rfl zs_239 22 (zp_239.drop 0) _ r (fun _ h => List.mem_of_mem_drop h) ((zr_239_0 lay σ r0 i1 i2).trans h) hg)
/-! SubgroupWriterModel.isLeft(I)Z -/
theorem zs_240 : zm_srt zp_240 = true := by decide +kernel
noncomputable def zb_240_0 (lay : zm_Lay) (σ : zm_Sig) (r0 : Nat) (i1 : Int32) : Option (zm_St ⊕ zm_Out) :=
  (zm_is lay r0 10).bind fun _ =>
  (zm_ai (zM 176 [.int i1, .int 1, .int (σ.1 r0 20)] lay σ)).bind fun q1 =>
  if q1.1 = 0 then (some (.inr (some (.int 0), q1.2.1, q1.2.2)))
  else ((zm_is q1.2.1 r0 10).bind fun _ =>
   if (q1.2.2.1 r0 4) ≤ 0 then (some (.inr (some (.int 0), q1.2.1, q1.2.2)))
   else ((zm_is q1.2.1 r0 10).bind fun _ =>
    zm_opt (q1.2.2.2.2 r0 21) (fun q2 =>
    (zm_gI q1.2.1 q1.2.2 q2 (nI 2)).bind fun v3 =>
    (zm_ai (zM 194 [.int v3, .int (i1 - 1)] q1.2.1 q1.2.2)).bind fun q4 =>
    if q4.1 = 0 then (some (.inr (some (.int 0), q4.2.1, q4.2.2)))
    else (some (.inr (some (.int 1), q4.2.1, q4.2.2)))) (none)))
set_option maxRecDepth 100000 in
theorem zr_240_0 (lay : zm_Lay) (σ : zm_Sig) (r0 : Nat) (i1 : Int32) : zm_blk zM zp_240 (some .boolean) 0 0 zc_240 23 (zp_240.drop 0) (0, [(0, .ref r0), (1, .int i1)], [], lay, σ, 0, 0) = zb_240_0 lay σ r0 i1 := rfl
theorem ze_240 {lay : zm_Lay} {σ : zm_Sig} {r0 : Nat} {i1 : Int32} {out : zm_Out} {r : zm_St ⊕ zm_Out} (h : zb_240_0 lay σ r0 i1 = some r) (hg : zm_end zp_P 240 out r) : zM 240 [.ref r0, .int i1] lay σ = some out :=
  zm_mean_go (M := zd_240) rfl (Nat.le_of_ble_eq_true rfl) (zm_blk_go (M := zd_240) rfl zs_240 23 (zp_240.drop 0) _ r (fun _ h => List.mem_of_mem_drop h) ((zr_240_0 lay σ r0 i1).trans h) hg)
/-! SubgroupWriterModel.netIn(II)I -/
theorem zs_241 : zm_srt zp_241 = true := by decide +kernel
noncomputable def zb_241_0 (lay : zm_Lay) (σ : zm_Sig) (r0 : Nat) (i1 : Int32) (i2 : Int32) : Option (zm_St ⊕ zm_Out) :=
  some (.inl (5, [(0, .ref r0), (1, .int i1), (2, .int i2), (3, .int 0), (4, .int 0)], [], lay, σ, 0, 0))
set_option maxRecDepth 100000 in
theorem zr_241_0 (lay : zm_Lay) (σ : zm_Sig) (r0 : Nat) (i1 : Int32) (i2 : Int32) : zm_blk zM zp_241 (some .int) 0 0 zc_241 38 (zp_241.drop 0) (0, [(0, .ref r0), (1, .int i1), (2, .int i2)], [], lay, σ, 0, 0) = zb_241_0 lay σ r0 i1 i2 := rfl
theorem ze_241 {lay : zm_Lay} {σ : zm_Sig} {r0 : Nat} {i1 : Int32} {i2 : Int32} {out : zm_Out} {r : zm_St ⊕ zm_Out} (h : zb_241_0 lay σ r0 i1 i2 = some r) (hg : zm_end zp_P 241 out r) : zM 241 [.ref r0, .int i1, .int i2] lay σ = some out :=
  zm_mean_go (M := zd_241) rfl (Nat.le_of_ble_eq_true rfl) (zm_blk_go (M := zd_241) rfl zs_241 38 (zp_241.drop 0) _ r (fun _ h => List.mem_of_mem_drop h) ((zr_241_0 lay σ r0 i1 i2).trans h) hg)
noncomputable def zb_241_5 (lay : zm_Lay) (σ : zm_Sig) (r0 : Nat) (i1 : Int32) (i2 : Int32) (i3 : Int32) (i4 : Int32) : Option (zm_St ⊕ zm_Out) :=
  (zm_is lay r0 10).bind fun _ =>
  zm_opt (σ.2.2 r0 21) (fun q1 =>
  (zm_gI lay σ q1 (((nI 3) : Int32) + i1)).bind fun v2 =>
  if v2 ≤ i4 then (some (.inr (some (.int i3), lay, σ)))
  else ((zm_is lay r0 10).bind fun _ => (zm_ai (zM 238 [.ref r0, .int i1, .int i4] lay σ)).bind fun q3 =>
   if ¬ q3.1 = i2 then ((zm_is q3.2.1 r0 10).bind fun _ => (zm_ai (zM 238 [.ref r0, .int i1, .int i4] q3.2.1 q3.2.2)).bind fun q4 =>
    if ¬ q4.1 = (-i2) then (some (.inl (5, [(0, .ref r0), (1, .int i1), (2, .int i2), (3, .int (i3 + 0)), (4, .int (i4 + 1))], [], q4.2.1, q4.2.2, 0, 0)))
    else (some (.inl (5, [(0, .ref r0), (1, .int i1), (2, .int i2), (3, .int (i3 + (-1))), (4, .int (i4 + 1))], [], q4.2.1, q4.2.2, 0, 0))))
   else (some (.inl (5, [(0, .ref r0), (1, .int i1), (2, .int i2), (3, .int (i3 + 1)), (4, .int (i4 + 1))], [], q3.2.1, q3.2.2, 0, 0))))) (none)
set_option maxRecDepth 100000 in
theorem zr_241_5 (lay : zm_Lay) (σ : zm_Sig) (r0 : Nat) (i1 : Int32) (i2 : Int32) (i3 : Int32) (i4 : Int32) : zm_blk zM zp_241 (some .int) 0 0 zc_241 38 (zp_241.drop 4) (5, [(0, .ref r0), (1, .int i1), (2, .int i2), (3, .int i3), (4, .int i4)], [], lay, σ, 0, 0) = zb_241_5 lay σ r0 i1 i2 i3 i4 := rfl
theorem zg_241_5 {lay : zm_Lay} {σ : zm_Sig} {r0 : Nat} {i1 : Int32} {i2 : Int32} {i3 : Int32} {i4 : Int32} {out : zm_Out} {r : zm_St ⊕ zm_Out} (h : zb_241_5 lay σ r0 i1 i2 i3 i4 = some r) (hg : zm_end zp_P 241 out r) : zm_go zp_P 241 (5, [(0, .ref r0), (1, .int i1), (2, .int i2), (3, .int i3), (4, .int i4)], [], lay, σ, 0, 0) out :=
  zm_blk_go (M := zd_241) rfl zs_241 38 (zp_241.drop 4) _ r (fun _ h => List.mem_of_mem_drop h) ((zr_241_5 lay σ r0 i1 i2 i3 i4).trans h) hg
/-! SubgroupWriterModel.oftenIn(II)I -/
theorem zs_242 : zm_srt zp_242 = true := by decide +kernel
noncomputable def zb_242_0 (lay : zm_Lay) (σ : zm_Sig) (r0 : Nat) (i1 : Int32) (i2 : Int32) : Option (zm_St ⊕ zm_Out) :=
  some (.inl (5, [(0, .ref r0), (1, .int i1), (2, .int i2), (3, .int 0), (4, .int 0)], [], lay, σ, 0, 0))
set_option maxRecDepth 100000 in
theorem zr_242_0 (lay : zm_Lay) (σ : zm_Sig) (r0 : Nat) (i1 : Int32) (i2 : Int32) : zm_blk zM zp_242 (some .int) 0 0 zc_242 36 (zp_242.drop 0) (0, [(0, .ref r0), (1, .int i1), (2, .int i2)], [], lay, σ, 0, 0) = zb_242_0 lay σ r0 i1 i2 := rfl
theorem ze_242 {lay : zm_Lay} {σ : zm_Sig} {r0 : Nat} {i1 : Int32} {i2 : Int32} {out : zm_Out} {r : zm_St ⊕ zm_Out} (h : zb_242_0 lay σ r0 i1 i2 = some r) (hg : zm_end zp_P 242 out r) : zM 242 [.ref r0, .int i1, .int i2] lay σ = some out :=
  zm_mean_go (M := zd_242) rfl (Nat.le_of_ble_eq_true rfl) (zm_blk_go (M := zd_242) rfl zs_242 36 (zp_242.drop 0) _ r (fun _ h => List.mem_of_mem_drop h) ((zr_242_0 lay σ r0 i1 i2).trans h) hg)
noncomputable def zb_242_5 (lay : zm_Lay) (σ : zm_Sig) (r0 : Nat) (i1 : Int32) (i2 : Int32) (i3 : Int32) (i4 : Int32) : Option (zm_St ⊕ zm_Out) :=
  (zm_is lay r0 10).bind fun _ =>
  zm_opt (σ.2.2 r0 21) (fun q1 =>
  (zm_gI lay σ q1 (((nI 3) : Int32) + i1)).bind fun v2 =>
  if v2 ≤ i4 then (some (.inr (some (.int i3), lay, σ)))
  else ((zm_is lay r0 10).bind fun _ => (zm_ai (zM 238 [.ref r0, .int i1, .int i4] lay σ)).bind fun q3 =>
   if q3.1 = i2 then (some (.inl (5, [(0, .ref r0), (1, .int i1), (2, .int i2), (3, .int (i3 + 1)), (4, .int (i4 + 1))], [], q3.2.1, q3.2.2, 0, 0)))
   else ((zm_is q3.2.1 r0 10).bind fun _ => (zm_ai (zM 238 [.ref r0, .int i1, .int i4] q3.2.1 q3.2.2)).bind fun q4 =>
    if ¬ q4.1 = (-i2) then (some (.inl (5, [(0, .ref r0), (1, .int i1), (2, .int i2), (3, .int (i3 + 0)), (4, .int (i4 + 1))], [], q4.2.1, q4.2.2, 0, 0)))
    else (some (.inl (5, [(0, .ref r0), (1, .int i1), (2, .int i2), (3, .int (i3 + 1)), (4, .int (i4 + 1))], [], q4.2.1, q4.2.2, 0, 0)))))) (none)
set_option maxRecDepth 100000 in
theorem zr_242_5 (lay : zm_Lay) (σ : zm_Sig) (r0 : Nat) (i1 : Int32) (i2 : Int32) (i3 : Int32) (i4 : Int32) : zm_blk zM zp_242 (some .int) 0 0 zc_242 36 (zp_242.drop 4) (5, [(0, .ref r0), (1, .int i1), (2, .int i2), (3, .int i3), (4, .int i4)], [], lay, σ, 0, 0) = zb_242_5 lay σ r0 i1 i2 i3 i4 := rfl
theorem zg_242_5 {lay : zm_Lay} {σ : zm_Sig} {r0 : Nat} {i1 : Int32} {i2 : Int32} {i3 : Int32} {i4 : Int32} {out : zm_Out} {r : zm_St ⊕ zm_Out} (h : zb_242_5 lay σ r0 i1 i2 i3 i4 = some r) (hg : zm_end zp_P 242 out r) : zm_go zp_P 242 (5, [(0, .ref r0), (1, .int i1), (2, .int i2), (3, .int i3), (4, .int i4)], [], lay, σ, 0, 0) out :=
  zm_blk_go (M := zd_242) rfl zs_242 36 (zp_242.drop 4) _ r (fun _ h => List.mem_of_mem_drop h) ((zr_242_5 lay σ r0 i1 i2 i3 i4).trans h) hg
/-! SubgroupWriterModel.alike(II)I -/
theorem zs_243 : zm_srt zp_243 = true := by decide +kernel
noncomputable def zb_243_0 (lay : zm_Lay) (σ : zm_Sig) (r0 : Nat) (i1 : Int32) (i2 : Int32) : Option (zm_St ⊕ zm_Out) :=
  (zm_is lay r0 10).bind fun _ => (zm_ai (zM 237 [.ref r0, .int i1] lay σ)).bind fun q1 =>
  if q1.1 = 0 then (some (.inr (some (.int (-1)), q1.2.1, q1.2.2)))
  else ((zm_is q1.2.1 r0 10).bind fun _ => (zm_ai (zM 237 [.ref r0, .int i2] q1.2.1 q1.2.2)).bind fun q2 =>
   if q2.1 = 0 then (some (.inr (some (.int (-1)), q2.2.1, q2.2.2)))
   else (if ¬ i1 = i2 then ((zm_is q2.2.1 r0 10).bind fun _ =>
     zm_opt (q2.2.2.2.2 r0 21) (fun q3 =>
     (zm_gI q2.2.1 q2.2.2 q3 (((nI 3) : Int32) + i1)).bind fun v4 =>
     (zm_is q2.2.1 r0 10).bind fun _ =>
     zm_opt (q2.2.2.2.2 r0 21) (fun q5 =>
     (zm_gI q2.2.1 q2.2.2 q5 (((nI 3) : Int32) + i2)).bind fun v6 =>
     if ¬ v4 = v6 then (some (.inr (some (.int 0), q2.2.1, q2.2.2)))
     else ((zm_is q2.2.1 r0 10).bind fun _ => (zm_ai (zM 244 [.ref r0, .int i1, .int i2] q2.2.1 q2.2.2)).bind fun q7 =>
      if q7.1 = 0 then (some (.inr (some (.int 0), q7.2.1, q7.2.2)))
      else (some (.inr (some (.int 1), q7.2.1, q7.2.2))))) (none)) (none))
    else (some (.inr (some (.int (-1)), q2.2.1, q2.2.2)))))
set_option maxRecDepth 100000 in
theorem zr_243_0 (lay : zm_Lay) (σ : zm_Sig) (r0 : Nat) (i1 : Int32) (i2 : Int32) : zm_blk zM zp_243 (some .int) 0 0 zc_243 36 (zp_243.drop 0) (0, [(0, .ref r0), (1, .int i1), (2, .int i2)], [], lay, σ, 0, 0) = zb_243_0 lay σ r0 i1 i2 := rfl
theorem ze_243 {lay : zm_Lay} {σ : zm_Sig} {r0 : Nat} {i1 : Int32} {i2 : Int32} {out : zm_Out} {r : zm_St ⊕ zm_Out} (h : zb_243_0 lay σ r0 i1 i2 = some r) (hg : zm_end zp_P 243 out r) : zM 243 [.ref r0, .int i1, .int i2] lay σ = some out :=
  zm_mean_go (M := zd_243) rfl (Nat.le_of_ble_eq_true rfl) (zm_blk_go (M := zd_243) rfl zs_243 36 (zp_243.drop 0) _ r (fun _ h => List.mem_of_mem_drop h) ((zr_243_0 lay σ r0 i1 i2).trans h) hg)
/-! SubgroupWriterModel.isAlike(II)Z -/
theorem zs_244 : zm_srt zp_244 = true := by decide +kernel
noncomputable def zb_244_0 (lay : zm_Lay) (σ : zm_Sig) (r0 : Nat) (i1 : Int32) (i2 : Int32) : Option (zm_St ⊕ zm_Out) :=
  (zm_is lay r0 10).bind fun _ =>
  zm_opt (σ.2.2 r0 21) (fun q1 =>
  (zm_gI lay σ q1 (((nI 3) : Int32) + i1)).bind fun v2 =>
  if ¬ v2 = 0 then (some (.inl (23, [(0, .ref r0), (1, .int i1), (2, .int i2), (3, .int v2), (4, .int 0), (5, .int 0)], [], lay, σ, 0, 0)))
  else (some (.inl (23, [(0, .ref r0), (1, .int i1), (2, .int i2), (3, .int v2), (4, .int 1), (5, .int 0)], [], lay, σ, 0, 0)))) (none)
set_option maxRecDepth 100000 in
theorem zr_244_0 (lay : zm_Lay) (σ : zm_Sig) (r0 : Nat) (i1 : Int32) (i2 : Int32) : zm_blk zM zp_244 (some .boolean) 0 0 zc_244 97 (zp_244.drop 0) (0, [(0, .ref r0), (1, .int i1), (2, .int i2)], [], lay, σ, 0, 0) = zb_244_0 lay σ r0 i1 i2 := rfl
theorem ze_244 {lay : zm_Lay} {σ : zm_Sig} {r0 : Nat} {i1 : Int32} {i2 : Int32} {out : zm_Out} {r : zm_St ⊕ zm_Out} (h : zb_244_0 lay σ r0 i1 i2 = some r) (hg : zm_end zp_P 244 out r) : zM 244 [.ref r0, .int i1, .int i2] lay σ = some out :=
  zm_mean_go (M := zd_244) rfl (Nat.le_of_ble_eq_true rfl) (zm_blk_go (M := zd_244) rfl zs_244 97 (zp_244.drop 0) _ r (fun _ h => List.mem_of_mem_drop h) ((zr_244_0 lay σ r0 i1 i2).trans h) hg)
noncomputable def zb_244_23 (lay : zm_Lay) (σ : zm_Sig) (r0 : Nat) (i1 : Int32) (i2 : Int32) (i3 : Int32) (i4 : Int32) (i5 : Int32) : Option (zm_St ⊕ zm_Out) :=
  if i3 ≤ i5 then (if i4 = 0 then (some (.inr (some (.int 0), lay, σ)))
   else ((zm_is lay r0 10).bind fun _ =>
    zm_opt (σ.2.2 r0 21) (fun q1 =>
    (zm_gI lay σ q1 (((nI 3) : Int32) + i2)).bind fun v2 =>
    if ¬ v2 = i3 then (some (.inr (some (.int 0), lay, σ)))
    else (some (.inr (some (.int 1), lay, σ)))) (none)))
  else (if ¬ i4 = 0 then (if i4 = 0 then (some (.inr (some (.int 0), lay, σ)))
    else ((zm_is lay r0 10).bind fun _ =>
     zm_opt (σ.2.2 r0 21) (fun q3 =>
     (zm_gI lay σ q3 (((nI 3) : Int32) + i2)).bind fun v4 =>
     if ¬ v4 = i3 then (some (.inr (some (.int 0), lay, σ)))
     else (some (.inr (some (.int 1), lay, σ)))) (none)))
   else (some (.inl (43, [(0, .ref r0), (1, .int i1), (2, .int i2), (3, .int i3), (5, .int i5), (6, .int 1), (7, .int 1), (8, .int 0)], [], lay, σ, 0, 0))))
set_option maxRecDepth 100000 in
theorem zr_244_23 (lay : zm_Lay) (σ : zm_Sig) (r0 : Nat) (i1 : Int32) (i2 : Int32) (i3 : Int32) (i4 : Int32) (i5 : Int32) : zm_blk zM zp_244 (some .boolean) 0 0 zc_244 97 (zp_244.drop 15) (23, [(0, .ref r0), (1, .int i1), (2, .int i2), (3, .int i3), (4, .int i4), (5, .int i5)], [], lay, σ, 0, 0) = zb_244_23 lay σ r0 i1 i2 i3 i4 i5 := rfl
theorem zg_244_23 {lay : zm_Lay} {σ : zm_Sig} {r0 : Nat} {i1 : Int32} {i2 : Int32} {i3 : Int32} {i4 : Int32} {i5 : Int32} {out : zm_Out} {r : zm_St ⊕ zm_Out} (h : zb_244_23 lay σ r0 i1 i2 i3 i4 i5 = some r) (hg : zm_end zp_P 244 out r) : zm_go zp_P 244 (23, [(0, .ref r0), (1, .int i1), (2, .int i2), (3, .int i3), (4, .int i4), (5, .int i5)], [], lay, σ, 0, 0) out :=
  zm_blk_go (M := zd_244) rfl zs_244 97 (zp_244.drop 15) _ r (fun _ h => List.mem_of_mem_drop h) ((zr_244_23 lay σ r0 i1 i2 i3 i4 i5).trans h) hg
noncomputable def zb_244_43 (lay : zm_Lay) (σ : zm_Sig) (r0 : Nat) (i1 : Int32) (i2 : Int32) (i3 : Int32) (i5 : Int32) (i6 : Int32) (i7 : Int32) (i8 : Int32) : Option (zm_St ⊕ zm_Out) :=
  if i3 ≤ i8 then (if ¬ i6 = 0 then (some (.inl (23, [(0, .ref r0), (1, .int i1), (2, .int i2), (3, .int i3), (4, .int 1), (5, .int (i5 + 1))], [], lay, σ, 0, 0)))
   else (if i7 = 0 then (some (.inl (23, [(0, .ref r0), (1, .int i1), (2, .int i2), (3, .int i3), (4, .int 0), (5, .int (i5 + 1))], [], lay, σ, 0, 0)))
    else (some (.inl (23, [(0, .ref r0), (1, .int i1), (2, .int i2), (3, .int i3), (4, .int 1), (5, .int (i5 + 1))], [], lay, σ, 0, 0)))))
  else (if i6 = 0 then (if i7 = 0 then (some (.inl (43, [(0, .ref r0), (1, .int i1), (2, .int i2), (3, .int i3), (5, .int i5), (6, .int 0), (7, .int 0), (8, .int (i8 + 1))], [], lay, σ, 0, 0)))
    else ((zm_is lay r0 10).bind fun _ => (zm_ai (zM 238 [.ref r0, .int i1, .int i8] lay σ)).bind fun q1 =>
     if i3 = 0 then none
     else ((zm_is q1.2.1 r0 10).bind fun _ => (zm_ai (zM 238 [.ref r0, .int i2, .int (((i5 + i3) - i8) - ((i5 + i3) - i8) / i3 * i3)] q1.2.1 q1.2.2)).bind fun q2 =>
     if ¬ q1.1 = (-q2.1) then (some (.inl (43, [(0, .ref r0), (1, .int i1), (2, .int i2), (3, .int i3), (5, .int i5), (6, .int 0), (7, .int 0), (8, .int (i8 + 1))], [], q2.2.1, q2.2.2, 0, 0)))
     else (some (.inl (43, [(0, .ref r0), (1, .int i1), (2, .int i2), (3, .int i3), (5, .int i5), (6, .int 0), (7, .int 1), (8, .int (i8 + 1))], [], q2.2.1, q2.2.2, 0, 0))))))
   else ((zm_is lay r0 10).bind fun _ => (zm_ai (zM 238 [.ref r0, .int i1, .int i8] lay σ)).bind fun q3 =>
    if i3 = 0 then none
    else ((zm_is q3.2.1 r0 10).bind fun _ => (zm_ai (zM 238 [.ref r0, .int i2, .int ((i8 + i5) - (i8 + i5) / i3 * i3)] q3.2.1 q3.2.2)).bind fun q4 =>
    if ¬ q3.1 = q4.1 then (if i7 = 0 then (some (.inl (43, [(0, .ref r0), (1, .int i1), (2, .int i2), (3, .int i3), (5, .int i5), (6, .int 0), (7, .int 0), (8, .int (i8 + 1))], [], q4.2.1, q4.2.2, 0, 0)))
     else ((zm_is q4.2.1 r0 10).bind fun _ => (zm_ai (zM 238 [.ref r0, .int i1, .int i8] q4.2.1 q4.2.2)).bind fun q5 =>
      if i3 = 0 then none
      else ((zm_is q5.2.1 r0 10).bind fun _ => (zm_ai (zM 238 [.ref r0, .int i2, .int (((i5 + i3) - i8) - ((i5 + i3) - i8) / i3 * i3)] q5.2.1 q5.2.2)).bind fun q6 =>
      if ¬ q5.1 = (-q6.1) then (some (.inl (43, [(0, .ref r0), (1, .int i1), (2, .int i2), (3, .int i3), (5, .int i5), (6, .int 0), (7, .int 0), (8, .int (i8 + 1))], [], q6.2.1, q6.2.2, 0, 0)))
      else (some (.inl (43, [(0, .ref r0), (1, .int i1), (2, .int i2), (3, .int i3), (5, .int i5), (6, .int 0), (7, .int 1), (8, .int (i8 + 1))], [], q6.2.1, q6.2.2, 0, 0))))))
    else (if i7 = 0 then (some (.inl (43, [(0, .ref r0), (1, .int i1), (2, .int i2), (3, .int i3), (5, .int i5), (6, .int 1), (7, .int 0), (8, .int (i8 + 1))], [], q4.2.1, q4.2.2, 0, 0)))
     else ((zm_is q4.2.1 r0 10).bind fun _ => (zm_ai (zM 238 [.ref r0, .int i1, .int i8] q4.2.1 q4.2.2)).bind fun q7 =>
      if i3 = 0 then none
      else ((zm_is q7.2.1 r0 10).bind fun _ => (zm_ai (zM 238 [.ref r0, .int i2, .int (((i5 + i3) - i8) - ((i5 + i3) - i8) / i3 * i3)] q7.2.1 q7.2.2)).bind fun q8 =>
      if ¬ q7.1 = (-q8.1) then (some (.inl (43, [(0, .ref r0), (1, .int i1), (2, .int i2), (3, .int i3), (5, .int i5), (6, .int 1), (7, .int 0), (8, .int (i8 + 1))], [], q8.2.1, q8.2.2, 0, 0)))
      else (some (.inl (43, [(0, .ref r0), (1, .int i1), (2, .int i2), (3, .int i3), (5, .int i5), (6, .int 1), (7, .int 1), (8, .int (i8 + 1))], [], q8.2.1, q8.2.2, 0, 0)))))))))
set_option maxRecDepth 100000 in
theorem zr_244_43 (lay : zm_Lay) (σ : zm_Sig) (r0 : Nat) (i1 : Int32) (i2 : Int32) (i3 : Int32) (i5 : Int32) (i6 : Int32) (i7 : Int32) (i8 : Int32) : zm_blk zM zp_244 (some .boolean) 0 0 zc_244 97 (zp_244.drop 26) (43, [(0, .ref r0), (1, .int i1), (2, .int i2), (3, .int i3), (5, .int i5), (6, .int i6), (7, .int i7), (8, .int i8)], [], lay, σ, 0, 0) = zb_244_43 lay σ r0 i1 i2 i3 i5 i6 i7 i8 := rfl
theorem zg_244_43 {lay : zm_Lay} {σ : zm_Sig} {r0 : Nat} {i1 : Int32} {i2 : Int32} {i3 : Int32} {i5 : Int32} {i6 : Int32} {i7 : Int32} {i8 : Int32} {out : zm_Out} {r : zm_St ⊕ zm_Out} (h : zb_244_43 lay σ r0 i1 i2 i3 i5 i6 i7 i8 = some r) (hg : zm_end zp_P 244 out r) : zm_go zp_P 244 (43, [(0, .ref r0), (1, .int i1), (2, .int i2), (3, .int i3), (5, .int i5), (6, .int i6), (7, .int i7), (8, .int i8)], [], lay, σ, 0, 0) out :=
  zm_blk_go (M := zd_244) rfl zs_244 97 (zp_244.drop 26) _ r (fun _ h => List.mem_of_mem_drop h) ((zr_244_43 lay σ r0 i1 i2 i3 i5 i6 i7 i8).trans h) hg
/-! SubgroupWriterModel.order(I)I -/
theorem zs_245 : zm_srt zp_245 = true := by decide +kernel
noncomputable def zb_245_0 (lay : zm_Lay) (σ : zm_Sig) (r0 : Nat) (i1 : Int32) : Option (zm_St ⊕ zm_Out) :=
  (zm_ai (zM 176 [.int i1, .int 0, .int (nI 2)] lay σ)).bind fun q1 =>
  if ¬ q1.1 = 0 then ((zm_is q1.2.1 r0 10).bind fun _ =>
   if (q1.2.2.1 r0 4) = 0 then (some (.inr (some (.int (-4)), q1.2.1, q1.2.2)))
   else ((zm_is q1.2.1 r0 10).bind fun _ =>
    zm_opt (q1.2.2.2.2 r0 21) (fun q2 =>
    (zm_gI q1.2.1 q1.2.2 q2 0).bind fun v3 =>
    if ¬ v3 = i1 then ((zm_is q1.2.1 r0 10).bind fun _ =>
     if ¬ (q1.2.2.1 r0 23) = (nI 20) then ((zm_is q1.2.1 r0 10).bind fun _ => (zm_av (zM 246 [.ref r0] q1.2.1 q1.2.2)).bind fun q4 =>
      (zm_is q4.1 r0 10).bind fun _ => (zm_av (zM 201 [.ref r0, .int i1] q4.1 q4.2)).bind fun q5 =>
      (zm_is q5.1 r0 10).bind fun _ =>
      zm_opt (q5.2.2.2 r0 21) (fun q6 =>
      (zm_gI q5.1 q5.2 q6 1).bind fun v7 =>
      some (.inr (some (.int v7), q5.1, q5.2))) (none))
     else (some (.inr (some (.int (-2)), q1.2.1, q1.2.2))))
    else (some (.inr (some (.int (-4)), q1.2.1, q1.2.2)))) (none)))
  else (some (.inr (some (.int (-1)), q1.2.1, q1.2.2)))
set_option maxRecDepth 100000 in
theorem zr_245_0 (lay : zm_Lay) (σ : zm_Sig) (r0 : Nat) (i1 : Int32) : zm_blk zM zp_245 (some .int) 0 0 zc_245 35 (zp_245.drop 0) (0, [(0, .ref r0), (1, .int i1)], [], lay, σ, 0, 0) = zb_245_0 lay σ r0 i1 := rfl
theorem ze_245 {lay : zm_Lay} {σ : zm_Sig} {r0 : Nat} {i1 : Int32} {out : zm_Out} {r : zm_St ⊕ zm_Out} (h : zb_245_0 lay σ r0 i1 = some r) (hg : zm_end zp_P 245 out r) : zM 245 [.ref r0, .int i1] lay σ = some out :=
  zm_mean_go (M := zd_245) rfl (Nat.le_of_ble_eq_true rfl) (zm_blk_go (M := zd_245) rfl zs_245 35 (zp_245.drop 0) _ r (fun _ h => List.mem_of_mem_drop h) ((zr_245_0 lay σ r0 i1).trans h) hg)
/-! SubgroupWriterModel.notes()V -/
theorem zs_246 : zm_srt zp_246 = true := by decide +kernel
noncomputable def zb_246_0 (lay : zm_Lay) (σ : zm_Sig) (r0 : Nat) : Option (zm_St ⊕ zm_Out) :=
  (zm_is lay r0 10).bind fun _ =>
  zm_opt (σ.2.2 r0 21) (fun q1 =>
  (zm_is lay r0 10).bind fun _ =>
  zm_opt (σ.2.2 r0 22) (fun q2 =>
  (zm_is lay r0 10).bind fun _ =>
  (zm_av (zM 200 [.ref q1, .int 0, .ref q2, .int (((nI 258) : Int32) * (σ.1 r0 23)), .int (nI 258)] lay σ)).bind fun q3 =>
  (zm_is q3.1 r0 10).bind fun _ =>
  (zm_is q3.1 r0 10).bind fun _ => (zm_fw q3.2 r0 23 0 (.int ((q3.2.1 r0 23) + 1))).bind fun s4 =>
  some (.inr (none, q3.1, s4))) (none)) (none)
set_option maxRecDepth 100000 in
theorem zr_246_0 (lay : zm_Lay) (σ : zm_Sig) (r0 : Nat) : zm_blk zM zp_246 none 0 0 zc_246 19 (zp_246.drop 0) (0, [(0, .ref r0)], [], lay, σ, 0, 0) = zb_246_0 lay σ r0 := rfl
theorem ze_246 {lay : zm_Lay} {σ : zm_Sig} {r0 : Nat} {out : zm_Out} {r : zm_St ⊕ zm_Out} (h : zb_246_0 lay σ r0 = some r) (hg : zm_end zp_P 246 out r) : zM 246 [.ref r0] lay σ = some out :=
  zm_mean_go (M := zd_246) rfl (Nat.le_of_ble_eq_true rfl) (zm_blk_go (M := zd_246) rfl zs_246 19 (zp_246.drop 0) _ r (fun _ h => List.mem_of_mem_drop h) ((zr_246_0 lay σ r0).trans h) hg)
/-! SubgroupWriterModel.turn(I)I -/
theorem zs_247 : zm_srt zp_247 = true := by decide +kernel
noncomputable def zb_247_0 (lay : zm_Lay) (σ : zm_Sig) (r0 : Nat) (i1 : Int32) : Option (zm_St ⊕ zm_Out) :=
  (zm_is lay r0 10).bind fun _ => (zm_ai (zM 237 [.ref r0, .int i1] lay σ)).bind fun q1 =>
  if ¬ q1.1 = 0 then ((zm_is q1.2.1 r0 10).bind fun _ =>
   zm_opt (q1.2.2.2.2 r0 21) (fun q2 =>
   (zm_gI q1.2.1 q1.2.2 q2 (((nI 3) : Int32) + i1)).bind fun v3 =>
   if ¬ v3 = 0 then ((zm_is q1.2.1 r0 10).bind fun _ =>
    if ¬ (q1.2.2.1 r0 23) = (nI 20) then ((zm_is q1.2.1 r0 10).bind fun _ => (zm_av (zM 246 [.ref r0] q1.2.1 q1.2.2)).bind fun q4 =>
     (zm_is q4.1 r0 10).bind fun _ => (zm_av (zM 248 [.ref r0, .int i1] q4.1 q4.2)).bind fun q5 =>
     (zm_is q5.1 r0 10).bind fun _ =>
     zm_opt (q5.2.2.2 r0 21) (fun q6 =>
     (zm_gI q5.1 q5.2 q6 (((nI 3) : Int32) + i1)).bind fun v7 =>
     some (.inr (some (.int v7), q5.1, q5.2))) (none))
    else (some (.inr (some (.int (-2)), q1.2.1, q1.2.2))))
   else (some (.inr (some (.int (-4)), q1.2.1, q1.2.2)))) (none))
  else (some (.inr (some (.int (-1)), q1.2.1, q1.2.2)))
set_option maxRecDepth 100000 in
theorem zr_247_0 (lay : zm_Lay) (σ : zm_Sig) (r0 : Nat) (i1 : Int32) : zm_blk zM zp_247 (some .int) 0 0 zc_247 34 (zp_247.drop 0) (0, [(0, .ref r0), (1, .int i1)], [], lay, σ, 0, 0) = zb_247_0 lay σ r0 i1 := rfl
theorem ze_247 {lay : zm_Lay} {σ : zm_Sig} {r0 : Nat} {i1 : Int32} {out : zm_Out} {r : zm_St ⊕ zm_Out} (h : zb_247_0 lay σ r0 i1 = some r) (hg : zm_end zp_P 247 out r) : zM 247 [.ref r0, .int i1] lay σ = some out :=
  zm_mean_go (M := zd_247) rfl (Nat.le_of_ble_eq_true rfl) (zm_blk_go (M := zd_247) rfl zs_247 34 (zp_247.drop 0) _ r (fun _ h => List.mem_of_mem_drop h) ((zr_247_0 lay σ r0 i1).trans h) hg)
/-! SubgroupWriterModel.turned(I)V -/
theorem zs_248 : zm_srt zp_248 = true := by decide +kernel
noncomputable def zb_248_0 (lay : zm_Lay) (σ : zm_Sig) (r0 : Nat) (i1 : Int32) : Option (zm_St ⊕ zm_Out) :=
  (zm_is lay r0 10).bind fun _ => (zm_fw σ r0 40 0 (.int 0)).bind fun s1 =>
  some (.inl (7, [(0, .ref r0), (1, .int i1), (2, .int 0)], [], lay, s1, 0, 0))
set_option maxRecDepth 100000 in
theorem zr_248_0 (lay : zm_Lay) (σ : zm_Sig) (r0 : Nat) (i1 : Int32) : zm_blk zM zp_248 none 0 0 zc_248 35 (zp_248.drop 0) (0, [(0, .ref r0), (1, .int i1)], [], lay, σ, 0, 0) = zb_248_0 lay σ r0 i1 := rfl
theorem ze_248 {lay : zm_Lay} {σ : zm_Sig} {r0 : Nat} {i1 : Int32} {out : zm_Out} {r : zm_St ⊕ zm_Out} (h : zb_248_0 lay σ r0 i1 = some r) (hg : zm_end zp_P 248 out r) : zM 248 [.ref r0, .int i1] lay σ = some out :=
  zm_mean_go (M := zd_248) rfl (Nat.le_of_ble_eq_true rfl) (zm_blk_go (M := zd_248) rfl zs_248 35 (zp_248.drop 0) _ r (fun _ h => List.mem_of_mem_drop h) ((zr_248_0 lay σ r0 i1).trans h) hg)
noncomputable def zb_248_7 (lay : zm_Lay) (σ : zm_Sig) (r0 : Nat) (i1 : Int32) (i2 : Int32) : Option (zm_St ⊕ zm_Out) :=
  (zm_is lay r0 10).bind fun _ =>
  zm_opt (σ.2.2 r0 21) (fun q1 =>
  (zm_gI lay σ q1 (((nI 3) : Int32) + i1)).bind fun v2 =>
  if v2 ≤ i2 then ((zm_is lay r0 10).bind fun _ => (zm_av (zM 214 [.ref r0, .int i1] lay σ)).bind fun q3 =>
   some (.inr (none, q3.1, q3.2)))
  else ((zm_is lay r0 10).bind fun _ =>
   zm_opt (σ.2.2 r0 21) (fun q4 =>
   (zm_gI lay σ q4 (((nI 3) : Int32) + i1)).bind fun v5 =>
   if v5 = 0 then none
   else ((zm_is lay r0 10).bind fun _ => (zm_ai (zM 238 [.ref r0, .int i1, .int ((i2 + 1) - (i2 + 1) / v5 * v5)] lay σ)).bind fun q6 =>
   (zm_is q6.2.1 r0 10).bind fun _ => (zm_av (zM 213 [.ref r0, .int q6.1] q6.2.1 q6.2.2)).bind fun q7 =>
   some (.inl (7, [(0, .ref r0), (1, .int i1), (2, .int (i2 + 1))], [], q7.1, q7.2, 0, 0)))) (none))) (none)
set_option maxRecDepth 100000 in
theorem zr_248_7 (lay : zm_Lay) (σ : zm_Sig) (r0 : Nat) (i1 : Int32) (i2 : Int32) : zm_blk zM zp_248 none 0 0 zc_248 35 (zp_248.drop 5) (7, [(0, .ref r0), (1, .int i1), (2, .int i2)], [], lay, σ, 0, 0) = zb_248_7 lay σ r0 i1 i2 := rfl
theorem zg_248_7 {lay : zm_Lay} {σ : zm_Sig} {r0 : Nat} {i1 : Int32} {i2 : Int32} {out : zm_Out} {r : zm_St ⊕ zm_Out} (h : zb_248_7 lay σ r0 i1 i2 = some r) (hg : zm_end zp_P 248 out r) : zm_go zp_P 248 (7, [(0, .ref r0), (1, .int i1), (2, .int i2)], [], lay, σ, 0, 0) out :=
  zm_blk_go (M := zd_248) rfl zs_248 35 (zp_248.drop 5) _ r (fun _ h => List.mem_of_mem_drop h) ((zr_248_7 lay σ r0 i1 i2).trans h) hg
/-! SubgroupWriterModel.over(I)I -/
theorem zs_249 : zm_srt zp_249 = true := by decide +kernel
noncomputable def zb_249_0 (lay : zm_Lay) (σ : zm_Sig) (r0 : Nat) (i1 : Int32) : Option (zm_St ⊕ zm_Out) :=
  (zm_is lay r0 10).bind fun _ => (zm_ai (zM 237 [.ref r0, .int i1] lay σ)).bind fun q1 =>
  if ¬ q1.1 = 0 then ((zm_is q1.2.1 r0 10).bind fun _ =>
   zm_opt (q1.2.2.2.2 r0 21) (fun q2 =>
   (zm_gI q1.2.1 q1.2.2 q2 (((nI 3) : Int32) + i1)).bind fun v3 =>
   if ¬ v3 = 0 then ((zm_is q1.2.1 r0 10).bind fun _ =>
    if ¬ (q1.2.2.1 r0 23) = (nI 20) then ((zm_is q1.2.1 r0 10).bind fun _ => (zm_av (zM 246 [.ref r0] q1.2.1 q1.2.2)).bind fun q4 =>
     (zm_is q4.1 r0 10).bind fun _ => (zm_av (zM 250 [.ref r0, .int i1] q4.1 q4.2)).bind fun q5 =>
     (zm_is q5.1 r0 10).bind fun _ =>
     zm_opt (q5.2.2.2 r0 21) (fun q6 =>
     (zm_gI q5.1 q5.2 q6 (((nI 3) : Int32) + i1)).bind fun v7 =>
     some (.inr (some (.int v7), q5.1, q5.2))) (none))
    else (some (.inr (some (.int (-2)), q1.2.1, q1.2.2))))
   else (some (.inr (some (.int (-4)), q1.2.1, q1.2.2)))) (none))
  else (some (.inr (some (.int (-1)), q1.2.1, q1.2.2)))
set_option maxRecDepth 100000 in
theorem zr_249_0 (lay : zm_Lay) (σ : zm_Sig) (r0 : Nat) (i1 : Int32) : zm_blk zM zp_249 (some .int) 0 0 zc_249 34 (zp_249.drop 0) (0, [(0, .ref r0), (1, .int i1)], [], lay, σ, 0, 0) = zb_249_0 lay σ r0 i1 := rfl
theorem ze_249 {lay : zm_Lay} {σ : zm_Sig} {r0 : Nat} {i1 : Int32} {out : zm_Out} {r : zm_St ⊕ zm_Out} (h : zb_249_0 lay σ r0 i1 = some r) (hg : zm_end zp_P 249 out r) : zM 249 [.ref r0, .int i1] lay σ = some out :=
  zm_mean_go (M := zd_249) rfl (Nat.le_of_ble_eq_true rfl) (zm_blk_go (M := zd_249) rfl zs_249 34 (zp_249.drop 0) _ r (fun _ h => List.mem_of_mem_drop h) ((zr_249_0 lay σ r0 i1).trans h) hg)
/-! SubgroupWriterModel.turnedOver(I)V -/
theorem zs_250 : zm_srt zp_250 = true := by decide +kernel
noncomputable def zb_250_0 (lay : zm_Lay) (σ : zm_Sig) (r0 : Nat) (i1 : Int32) : Option (zm_St ⊕ zm_Out) :=
  (zm_is lay r0 10).bind fun _ => (zm_fw σ r0 40 0 (.int 0)).bind fun s1 =>
  (zm_is lay r0 10).bind fun _ =>
  zm_opt (s1.2.2 r0 21) (fun q2 =>
  (zm_gI lay s1 q2 (((nI 3) : Int32) + i1)).bind fun v3 =>
  some (.inl (16, [(0, .ref r0), (1, .int i1), (2, .int (v3 - 1))], [], lay, s1, 0, 0))) (none)
set_option maxRecDepth 100000 in
theorem zr_250_0 (lay : zm_Lay) (σ : zm_Sig) (r0 : Nat) (i1 : Int32) : zm_blk zM zp_250 none 0 0 zc_250 28 (zp_250.drop 0) (0, [(0, .ref r0), (1, .int i1)], [], lay, σ, 0, 0) = zb_250_0 lay σ r0 i1 := rfl
theorem ze_250 {lay : zm_Lay} {σ : zm_Sig} {r0 : Nat} {i1 : Int32} {out : zm_Out} {r : zm_St ⊕ zm_Out} (h : zb_250_0 lay σ r0 i1 = some r) (hg : zm_end zp_P 250 out r) : zM 250 [.ref r0, .int i1] lay σ = some out :=
  zm_mean_go (M := zd_250) rfl (Nat.le_of_ble_eq_true rfl) (zm_blk_go (M := zd_250) rfl zs_250 28 (zp_250.drop 0) _ r (fun _ h => List.mem_of_mem_drop h) ((zr_250_0 lay σ r0 i1).trans h) hg)
noncomputable def zb_250_16 (lay : zm_Lay) (σ : zm_Sig) (r0 : Nat) (i1 : Int32) (i2 : Int32) : Option (zm_St ⊕ zm_Out) :=
  if i2 < 0 then ((zm_is lay r0 10).bind fun _ => (zm_av (zM 214 [.ref r0, .int i1] lay σ)).bind fun q1 =>
   some (.inr (none, q1.1, q1.2)))
  else ((zm_is lay r0 10).bind fun _ => (zm_ai (zM 238 [.ref r0, .int i1, .int i2] lay σ)).bind fun q2 =>
   (zm_is q2.2.1 r0 10).bind fun _ => (zm_av (zM 213 [.ref r0, .int (-q2.1)] q2.2.1 q2.2.2)).bind fun q3 =>
   some (.inl (16, [(0, .ref r0), (1, .int i1), (2, .int (i2 + (-1)))], [], q3.1, q3.2, 0, 0)))
set_option maxRecDepth 100000 in
theorem zr_250_16 (lay : zm_Lay) (σ : zm_Sig) (r0 : Nat) (i1 : Int32) (i2 : Int32) : zm_blk zM zp_250 none 0 0 zc_250 28 (zp_250.drop 12) (16, [(0, .ref r0), (1, .int i1), (2, .int i2)], [], lay, σ, 0, 0) = zb_250_16 lay σ r0 i1 i2 := rfl
theorem zg_250_16 {lay : zm_Lay} {σ : zm_Sig} {r0 : Nat} {i1 : Int32} {i2 : Int32} {out : zm_Out} {r : zm_St ⊕ zm_Out} (h : zb_250_16 lay σ r0 i1 i2 = some r) (hg : zm_end zp_P 250 out r) : zm_go zp_P 250 (16, [(0, .ref r0), (1, .int i1), (2, .int i2)], [], lay, σ, 0, 0) out :=
  zm_blk_go (M := zd_250) rfl zs_250 28 (zp_250.drop 12) _ r (fun _ h => List.mem_of_mem_drop h) ((zr_250_16 lay σ r0 i1 i2).trans h) hg
/-! SubgroupWriterModel.join(II)I -/
theorem zs_251 : zm_srt zp_251 = true := by decide +kernel
noncomputable def zb_251_0 (lay : zm_Lay) (σ : zm_Sig) (r0 : Nat) (i1 : Int32) (i2 : Int32) : Option (zm_St ⊕ zm_Out) :=
  (zm_is lay r0 10).bind fun _ => (zm_ai (zM 237 [.ref r0, .int i1] lay σ)).bind fun q1 =>
  if q1.1 = 0 then (some (.inr (some (.int (-1)), q1.2.1, q1.2.2)))
  else ((zm_is q1.2.1 r0 10).bind fun _ => (zm_ai (zM 237 [.ref r0, .int i2] q1.2.1 q1.2.2)).bind fun q2 =>
   if q2.1 = 0 then (some (.inr (some (.int (-1)), q2.2.1, q2.2.2)))
   else (if ¬ i1 = i2 then ((zm_is q2.2.1 r0 10).bind fun _ => (zm_av (zM 252 [.ref r0, .int i1, .int i2] q2.2.1 q2.2.2)).bind fun q3 =>
     (zm_is q3.1 r0 10).bind fun _ =>
     if (q3.2.1 r0 40) ≤ (nI 16) then ((zm_is q3.1 r0 10).bind fun _ =>
      if ¬ (q3.2.1 r0 23) = (nI 20) then ((zm_is q3.1 r0 10).bind fun _ => (zm_av (zM 246 [.ref r0] q3.1 q3.2)).bind fun q4 =>
       (zm_is q4.1 r0 10).bind fun _ => (zm_av (zM 214 [.ref r0, .int i1] q4.1 q4.2)).bind fun q5 =>
       (zm_is q5.1 r0 10).bind fun _ =>
       some (.inr (some (.int (q5.2.1 r0 40)), q5.1, q5.2)))
      else (some (.inr (some (.int (-2)), q3.1, q3.2))))
     else (some (.inr (some (.int (-6)), q3.1, q3.2))))
    else (some (.inr (some (.int (-1)), q2.2.1, q2.2.2)))))
set_option maxRecDepth 100000 in
theorem zr_251_0 (lay : zm_Lay) (σ : zm_Sig) (r0 : Nat) (i1 : Int32) (i2 : Int32) : zm_blk zM zp_251 (some .int) 0 0 zc_251 38 (zp_251.drop 0) (0, [(0, .ref r0), (1, .int i1), (2, .int i2)], [], lay, σ, 0, 0) = zb_251_0 lay σ r0 i1 i2 := rfl
theorem ze_251 {lay : zm_Lay} {σ : zm_Sig} {r0 : Nat} {i1 : Int32} {i2 : Int32} {out : zm_Out} {r : zm_St ⊕ zm_Out} (h : zb_251_0 lay σ r0 i1 i2 = some r) (hg : zm_end zp_P 251 out r) : zM 251 [.ref r0, .int i1, .int i2] lay σ = some out :=
  zm_mean_go (M := zd_251) rfl (Nat.le_of_ble_eq_true rfl) (zm_blk_go (M := zd_251) rfl zs_251 38 (zp_251.drop 0) _ r (fun _ h => List.mem_of_mem_drop h) ((zr_251_0 lay σ r0 i1 i2).trans h) hg)
/-! SubgroupWriterModel.joins(II)V -/
theorem zs_252 : zm_srt zp_252 = true := by decide +kernel
noncomputable def zb_252_0 (lay : zm_Lay) (σ : zm_Sig) (r0 : Nat) (i1 : Int32) (i2 : Int32) : Option (zm_St ⊕ zm_Out) :=
  (zm_is lay r0 10).bind fun _ => (zm_fw σ r0 40 0 (.int 0)).bind fun s1 =>
  some (.inl (7, [(0, .ref r0), (1, .int i1), (2, .int i2), (3, .int 0)], [], lay, s1, 0, 0))
set_option maxRecDepth 100000 in
theorem zr_252_0 (lay : zm_Lay) (σ : zm_Sig) (r0 : Nat) (i1 : Int32) (i2 : Int32) : zm_blk zM zp_252 none 0 0 zc_252 41 (zp_252.drop 0) (0, [(0, .ref r0), (1, .int i1), (2, .int i2)], [], lay, σ, 0, 0) = zb_252_0 lay σ r0 i1 i2 := rfl
theorem ze_252 {lay : zm_Lay} {σ : zm_Sig} {r0 : Nat} {i1 : Int32} {i2 : Int32} {out : zm_Out} {r : zm_St ⊕ zm_Out} (h : zb_252_0 lay σ r0 i1 i2 = some r) (hg : zm_end zp_P 252 out r) : zM 252 [.ref r0, .int i1, .int i2] lay σ = some out :=
  zm_mean_go (M := zd_252) rfl (Nat.le_of_ble_eq_true rfl) (zm_blk_go (M := zd_252) rfl zs_252 41 (zp_252.drop 0) _ r (fun _ h => List.mem_of_mem_drop h) ((zr_252_0 lay σ r0 i1 i2).trans h) hg)
noncomputable def zb_252_7 (lay : zm_Lay) (σ : zm_Sig) (r0 : Nat) (i1 : Int32) (i2 : Int32) (i3 : Int32) : Option (zm_St ⊕ zm_Out) :=
  (zm_is lay r0 10).bind fun _ =>
  zm_opt (σ.2.2 r0 21) (fun q1 =>
  (zm_gI lay σ q1 (((nI 3) : Int32) + i1)).bind fun v2 =>
  if v2 ≤ i3 then (some (.inl (37, [(0, .ref r0), (2, .int i2), (3, .int 0)], [], lay, σ, 0, 0)))
  else ((zm_is lay r0 10).bind fun _ => (zm_ai (zM 238 [.ref r0, .int i1, .int i3] lay σ)).bind fun q3 =>
   (zm_is q3.2.1 r0 10).bind fun _ => (zm_av (zM 213 [.ref r0, .int q3.1] q3.2.1 q3.2.2)).bind fun q4 =>
   some (.inl (7, [(0, .ref r0), (1, .int i1), (2, .int i2), (3, .int (i3 + 1))], [], q4.1, q4.2, 0, 0)))) (none)
set_option maxRecDepth 100000 in
theorem zr_252_7 (lay : zm_Lay) (σ : zm_Sig) (r0 : Nat) (i1 : Int32) (i2 : Int32) (i3 : Int32) : zm_blk zM zp_252 none 0 0 zc_252 41 (zp_252.drop 5) (7, [(0, .ref r0), (1, .int i1), (2, .int i2), (3, .int i3)], [], lay, σ, 0, 0) = zb_252_7 lay σ r0 i1 i2 i3 := rfl
theorem zg_252_7 {lay : zm_Lay} {σ : zm_Sig} {r0 : Nat} {i1 : Int32} {i2 : Int32} {i3 : Int32} {out : zm_Out} {r : zm_St ⊕ zm_Out} (h : zb_252_7 lay σ r0 i1 i2 i3 = some r) (hg : zm_end zp_P 252 out r) : zm_go zp_P 252 (7, [(0, .ref r0), (1, .int i1), (2, .int i2), (3, .int i3)], [], lay, σ, 0, 0) out :=
  zm_blk_go (M := zd_252) rfl zs_252 41 (zp_252.drop 5) _ r (fun _ h => List.mem_of_mem_drop h) ((zr_252_7 lay σ r0 i1 i2 i3).trans h) hg
noncomputable def zb_252_37 (lay : zm_Lay) (σ : zm_Sig) (r0 : Nat) (i2 : Int32) (i3 : Int32) : Option (zm_St ⊕ zm_Out) :=
  (zm_is lay r0 10).bind fun _ =>
  zm_opt (σ.2.2 r0 21) (fun q1 =>
  (zm_gI lay σ q1 (((nI 3) : Int32) + i2)).bind fun v2 =>
  if v2 ≤ i3 then (some (.inr (none, lay, σ)))
  else ((zm_is lay r0 10).bind fun _ => (zm_ai (zM 238 [.ref r0, .int i2, .int i3] lay σ)).bind fun q3 =>
   (zm_is q3.2.1 r0 10).bind fun _ => (zm_av (zM 213 [.ref r0, .int q3.1] q3.2.1 q3.2.2)).bind fun q4 =>
   some (.inl (37, [(0, .ref r0), (2, .int i2), (3, .int (i3 + 1))], [], q4.1, q4.2, 0, 0)))) (none)
set_option maxRecDepth 100000 in
theorem zr_252_37 (lay : zm_Lay) (σ : zm_Sig) (r0 : Nat) (i2 : Int32) (i3 : Int32) : zm_blk zM zp_252 none 0 0 zc_252 41 (zp_252.drop 23) (37, [(0, .ref r0), (2, .int i2), (3, .int i3)], [], lay, σ, 0, 0) = zb_252_37 lay σ r0 i2 i3 := rfl
theorem zg_252_37 {lay : zm_Lay} {σ : zm_Sig} {r0 : Nat} {i2 : Int32} {i3 : Int32} {out : zm_Out} {r : zm_St ⊕ zm_Out} (h : zb_252_37 lay σ r0 i2 i3 = some r) (hg : zm_end zp_P 252 out r) : zm_go zp_P 252 (37, [(0, .ref r0), (2, .int i2), (3, .int i3)], [], lay, σ, 0, 0) out :=
  zm_blk_go (M := zd_252) rfl zs_252 41 (zp_252.drop 23) _ r (fun _ h => List.mem_of_mem_drop h) ((zr_252_37 lay σ r0 i2 i3).trans h) hg
/-! SubgroupWriterModel.cut(I)I -/
theorem zs_253 : zm_srt zp_253 = true := by decide +kernel
noncomputable def zb_253_0 (lay : zm_Lay) (σ : zm_Sig) (r0 : Nat) (i1 : Int32) : Option (zm_St ⊕ zm_Out) :=
  (zm_is lay r0 10).bind fun _ => (zm_ai (zM 237 [.ref r0, .int i1] lay σ)).bind fun q1 =>
  if ¬ q1.1 = 0 then ((zm_is q1.2.1 r0 10).bind fun _ => (zm_ai (zM 254 [.ref r0, .int i1] q1.2.1 q1.2.2)).bind fun q2 =>
   if ¬ q2.1 = 0 then ((zm_is q2.2.1 r0 10).bind fun _ =>
    if ¬ (q2.2.2.1 r0 23) = (nI 20) then ((zm_is q2.2.1 r0 10).bind fun _ => (zm_av (zM 246 [.ref r0] q2.2.1 q2.2.2)).bind fun q3 =>
     (zm_is q3.1 r0 10).bind fun _ => (zm_av (zM 255 [.ref r0, .int i1] q3.1 q3.2)).bind fun q4 =>
     (zm_is q4.1 r0 10).bind fun _ =>
     zm_opt (q4.2.2.2 r0 21) (fun q5 =>
     (zm_gI q4.1 q4.2 q5 1).bind fun v6 =>
     some (.inr (some (.int v6), q4.1, q4.2))) (none))
    else (some (.inr (some (.int (-2)), q2.2.1, q2.2.2))))
   else (some (.inr (some (.int (-4)), q2.2.1, q2.2.2))))
  else (some (.inr (some (.int (-1)), q1.2.1, q1.2.2)))
set_option maxRecDepth 100000 in
theorem zr_253_0 (lay : zm_Lay) (σ : zm_Sig) (r0 : Nat) (i1 : Int32) : zm_blk zM zp_253 (some .int) 0 0 zc_253 29 (zp_253.drop 0) (0, [(0, .ref r0), (1, .int i1)], [], lay, σ, 0, 0) = zb_253_0 lay σ r0 i1 := rfl
theorem ze_253 {lay : zm_Lay} {σ : zm_Sig} {r0 : Nat} {i1 : Int32} {out : zm_Out} {r : zm_St ⊕ zm_Out} (h : zb_253_0 lay σ r0 i1 = some r) (hg : zm_end zp_P 253 out r) : zM 253 [.ref r0, .int i1] lay σ = some out :=
  zm_mean_go (M := zd_253) rfl (Nat.le_of_ble_eq_true rfl) (zm_blk_go (M := zd_253) rfl zs_253 29 (zp_253.drop 0) _ r (fun _ h => List.mem_of_mem_drop h) ((zr_253_0 lay σ r0 i1).trans h) hg)
/-! SubgroupWriterModel.mayCut(I)Z -/
theorem zs_254 : zm_srt zp_254 = true := by decide +kernel
noncomputable def zb_254_0 (lay : zm_Lay) (σ : zm_Sig) (r0 : Nat) (i1 : Int32) : Option (zm_St ⊕ zm_Out) :=
  (zm_is lay r0 10).bind fun _ =>
  zm_opt (σ.2.2 r0 21) (fun q1 =>
  (zm_gI lay σ q1 (((nI 3) : Int32) + i1)).bind fun v2 =>
  if ¬ v2 = 0 then (some (.inl (19, [(0, .ref r0), (1, .int i1), (2, .int 0), (3, .int 0)], [], lay, σ, 0, 0)))
  else (some (.inl (19, [(0, .ref r0), (1, .int i1), (2, .int 1), (3, .int 0)], [], lay, σ, 0, 0)))) (none)
set_option maxRecDepth 100000 in
theorem zr_254_0 (lay : zm_Lay) (σ : zm_Sig) (r0 : Nat) (i1 : Int32) : zm_blk zM zp_254 (some .boolean) 0 0 zc_254 45 (zp_254.drop 0) (0, [(0, .ref r0), (1, .int i1)], [], lay, σ, 0, 0) = zb_254_0 lay σ r0 i1 := rfl
theorem ze_254 {lay : zm_Lay} {σ : zm_Sig} {r0 : Nat} {i1 : Int32} {out : zm_Out} {r : zm_St ⊕ zm_Out} (h : zb_254_0 lay σ r0 i1 = some r) (hg : zm_end zp_P 254 out r) : zM 254 [.ref r0, .int i1] lay σ = some out :=
  zm_mean_go (M := zd_254) rfl (Nat.le_of_ble_eq_true rfl) (zm_blk_go (M := zd_254) rfl zs_254 45 (zp_254.drop 0) _ r (fun _ h => List.mem_of_mem_drop h) ((zr_254_0 lay σ r0 i1).trans h) hg)
noncomputable def zb_254_19 (lay : zm_Lay) (σ : zm_Sig) (r0 : Nat) (i1 : Int32) (i2 : Int32) (i3 : Int32) : Option (zm_St ⊕ zm_Out) :=
  if i1 ≤ i3 then (if i2 = 0 ∨ i2 = 1 then some (.inr (some (.int i2), lay, σ)) else none)
  else (if ¬ i2 = 0 then (if i2 = 0 ∨ i2 = 1 then some (.inr (some (.int i2), lay, σ)) else none)
   else ((zm_is lay r0 10).bind fun _ =>
    zm_opt (σ.2.2 r0 21) (fun q1 =>
    (zm_gI lay σ q1 (((nI 3) : Int32) + i3)).bind fun v2 =>
    (zm_is lay r0 10).bind fun _ =>
    zm_opt (σ.2.2 r0 21) (fun q3 =>
    (zm_gI lay σ q3 (((nI 3) : Int32) + i1)).bind fun v4 =>
    if ¬ v2 = v4 then (some (.inl (19, [(0, .ref r0), (1, .int i1), (2, .int 0), (3, .int (i3 + 1))], [], lay, σ, 0, 0)))
    else ((zm_is lay r0 10).bind fun _ => (zm_ai (zM 244 [.ref r0, .int i1, .int i3] lay σ)).bind fun q5 =>
     if q5.1 = 0 then (some (.inl (19, [(0, .ref r0), (1, .int i1), (2, .int 0), (3, .int (i3 + 1))], [], q5.2.1, q5.2.2, 0, 0)))
     else (some (.inl (19, [(0, .ref r0), (1, .int i1), (2, .int 1), (3, .int (i3 + 1))], [], q5.2.1, q5.2.2, 0, 0))))) (none)) (none)))
set_option maxRecDepth 100000 in
theorem zr_254_19 (lay : zm_Lay) (σ : zm_Sig) (r0 : Nat) (i1 : Int32) (i2 : Int32) (i3 : Int32) : zm_blk zM zp_254 (some .boolean) 0 0 zc_254 45 (zp_254.drop 13) (19, [(0, .ref r0), (1, .int i1), (2, .int i2), (3, .int i3)], [], lay, σ, 0, 0) = zb_254_19 lay σ r0 i1 i2 i3 := rfl
theorem zg_254_19 {lay : zm_Lay} {σ : zm_Sig} {r0 : Nat} {i1 : Int32} {i2 : Int32} {i3 : Int32} {out : zm_Out} {r : zm_St ⊕ zm_Out} (h : zb_254_19 lay σ r0 i1 i2 i3 = some r) (hg : zm_end zp_P 254 out r) : zm_go zp_P 254 (19, [(0, .ref r0), (1, .int i1), (2, .int i2), (3, .int i3)], [], lay, σ, 0, 0) out :=
  zm_blk_go (M := zd_254) rfl zs_254 45 (zp_254.drop 13) _ r (fun _ h => List.mem_of_mem_drop h) ((zr_254_19 lay σ r0 i1 i2 i3).trans h) hg
/-! SubgroupWriterModel.goesRule(I)V -/
theorem zs_255 : zm_srt zp_255 = true := by decide +kernel
noncomputable def zb_255_0 (lay : zm_Lay) (σ : zm_Sig) (r0 : Nat) (i1 : Int32) : Option (zm_St ⊕ zm_Out) :=
  (zm_is lay r0 10).bind fun _ =>
  zm_opt (σ.2.2 r0 21) (fun q1 =>
  (zm_gI lay σ q1 1).bind fun v2 =>
  (zm_sI lay σ q1 1 (v2 - 1)).bind fun s3 =>
  some (.inl (12, [(0, .ref r0), (2, .int i1)], [], lay, s3, 0, 0))) (none)
set_option maxRecDepth 100000 in
theorem zr_255_0 (lay : zm_Lay) (σ : zm_Sig) (r0 : Nat) (i1 : Int32) : zm_blk zM zp_255 none 0 0 zc_255 52 (zp_255.drop 0) (0, [(0, .ref r0), (1, .int i1)], [], lay, σ, 0, 0) = zb_255_0 lay σ r0 i1 := rfl
theorem ze_255 {lay : zm_Lay} {σ : zm_Sig} {r0 : Nat} {i1 : Int32} {out : zm_Out} {r : zm_St ⊕ zm_Out} (h : zb_255_0 lay σ r0 i1 = some r) (hg : zm_end zp_P 255 out r) : zM 255 [.ref r0, .int i1] lay σ = some out :=
  zm_mean_go (M := zd_255) rfl (Nat.le_of_ble_eq_true rfl) (zm_blk_go (M := zd_255) rfl zs_255 52 (zp_255.drop 0) _ r (fun _ h => List.mem_of_mem_drop h) ((zr_255_0 lay σ r0 i1).trans h) hg)
noncomputable def zb_255_12 (lay : zm_Lay) (σ : zm_Sig) (r0 : Nat) (i2 : Int32) : Option (zm_St ⊕ zm_Out) :=
  (zm_is lay r0 10).bind fun _ =>
  zm_opt (σ.2.2 r0 21) (fun q1 =>
  (zm_gI lay σ q1 1).bind fun v2 =>
  if v2 ≤ i2 then (some (.inr (none, lay, σ)))
  else ((zm_is lay r0 10).bind fun _ =>
   zm_opt (σ.2.2 r0 21) (fun q3 =>
   (zm_is lay r0 10).bind fun _ =>
   zm_opt (σ.2.2 r0 21) (fun q4 =>
   (zm_gI lay σ q4 ((((nI 3) : Int32) + i2) + 1)).bind fun v5 =>
   (zm_sI lay σ q3 (((nI 3) : Int32) + i2) v5).bind fun s6 =>
   (zm_is lay r0 10).bind fun _ =>
   zm_opt (s6.2.2 r0 21) (fun q7 =>
   (zm_is lay r0 10).bind fun _ =>
   zm_opt (s6.2.2 r0 21) (fun q8 =>
   (zm_av (zM 200 [.ref q7, .int (((nI 18) : Int32) + (((nI 16) : Int32) * (i2 + 1))), .ref q8, .int (((nI 18) : Int32) + (((nI 16) : Int32) * i2)), .int (nI 16)] lay s6)).bind fun q9 =>
   some (.inl (12, [(0, .ref r0), (2, .int (i2 + 1))], [], q9.1, q9.2, 0, 0))) (none)) (none)) (none)) (none))) (none)
set_option maxRecDepth 100000 in
theorem zr_255_12 (lay : zm_Lay) (σ : zm_Sig) (r0 : Nat) (i2 : Int32) : zm_blk zM zp_255 none 0 0 zc_255 52 (zp_255.drop 10) (12, [(0, .ref r0), (2, .int i2)], [], lay, σ, 0, 0) = zb_255_12 lay σ r0 i2 := rfl
theorem zg_255_12 {lay : zm_Lay} {σ : zm_Sig} {r0 : Nat} {i2 : Int32} {out : zm_Out} {r : zm_St ⊕ zm_Out} (h : zb_255_12 lay σ r0 i2 = some r) (hg : zm_end zp_P 255 out r) : zm_go zp_P 255 (12, [(0, .ref r0), (2, .int i2)], [], lay, σ, 0, 0) out :=
  zm_blk_go (M := zd_255) rfl zs_255 52 (zp_255.drop 10) _ r (fun _ h => List.mem_of_mem_drop h) ((zr_255_12 lay σ r0 i2).trans h) hg
