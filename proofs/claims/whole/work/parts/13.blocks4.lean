/-! SubgroupWriterModel.areNumbers(II)Z -/
theorem zs_230 : zm_srt zp_230 = true := by decide +kernel
noncomputable def zb_230_0 (lay : zm_Lay) (σ : zm_Sig) (r0 : Nat) (i1 : Int32) (i2 : Int32) : Option (zm_St ⊕ zm_Out) :=
  some (.inl (5, [(0, .ref r0), (1, .int i1), (2, .int i2), (3, .int 1), (4, .int 0)], [], lay, σ, 0, 0))
set_option maxRecDepth 100000 in
theorem zr_230_0 (lay : zm_Lay) (σ : zm_Sig) (r0 : Nat) (i1 : Int32) (i2 : Int32) : zm_blk zM zp_230 (some .boolean) 0 0 zc_230 38 (zp_230.drop 0) (0, [(0, .ref r0), (1, .int i1), (2, .int i2)], [], lay, σ, 0, 0) = zb_230_0 lay σ r0 i1 i2 := rfl
theorem ze_230 {lay : zm_Lay} {σ : zm_Sig} {r0 : Nat} {i1 : Int32} {i2 : Int32} {out : zm_Out} {r : zm_St ⊕ zm_Out} (h : zb_230_0 lay σ r0 i1 i2 = some r) (hg : zm_end zp_P 230 out r) : zM 230 [.ref r0, .int i1, .int i2] lay σ = some out :=
  zm_mean_go (M := zd_230) rfl (Nat.le_of_ble_eq_true rfl) (zm_blk_go (M := zd_230) rfl zs_230 38 (zp_230.drop 0) _ r (fun _ h => List.mem_of_mem_drop h) ((zr_230_0 lay σ r0 i1 i2).trans h) hg)
noncomputable def zb_230_5 (lay : zm_Lay) (σ : zm_Sig) (r0 : Nat) (i1 : Int32) (i2 : Int32) (i3 : Int32) (i4 : Int32) : Option (zm_St ⊕ zm_Out) :=
  (zm_is lay r0 10).bind fun _ =>
  zm_opt (σ.2.2 r0 0) (fun q1 =>
  (zm_gI lay σ q1 i1).bind fun v2 =>
  if v2 ≤ i4 then (if i3 = 0 ∨ i3 = 1 then some (.inr (some (.int i3), lay, σ)) else none)
  else ((zm_is lay r0 10).bind fun _ =>
   zm_opt (σ.2.2 r0 1) (fun q3 =>
   (zm_gI lay σ q3 ((((nI 40) : Int32) * i1) + i4)).bind fun v4 =>
   if i3 = 0 then (some (.inl (5, [(0, .ref r0), (1, .int i1), (2, .int i2), (3, .int 0), (4, .int (i4 + 1))], [], lay, σ, 0, 0)))
   else (if v4 = 0 then (some (.inl (5, [(0, .ref r0), (1, .int i1), (2, .int i2), (3, .int 0), (4, .int (i4 + 1))], [], lay, σ, 0, 0)))
    else ((zm_ai (zM 176 [.int v4, .int (-i2), .int i2] lay σ)).bind fun q5 =>
     if q5.1 = 0 then (some (.inl (5, [(0, .ref r0), (1, .int i1), (2, .int i2), (3, .int 0), (4, .int (i4 + 1))], [], q5.2.1, q5.2.2, 0, 0)))
     else (some (.inl (5, [(0, .ref r0), (1, .int i1), (2, .int i2), (3, .int 1), (4, .int (i4 + 1))], [], q5.2.1, q5.2.2, 0, 0)))))) (none))) (none)
set_option maxRecDepth 100000 in
theorem zr_230_5 (lay : zm_Lay) (σ : zm_Sig) (r0 : Nat) (i1 : Int32) (i2 : Int32) (i3 : Int32) (i4 : Int32) : zm_blk zM zp_230 (some .boolean) 0 0 zc_230 38 (zp_230.drop 4) (5, [(0, .ref r0), (1, .int i1), (2, .int i2), (3, .int i3), (4, .int i4)], [], lay, σ, 0, 0) = zb_230_5 lay σ r0 i1 i2 i3 i4 := rfl
theorem zg_230_5 {lay : zm_Lay} {σ : zm_Sig} {r0 : Nat} {i1 : Int32} {i2 : Int32} {i3 : Int32} {i4 : Int32} {out : zm_Out} {r : zm_St ⊕ zm_Out} (h : zb_230_5 lay σ r0 i1 i2 i3 i4 = some r) (hg : zm_end zp_P 230 out r) : zm_go zp_P 230 (5, [(0, .ref r0), (1, .int i1), (2, .int i2), (3, .int i3), (4, .int i4)], [], lay, σ, 0, 0) out :=
  zm_blk_go (M := zd_230) rfl zs_230 38 (zp_230.drop 4) _ r (fun _ h => List.mem_of_mem_drop h) ((zr_230_5 lay σ r0 i1 i2 i3 i4).trans h) hg
/-! SubgroupWriterModel.wordTo(I)V -/
theorem zs_231 : zm_srt zp_231 = true := by decide +kernel
noncomputable def zb_231_0 (lay : zm_Lay) (σ : zm_Sig) (r0 : Nat) (i1 : Int32) : Option (zm_St ⊕ zm_Out) :=
  (zm_is lay r0 10).bind fun _ =>
  (zm_is lay r0 10).bind fun _ => (zm_av (zM 178 [.ref r0, .int i1, .int (σ.1 r0 40)] lay σ)).bind fun q1 =>
  (zm_is q1.1 r0 10).bind fun _ =>
  zm_opt (q1.2.2.2 r0 39) (fun q2 =>
  (zm_is q1.1 r0 10).bind fun _ =>
  zm_opt (q1.2.2.2 r0 1) (fun q3 =>
  (zm_is q1.1 r0 10).bind fun _ =>
  (zm_av (zM 200 [.ref q2, .int 0, .ref q3, .int (((nI 40) : Int32) * i1), .int (q1.2.1 r0 40)] q1.1 q1.2)).bind fun q4 =>
  some (.inr (none, q4.1, q4.2))) (none)) (none)
set_option maxRecDepth 100000 in
theorem zr_231_0 (lay : zm_Lay) (σ : zm_Sig) (r0 : Nat) (i1 : Int32) : zm_blk zM zp_231 none 0 0 zc_231 18 (zp_231.drop 0) (0, [(0, .ref r0), (1, .int i1)], [], lay, σ, 0, 0) = zb_231_0 lay σ r0 i1 := rfl
theorem ze_231 {lay : zm_Lay} {σ : zm_Sig} {r0 : Nat} {i1 : Int32} {out : zm_Out} {r : zm_St ⊕ zm_Out} (h : zb_231_0 lay σ r0 i1 = some r) (hg : zm_end zp_P 231 out r) : zM 231 [.ref r0, .int i1] lay σ = some out :=
  zm_mean_go (M := zd_231) rfl (Nat.le_of_ble_eq_true rfl) (zm_blk_go (M := zd_231) rfl zs_231 18 (zp_231.drop 0) _ r (fun _ h => List.mem_of_mem_drop h) ((zr_231_0 lay σ r0 i1).trans h) hg)
/-! SubgroupWriterModel.spelt(II)I -/
theorem zs_232 : zm_srt zp_232 = true := by decide +kernel
noncomputable def zb_232_0 (lay : zm_Lay) (σ : zm_Sig) (r0 : Nat) (i1 : Int32) (i2 : Int32) : Option (zm_St ⊕ zm_Out) :=
  (zm_ai (zM 175 [.int i1] lay σ)).bind fun q1 =>
  if q1.1 = 0 then (some (.inr (some (.int (-1)), q1.2.1, q1.2.2)))
  else ((zm_ai (zM 175 [.int i2] q1.2.1 q1.2.2)).bind fun q2 =>
   if ¬ q2.1 = 0 then ((zm_is q2.2.1 r0 10).bind fun _ =>
    zm_opt (q2.2.2.2.2 r0 0) (fun q3 =>
    (zm_gI q2.2.1 q2.2.2 q3 i1).bind fun v4 =>
    if (0 : Int32) ≤ v4 then ((zm_is q2.2.1 r0 10).bind fun _ =>
     if ¬ (q2.2.2.1 r0 4) = 0 then ((zm_is q2.2.1 r0 10).bind fun _ =>
      (zm_is q2.2.1 r0 10).bind fun _ => (zm_ai (zM 230 [.ref r0, .int i1, .int (q2.2.2.1 r0 20)] q2.2.1 q2.2.2)).bind fun q5 =>
      if ¬ q5.1 = 0 then ((zm_is q5.2.1 r0 10).bind fun _ => (zm_fw q5.2.2 r0 40 0 (.int 0)).bind fun s6 =>
       some (.inl (67, [(0, .ref r0), (1, .int i1), (2, .int i2), (3, .int 0)], [], q5.2.1, s6, 0, 0)))
      else ((zm_is q5.2.1 r0 10).bind fun _ => (zm_ai (zM 177 [.ref r0, .int (nI 3)] q5.2.1 q5.2.2)).bind fun q7 =>
       some (.inr (some (.int q7.1), q7.2.1, q7.2.2))))
     else ((zm_is q2.2.1 r0 10).bind fun _ => (zm_ai (zM 230 [.ref r0, .int i1, .int 0] q2.2.1 q2.2.2)).bind fun q8 =>
      if ¬ q8.1 = 0 then ((zm_is q8.2.1 r0 10).bind fun _ => (zm_fw q8.2.2 r0 40 0 (.int 0)).bind fun s9 =>
       some (.inl (67, [(0, .ref r0), (1, .int i1), (2, .int i2), (3, .int 0)], [], q8.2.1, s9, 0, 0)))
      else ((zm_is q8.2.1 r0 10).bind fun _ => (zm_ai (zM 177 [.ref r0, .int (nI 3)] q8.2.1 q8.2.2)).bind fun q10 =>
       some (.inr (some (.int q10.1), q10.2.1, q10.2.2)))))
    else ((zm_is q2.2.1 r0 10).bind fun _ => (zm_ai (zM 177 [.ref r0, .int 1] q2.2.1 q2.2.2)).bind fun q11 =>
     some (.inr (some (.int q11.1), q11.2.1, q11.2.2)))) (none))
   else (some (.inr (some (.int (-1)), q2.2.1, q2.2.2))))
set_option maxRecDepth 100000 in
theorem zr_232_0 (lay : zm_Lay) (σ : zm_Sig) (r0 : Nat) (i1 : Int32) (i2 : Int32) : zm_blk zM zp_232 (some .int) 0 0 zc_232 68 (zp_232.drop 0) (0, [(0, .ref r0), (1, .int i1), (2, .int i2)], [], lay, σ, 0, 0) = zb_232_0 lay σ r0 i1 i2 := rfl
theorem ze_232 {lay : zm_Lay} {σ : zm_Sig} {r0 : Nat} {i1 : Int32} {i2 : Int32} {out : zm_Out} {r : zm_St ⊕ zm_Out} (h : zb_232_0 lay σ r0 i1 i2 = some r) (hg : zm_end zp_P 232 out r) : zM 232 [.ref r0, .int i1, .int i2] lay σ = some out :=
  zm_mean_go (M := zd_232) rfl (Nat.le_of_ble_eq_true rfl) (zm_blk_go (M := zd_232) rfl zs_232 68 (zp_232.drop 0) _ r (fun _ h => List.mem_of_mem_drop h) ((zr_232_0 lay σ r0 i1 i2).trans h) hg)
noncomputable def zb_232_67 (lay : zm_Lay) (σ : zm_Sig) (r0 : Nat) (i1 : Int32) (i2 : Int32) (i3 : Int32) : Option (zm_St ⊕ zm_Out) :=
  (zm_is lay r0 10).bind fun _ =>
  zm_opt (σ.2.2 r0 0) (fun q1 =>
  (zm_gI lay σ q1 i1).bind fun v2 =>
  if v2 ≤ i3 then ((zm_is lay r0 10).bind fun _ =>
   if (σ.1 r0 40) ≤ (nI 40) then ((zm_is lay r0 10).bind fun _ => (zm_av (zM 231 [.ref r0, .int i2] lay σ)).bind fun q3 =>
    (zm_is q3.1 r0 10).bind fun _ =>
    some (.inr (some (.int (q3.2.1 r0 40)), q3.1, q3.2)))
   else (some (.inr (some (.int (-6)), lay, σ))))
  else ((zm_is lay r0 10).bind fun _ =>
   zm_opt (σ.2.2 r0 1) (fun q4 =>
   (zm_gI lay σ q4 ((((nI 40) : Int32) * i1) + i3)).bind fun v5 =>
   (zm_is lay r0 10).bind fun _ => (zm_av (zM 233 [.ref r0, .int v5] lay σ)).bind fun q6 =>
   some (.inl (67, [(0, .ref r0), (1, .int i1), (2, .int i2), (3, .int (i3 + 1))], [], q6.1, q6.2, 0, 0))) (none))) (none)
set_option maxRecDepth 100000 in
theorem zr_232_67 (lay : zm_Lay) (σ : zm_Sig) (r0 : Nat) (i1 : Int32) (i2 : Int32) (i3 : Int32) : zm_blk zM zp_232 (some .int) 0 0 zc_232 68 (zp_232.drop 37) (67, [(0, .ref r0), (1, .int i1), (2, .int i2), (3, .int i3)], [], lay, σ, 0, 0) = zb_232_67 lay σ r0 i1 i2 i3 := rfl
theorem zg_232_67 {lay : zm_Lay} {σ : zm_Sig} {r0 : Nat} {i1 : Int32} {i2 : Int32} {i3 : Int32} {out : zm_Out} {r : zm_St ⊕ zm_Out} (h : zb_232_67 lay σ r0 i1 i2 i3 = some r) (hg : zm_end zp_P 232 out r) : zm_go zp_P 232 (67, [(0, .ref r0), (1, .int i1), (2, .int i2), (3, .int i3)], [], lay, σ, 0, 0) out :=
  zm_blk_go (M := zd_232) rfl zs_232 68 (zp_232.drop 37) _ r (fun _ h => List.mem_of_mem_drop h) ((zr_232_67 lay σ r0 i1 i2 i3).trans h) hg
/-! SubgroupWriterModel.spells(I)V -/
theorem zs_233 : zm_srt zp_233 = true := by decide +kernel
noncomputable def zb_233_0 (lay : zm_Lay) (σ : zm_Sig) (r0 : Nat) (i1 : Int32) : Option (zm_St ⊕ zm_Out) :=
  (zm_is lay r0 10).bind fun _ =>
  zm_opt (σ.2.2 r0 19) (fun q1 =>
  if (0 : Int32) ≤ i1 then ((zm_gI lay σ q1 i1).bind fun v2 =>
   (zm_is lay r0 10).bind fun _ =>
   if (σ.1 r0 5) = 0 then none
   else (if i1 ≤ 0 then ((zm_is lay r0 10).bind fun _ => (zm_ai (zM 224 [.ref r0, .int v2] lay σ)).bind fun q3 =>
    (zm_is q3.2.1 r0 10).bind fun _ => (zm_av (zM 234 [.ref r0, .int q3.1] q3.2.1 q3.2.2)).bind fun q4 =>
    if i1 ≤ 0 then ((zm_is q4.1 r0 10).bind fun _ => (zm_av (zM 213 [.ref r0, .int (-((v2 - v2 / (σ.1 r0 5) * (σ.1 r0 5)) + 1))] q4.1 q4.2)).bind fun q5 =>
     if i1 ≤ 0 then ((zm_is q5.1 r0 10).bind fun _ =>
      if (q5.2.1 r0 5) = 0 then none
      else ((zm_is q5.1 r0 10).bind fun _ => (zm_av (zM 235 [.ref r0, .int (v2 / (q5.2.1 r0 5))] q5.1 q5.2)).bind fun q6 =>
      some (.inr (none, q6.1, q6.2))))
     else ((zm_is q5.1 r0 10).bind fun _ => (zm_ai (zM 224 [.ref r0, .int v2] q5.1 q5.2)).bind fun q7 =>
      (zm_is q7.2.1 r0 10).bind fun _ => (zm_av (zM 235 [.ref r0, .int q7.1] q7.2.1 q7.2.2)).bind fun q8 =>
      some (.inr (none, q8.1, q8.2))))
    else ((zm_is q4.1 r0 10).bind fun _ => (zm_av (zM 213 [.ref r0, .int ((v2 - v2 / (σ.1 r0 5) * (σ.1 r0 5)) + 1)] q4.1 q4.2)).bind fun q9 =>
     if i1 ≤ 0 then ((zm_is q9.1 r0 10).bind fun _ =>
      if (q9.2.1 r0 5) = 0 then none
      else ((zm_is q9.1 r0 10).bind fun _ => (zm_av (zM 235 [.ref r0, .int (v2 / (q9.2.1 r0 5))] q9.1 q9.2)).bind fun q10 =>
      some (.inr (none, q10.1, q10.2))))
     else ((zm_is q9.1 r0 10).bind fun _ => (zm_ai (zM 224 [.ref r0, .int v2] q9.1 q9.2)).bind fun q11 =>
      (zm_is q11.2.1 r0 10).bind fun _ => (zm_av (zM 235 [.ref r0, .int q11.1] q11.2.1 q11.2.2)).bind fun q12 =>
      some (.inr (none, q12.1, q12.2)))))
   else ((zm_is lay r0 10).bind fun _ =>
    if (σ.1 r0 5) = 0 then none
    else ((zm_is lay r0 10).bind fun _ => (zm_av (zM 234 [.ref r0, .int (v2 / (σ.1 r0 5))] lay σ)).bind fun q13 =>
    if i1 ≤ 0 then ((zm_is q13.1 r0 10).bind fun _ => (zm_av (zM 213 [.ref r0, .int (-((v2 - v2 / (σ.1 r0 5) * (σ.1 r0 5)) + 1))] q13.1 q13.2)).bind fun q14 =>
     if i1 ≤ 0 then ((zm_is q14.1 r0 10).bind fun _ =>
      if (q14.2.1 r0 5) = 0 then none
      else ((zm_is q14.1 r0 10).bind fun _ => (zm_av (zM 235 [.ref r0, .int (v2 / (q14.2.1 r0 5))] q14.1 q14.2)).bind fun q15 =>
      some (.inr (none, q15.1, q15.2))))
     else ((zm_is q14.1 r0 10).bind fun _ => (zm_ai (zM 224 [.ref r0, .int v2] q14.1 q14.2)).bind fun q16 =>
      (zm_is q16.2.1 r0 10).bind fun _ => (zm_av (zM 235 [.ref r0, .int q16.1] q16.2.1 q16.2.2)).bind fun q17 =>
      some (.inr (none, q17.1, q17.2))))
    else ((zm_is q13.1 r0 10).bind fun _ => (zm_av (zM 213 [.ref r0, .int ((v2 - v2 / (σ.1 r0 5) * (σ.1 r0 5)) + 1)] q13.1 q13.2)).bind fun q18 =>
     if i1 ≤ 0 then ((zm_is q18.1 r0 10).bind fun _ =>
      if (q18.2.1 r0 5) = 0 then none
      else ((zm_is q18.1 r0 10).bind fun _ => (zm_av (zM 235 [.ref r0, .int (v2 / (q18.2.1 r0 5))] q18.1 q18.2)).bind fun q19 =>
      some (.inr (none, q19.1, q19.2))))
     else ((zm_is q18.1 r0 10).bind fun _ => (zm_ai (zM 224 [.ref r0, .int v2] q18.1 q18.2)).bind fun q20 =>
      (zm_is q20.2.1 r0 10).bind fun _ => (zm_av (zM 235 [.ref r0, .int q20.1] q20.2.1 q20.2.2)).bind fun q21 =>
      some (.inr (none, q21.1, q21.2))))))))
  else ((zm_gI lay σ q1 (-i1)).bind fun v22 =>
   (zm_is lay r0 10).bind fun _ =>
   if (σ.1 r0 5) = 0 then none
   else (if i1 ≤ 0 then ((zm_is lay r0 10).bind fun _ => (zm_ai (zM 224 [.ref r0, .int v22] lay σ)).bind fun q23 =>
    (zm_is q23.2.1 r0 10).bind fun _ => (zm_av (zM 234 [.ref r0, .int q23.1] q23.2.1 q23.2.2)).bind fun q24 =>
    if i1 ≤ 0 then ((zm_is q24.1 r0 10).bind fun _ => (zm_av (zM 213 [.ref r0, .int (-((v22 - v22 / (σ.1 r0 5) * (σ.1 r0 5)) + 1))] q24.1 q24.2)).bind fun q25 =>
     if i1 ≤ 0 then ((zm_is q25.1 r0 10).bind fun _ =>
      if (q25.2.1 r0 5) = 0 then none
      else ((zm_is q25.1 r0 10).bind fun _ => (zm_av (zM 235 [.ref r0, .int (v22 / (q25.2.1 r0 5))] q25.1 q25.2)).bind fun q26 =>
      some (.inr (none, q26.1, q26.2))))
     else ((zm_is q25.1 r0 10).bind fun _ => (zm_ai (zM 224 [.ref r0, .int v22] q25.1 q25.2)).bind fun q27 =>
      (zm_is q27.2.1 r0 10).bind fun _ => (zm_av (zM 235 [.ref r0, .int q27.1] q27.2.1 q27.2.2)).bind fun q28 =>
      some (.inr (none, q28.1, q28.2))))
    else ((zm_is q24.1 r0 10).bind fun _ => (zm_av (zM 213 [.ref r0, .int ((v22 - v22 / (σ.1 r0 5) * (σ.1 r0 5)) + 1)] q24.1 q24.2)).bind fun q29 =>
     if i1 ≤ 0 then ((zm_is q29.1 r0 10).bind fun _ =>
      if (q29.2.1 r0 5) = 0 then none
      else ((zm_is q29.1 r0 10).bind fun _ => (zm_av (zM 235 [.ref r0, .int (v22 / (q29.2.1 r0 5))] q29.1 q29.2)).bind fun q30 =>
      some (.inr (none, q30.1, q30.2))))
     else ((zm_is q29.1 r0 10).bind fun _ => (zm_ai (zM 224 [.ref r0, .int v22] q29.1 q29.2)).bind fun q31 =>
      (zm_is q31.2.1 r0 10).bind fun _ => (zm_av (zM 235 [.ref r0, .int q31.1] q31.2.1 q31.2.2)).bind fun q32 =>
      some (.inr (none, q32.1, q32.2)))))
   else ((zm_is lay r0 10).bind fun _ =>
    if (σ.1 r0 5) = 0 then none
    else ((zm_is lay r0 10).bind fun _ => (zm_av (zM 234 [.ref r0, .int (v22 / (σ.1 r0 5))] lay σ)).bind fun q33 =>
    if i1 ≤ 0 then ((zm_is q33.1 r0 10).bind fun _ => (zm_av (zM 213 [.ref r0, .int (-((v22 - v22 / (σ.1 r0 5) * (σ.1 r0 5)) + 1))] q33.1 q33.2)).bind fun q34 =>
     if i1 ≤ 0 then ((zm_is q34.1 r0 10).bind fun _ =>
      if (q34.2.1 r0 5) = 0 then none
      else ((zm_is q34.1 r0 10).bind fun _ => (zm_av (zM 235 [.ref r0, .int (v22 / (q34.2.1 r0 5))] q34.1 q34.2)).bind fun q35 =>
      some (.inr (none, q35.1, q35.2))))
     else ((zm_is q34.1 r0 10).bind fun _ => (zm_ai (zM 224 [.ref r0, .int v22] q34.1 q34.2)).bind fun q36 =>
      (zm_is q36.2.1 r0 10).bind fun _ => (zm_av (zM 235 [.ref r0, .int q36.1] q36.2.1 q36.2.2)).bind fun q37 =>
      some (.inr (none, q37.1, q37.2))))
    else ((zm_is q33.1 r0 10).bind fun _ => (zm_av (zM 213 [.ref r0, .int ((v22 - v22 / (σ.1 r0 5) * (σ.1 r0 5)) + 1)] q33.1 q33.2)).bind fun q38 =>
     if i1 ≤ 0 then ((zm_is q38.1 r0 10).bind fun _ =>
      if (q38.2.1 r0 5) = 0 then none
      else ((zm_is q38.1 r0 10).bind fun _ => (zm_av (zM 235 [.ref r0, .int (v22 / (q38.2.1 r0 5))] q38.1 q38.2)).bind fun q39 =>
      some (.inr (none, q39.1, q39.2))))
     else ((zm_is q38.1 r0 10).bind fun _ => (zm_ai (zM 224 [.ref r0, .int v22] q38.1 q38.2)).bind fun q40 =>
      (zm_is q40.2.1 r0 10).bind fun _ => (zm_av (zM 235 [.ref r0, .int q40.1] q40.2.1 q40.2.2)).bind fun q41 =>
      some (.inr (none, q41.1, q41.2))))))))) (none)
set_option maxRecDepth 100000 in
theorem zr_233_0 (lay : zm_Lay) (σ : zm_Sig) (r0 : Nat) (i1 : Int32) : zm_blk zM zp_233 none 0 0 zc_233 51 (zp_233.drop 0) (0, [(0, .ref r0), (1, .int i1)], [], lay, σ, 0, 0) = zb_233_0 lay σ r0 i1 := rfl
theorem ze_233 {lay : zm_Lay} {σ : zm_Sig} {r0 : Nat} {i1 : Int32} {out : zm_Out} {r : zm_St ⊕ zm_Out} (h : zb_233_0 lay σ r0 i1 = some r) (hg : zm_end zp_P 233 out r) : zM 233 [.ref r0, .int i1] lay σ = some out :=
  zm_mean_go (M := zd_233) rfl (Nat.le_of_ble_eq_true rfl) (zm_blk_go (M := zd_233) rfl zs_233 51 (zp_233.drop 0) _ r (fun _ h => List.mem_of_mem_drop h) ((zr_233_0 lay σ r0 i1).trans h) hg)
/-! SubgroupWriterModel.growsWay(I)V -/
theorem zs_234 : zm_srt zp_234 = true := by decide +kernel
noncomputable def zb_234_0 (lay : zm_Lay) (σ : zm_Sig) (r0 : Nat) (i1 : Int32) : Option (zm_St ⊕ zm_Out) :=
  (zm_is lay r0 10).bind fun _ =>
  zm_opt (σ.2.2 r0 13) (fun q1 =>
  (zm_gI lay σ q1 i1).bind fun v2 =>
  some (.inl (11, [(0, .ref r0), (1, .int i1), (2, .int i1), (3, .int (v2 - 1))], [], lay, σ, 0, 0))) (none)
set_option maxRecDepth 100000 in
theorem zr_234_0 (lay : zm_Lay) (σ : zm_Sig) (r0 : Nat) (i1 : Int32) : zm_blk zM zp_234 none 0 0 zc_234 44 (zp_234.drop 0) (0, [(0, .ref r0), (1, .int i1)], [], lay, σ, 0, 0) = zb_234_0 lay σ r0 i1 := rfl
theorem ze_234 {lay : zm_Lay} {σ : zm_Sig} {r0 : Nat} {i1 : Int32} {out : zm_Out} {r : zm_St ⊕ zm_Out} (h : zb_234_0 lay σ r0 i1 = some r) (hg : zm_end zp_P 234 out r) : zM 234 [.ref r0, .int i1] lay σ = some out :=
  zm_mean_go (M := zd_234) rfl (Nat.le_of_ble_eq_true rfl) (zm_blk_go (M := zd_234) rfl zs_234 44 (zp_234.drop 0) _ r (fun _ h => List.mem_of_mem_drop h) ((zr_234_0 lay σ r0 i1).trans h) hg)
noncomputable def zb_234_11 (lay : zm_Lay) (σ : zm_Sig) (r0 : Nat) (i1 : Int32) (i2 : Int32) (i3 : Int32) : Option (zm_St ⊕ zm_Out) :=
  if i3 < 0 then (some (.inl (42, [(0, .ref r0), (1, .int i1), (3, .int 0)], [], lay, σ, 0, 0)))
  else ((zm_is lay r0 10).bind fun _ =>
   zm_opt (σ.2.2 r0 41) (fun q1 =>
   (zm_is lay r0 10).bind fun _ =>
   zm_opt (σ.2.2 r0 12) (fun q2 =>
   (zm_gI lay σ q2 i2).bind fun v3 =>
   (zm_sI lay σ q1 i3 v3).bind fun s4 =>
   (zm_is lay r0 10).bind fun _ =>
   zm_opt (s4.2.2 r0 11) (fun q5 =>
   (zm_gI lay s4 q5 i2).bind fun v6 =>
   some (.inl (11, [(0, .ref r0), (1, .int i1), (2, .int v6), (3, .int (i3 + (-1)))], [], lay, s4, 0, 0))) (none)) (none)) (none))
set_option maxRecDepth 100000 in
theorem zr_234_11 (lay : zm_Lay) (σ : zm_Sig) (r0 : Nat) (i1 : Int32) (i2 : Int32) (i3 : Int32) : zm_blk zM zp_234 none 0 0 zc_234 44 (zp_234.drop 9) (11, [(0, .ref r0), (1, .int i1), (2, .int i2), (3, .int i3)], [], lay, σ, 0, 0) = zb_234_11 lay σ r0 i1 i2 i3 := rfl
theorem zg_234_11 {lay : zm_Lay} {σ : zm_Sig} {r0 : Nat} {i1 : Int32} {i2 : Int32} {i3 : Int32} {out : zm_Out} {r : zm_St ⊕ zm_Out} (h : zb_234_11 lay σ r0 i1 i2 i3 = some r) (hg : zm_end zp_P 234 out r) : zm_go zp_P 234 (11, [(0, .ref r0), (1, .int i1), (2, .int i2), (3, .int i3)], [], lay, σ, 0, 0) out :=
  zm_blk_go (M := zd_234) rfl zs_234 44 (zp_234.drop 9) _ r (fun _ h => List.mem_of_mem_drop h) ((zr_234_11 lay σ r0 i1 i2 i3).trans h) hg
noncomputable def zb_234_42 (lay : zm_Lay) (σ : zm_Sig) (r0 : Nat) (i1 : Int32) (i3 : Int32) : Option (zm_St ⊕ zm_Out) :=
  (zm_is lay r0 10).bind fun _ =>
  zm_opt (σ.2.2 r0 13) (fun q1 =>
  (zm_gI lay σ q1 i1).bind fun v2 =>
  if v2 ≤ i3 then (some (.inr (none, lay, σ)))
  else ((zm_is lay r0 10).bind fun _ =>
   zm_opt (σ.2.2 r0 41) (fun q3 =>
   (zm_gI lay σ q3 i3).bind fun v4 =>
   (zm_is lay r0 10).bind fun _ => (zm_av (zM 213 [.ref r0, .int v4] lay σ)).bind fun q5 =>
   some (.inl (42, [(0, .ref r0), (1, .int i1), (3, .int (i3 + 1))], [], q5.1, q5.2, 0, 0))) (none))) (none)
set_option maxRecDepth 100000 in
theorem zr_234_42 (lay : zm_Lay) (σ : zm_Sig) (r0 : Nat) (i1 : Int32) (i3 : Int32) : zm_blk zM zp_234 none 0 0 zc_234 44 (zp_234.drop 28) (42, [(0, .ref r0), (1, .int i1), (3, .int i3)], [], lay, σ, 0, 0) = zb_234_42 lay σ r0 i1 i3 := rfl
theorem zg_234_42 {lay : zm_Lay} {σ : zm_Sig} {r0 : Nat} {i1 : Int32} {i3 : Int32} {out : zm_Out} {r : zm_St ⊕ zm_Out} (h : zb_234_42 lay σ r0 i1 i3 = some r) (hg : zm_end zp_P 234 out r) : zm_go zp_P 234 (42, [(0, .ref r0), (1, .int i1), (3, .int i3)], [], lay, σ, 0, 0) out :=
  zm_blk_go (M := zd_234) rfl zs_234 44 (zp_234.drop 28) _ r (fun _ h => List.mem_of_mem_drop h) ((zr_234_42 lay σ r0 i1 i3).trans h) hg
/-! SubgroupWriterModel.growsBack(I)V -/
theorem zs_235 : zm_srt zp_235 = true := by decide +kernel
noncomputable def zb_235_0 (lay : zm_Lay) (σ : zm_Sig) (r0 : Nat) (i1 : Int32) : Option (zm_St ⊕ zm_Out) :=
  some (.inl (2, [(0, .ref r0), (2, .int i1)], [], lay, σ, 0, 0))
set_option maxRecDepth 100000 in
theorem zr_235_0 (lay : zm_Lay) (σ : zm_Sig) (r0 : Nat) (i1 : Int32) : zm_blk zM zp_235 none 0 0 zc_235 19 (zp_235.drop 0) (0, [(0, .ref r0), (1, .int i1)], [], lay, σ, 0, 0) = zb_235_0 lay σ r0 i1 := rfl
theorem ze_235 {lay : zm_Lay} {σ : zm_Sig} {r0 : Nat} {i1 : Int32} {out : zm_Out} {r : zm_St ⊕ zm_Out} (h : zb_235_0 lay σ r0 i1 = some r) (hg : zm_end zp_P 235 out r) : zM 235 [.ref r0, .int i1] lay σ = some out :=
  zm_mean_go (M := zd_235) rfl (Nat.le_of_ble_eq_true rfl) (zm_blk_go (M := zd_235) rfl zs_235 19 (zp_235.drop 0) _ r (fun _ h => List.mem_of_mem_drop h) ((zr_235_0 lay σ r0 i1).trans h) hg)
noncomputable def zb_235_2 (lay : zm_Lay) (σ : zm_Sig) (r0 : Nat) (i2 : Int32) : Option (zm_St ⊕ zm_Out) :=
  if i2 = 0 then (some (.inr (none, lay, σ)))
  else ((zm_is lay r0 10).bind fun _ =>
   zm_opt (σ.2.2 r0 12) (fun q1 =>
   (zm_gI lay σ q1 i2).bind fun v2 =>
   (zm_is lay r0 10).bind fun _ => (zm_av (zM 213 [.ref r0, .int (-v2)] lay σ)).bind fun q3 =>
   (zm_is q3.1 r0 10).bind fun _ =>
   zm_opt (q3.2.2.2 r0 11) (fun q4 =>
   (zm_gI q3.1 q3.2 q4 i2).bind fun v5 =>
   some (.inl (2, [(0, .ref r0), (2, .int v5)], [], q3.1, q3.2, 0, 0))) (none)) (none))
set_option maxRecDepth 100000 in
theorem zr_235_2 (lay : zm_Lay) (σ : zm_Sig) (r0 : Nat) (i2 : Int32) : zm_blk zM zp_235 none 0 0 zc_235 19 (zp_235.drop 2) (2, [(0, .ref r0), (2, .int i2)], [], lay, σ, 0, 0) = zb_235_2 lay σ r0 i2 := rfl
theorem zg_235_2 {lay : zm_Lay} {σ : zm_Sig} {r0 : Nat} {i2 : Int32} {out : zm_Out} {r : zm_St ⊕ zm_Out} (h : zb_235_2 lay σ r0 i2 = some r) (hg : zm_end zp_P 235 out r) : zm_go zp_P 235 (2, [(0, .ref r0), (2, .int i2)], [], lay, σ, 0, 0) out :=
  zm_blk_go (M := zd_235) rfl zs_235 19 (zp_235.drop 2) _ r (fun _ h => List.mem_of_mem_drop h) ((zr_235_2 lay σ r0 i2).trans h) hg
/-! SubgroupWriterModel.rule(II)I -/
theorem zs_236 : zm_srt zp_236 = true := by decide +kernel
noncomputable def zb_236_0 (lay : zm_Lay) (σ : zm_Sig) (r0 : Nat) (i1 : Int32) (i2 : Int32) : Option (zm_St ⊕ zm_Out) :=
  (zm_is lay r0 10).bind fun _ => (zm_ai (zM 237 [.ref r0, .int i1] lay σ)).bind fun q1 =>
  if q1.1 = 0 then (some (.inr (some (.int (-1)), q1.2.1, q1.2.2)))
  else ((zm_is q1.2.1 r0 10).bind fun _ =>
   zm_opt (q1.2.2.2.2 r0 21) (fun q2 =>
   (zm_gI q1.2.1 q1.2.2 q2 (((nI 3) : Int32) + i1)).bind fun v3 =>
   (zm_ai (zM 176 [.int i2, .int 0, .int (v3 - 1)] q1.2.1 q1.2.2)).bind fun q4 =>
   if q4.1 = 0 then (some (.inr (some (.int (-1)), q4.2.1, q4.2.2)))
   else ((zm_is q4.2.1 r0 10).bind fun _ => (zm_ai (zM 238 [.ref r0, .int i1, .int i2] q4.2.1 q4.2.2)).bind fun q5 =>
    (zm_is q5.2.1 r0 10).bind fun _ =>
    zm_opt (q5.2.2.2.2 r0 21) (fun q6 =>
    (zm_gI q5.2.1 q5.2.2 q6 (((nI 3) : Int32) + i1)).bind fun v7 =>
    (zm_is q5.2.1 r0 10).bind fun _ => (zm_ai (zM 181 [.ref r0, .int q5.1, .int v7] q5.2.1 q5.2.2)).bind fun q8 =>
    some (.inr (some (.int q8.1), q8.2.1, q8.2.2))) (none))) (none))
set_option maxRecDepth 100000 in
theorem zr_236_0 (lay : zm_Lay) (σ : zm_Sig) (r0 : Nat) (i1 : Int32) (i2 : Int32) : zm_blk zM zp_236 (some .int) 0 0 zc_236 32 (zp_236.drop 0) (0, [(0, .ref r0), (1, .int i1), (2, .int i2)], [], lay, σ, 0, 0) = zb_236_0 lay σ r0 i1 i2 := rfl
theorem ze_236 {lay : zm_Lay} {σ : zm_Sig} {r0 : Nat} {i1 : Int32} {i2 : Int32} {out : zm_Out} {r : zm_St ⊕ zm_Out} (h : zb_236_0 lay σ r0 i1 i2 = some r) (hg : zm_end zp_P 236 out r) : zM 236 [.ref r0, .int i1, .int i2] lay σ = some out :=
  zm_mean_go (M := zd_236) rfl (Nat.le_of_ble_eq_true rfl) (zm_blk_go (M := zd_236) rfl zs_236 32 (zp_236.drop 0) _ r (fun _ h => List.mem_of_mem_drop h) ((zr_236_0 lay σ r0 i1 i2).trans h) hg)
/-! SubgroupWriterModel.isRule(I)Z -/
theorem zs_237 : zm_srt zp_237 = true := by decide +kernel
noncomputable def zb_237_0 (lay : zm_Lay) (σ : zm_Sig) (r0 : Nat) (i1 : Int32) : Option (zm_St ⊕ zm_Out) :=
  (zm_is lay r0 10).bind fun _ =>
  zm_opt (σ.2.2 r0 21) (fun q1 =>
  (zm_gI lay σ q1 1).bind fun v2 =>
  (zm_ai (zM 176 [.int i1, .int 0, .int (v2 - 1)] lay σ)).bind fun q3 =>
  if q3.1 = 0 ∨ q3.1 = 1 then some (.inr (some (.int q3.1), q3.2.1, q3.2.2)) else none) (none)
set_option maxRecDepth 100000 in
theorem zr_237_0 (lay : zm_Lay) (σ : zm_Sig) (r0 : Nat) (i1 : Int32) : zm_blk zM zp_237 (some .boolean) 0 0 zc_237 11 (zp_237.drop 0) (0, [(0, .ref r0), (1, .int i1)], [], lay, σ, 0, 0) = zb_237_0 lay σ r0 i1 := rfl
theorem ze_237 {lay : zm_Lay} {σ : zm_Sig} {r0 : Nat} {i1 : Int32} {out : zm_Out} {r : zm_St ⊕ zm_Out} (h : zb_237_0 lay σ r0 i1 = some r) (hg : zm_end zp_P 237 out r) : zM 237 [.ref r0, .int i1] lay σ = some out :=
  zm_mean_go (M := zd_237) rfl (Nat.le_of_ble_eq_true rfl) (zm_blk_go (M := zd_237) rfl zs_237 11 (zp_237.drop 0) _ r (fun _ h => List.mem_of_mem_drop h) ((zr_237_0 lay σ r0 i1).trans h) hg)
/-! SubgroupWriterModel.signIn(II)I -/
theorem zs_238 : zm_srt zp_238 = true := by decide +kernel
noncomputable def zb_238_0 (lay : zm_Lay) (σ : zm_Sig) (r0 : Nat) (i1 : Int32) (i2 : Int32) : Option (zm_St ⊕ zm_Out) :=
  (zm_is lay r0 10).bind fun _ =>
  zm_opt (σ.2.2 r0 21) (fun q1 =>
  (zm_gI lay σ q1 ((((nI 18) : Int32) + (((nI 16) : Int32) * i1)) + i2)).bind fun v2 =>
  some (.inr (some (.int v2), lay, σ))) (none)
set_option maxRecDepth 100000 in
theorem zr_238_0 (lay : zm_Lay) (σ : zm_Sig) (r0 : Nat) (i1 : Int32) (i2 : Int32) : zm_blk zM zp_238 (some .int) 0 0 zc_238 12 (zp_238.drop 0) (0, [(0, .ref r0), (1, .int i1), (2, .int i2)], [], lay, σ, 0, 0) = zb_238_0 lay σ r0 i1 i2 := rfl
theorem ze_238 {lay : zm_Lay} {σ : zm_Sig} {r0 : Nat} {i1 : Int32} {i2 : Int32} {out : zm_Out} {r : zm_St ⊕ zm_Out} (h : zb_238_0 lay σ r0 i1 i2 = some r) (hg : zm_end zp_P 238 out r) : zM 238 [.ref r0, .int i1, .int i2] lay σ = some out :=
  zm_mean_go (M := zd_238) rfl (Nat.le_of_ble_eq_true rfl) (zm_blk_go (M := zd_238) rfl zs_238 12 (zp_238.drop 0) _ r (fun _ h => List.mem_of_mem_drop h) ((zr_238_0 lay σ r0 i1 i2).trans h) hg)
/-! SubgroupWriterModel.often(II)I -/
theorem zs_239 : zm_srt zp_239 = true := by decide +kernel
noncomputable def zb_239_0 (lay : zm_Lay) (σ : zm_Sig) (r0 : Nat) (i1 : Int32) (i2 : Int32) : Option (zm_St ⊕ zm_Out) :=
  (zm_is lay r0 10).bind fun _ => (zm_ai (zM 237 [.ref r0, .int i1] lay σ)).bind fun q1 =>
  if q1.1 = 0 then (some (.inr (some (.int (-1)), q1.2.1, q1.2.2)))
  else ((zm_is q1.2.1 r0 10).bind fun _ => (zm_ai (zM 240 [.ref r0, .int i2] q1.2.1 q1.2.2)).bind fun q2 =>
   if q2.1 = 0 then (some (.inr (some (.int (-1)), q2.2.1, q2.2.2)))
   else ((zm_is q2.2.1 r0 10).bind fun _ => (zm_ai (zM 241 [.ref r0, .int i1, .int i2] q2.2.1 q2.2.2)).bind fun q3 =>
    (zm_is q3.2.1 r0 10).bind fun _ => (zm_ai (zM 242 [.ref r0, .int i1, .int i2] q3.2.1 q3.2.2)).bind fun q4 =>
    (zm_is q4.2.1 r0 10).bind fun _ => (zm_ai (zM 181 [.ref r0, .int q3.1, .int q4.1] q4.2.1 q4.2.2)).bind fun q5 =>
    some (.inr (some (.int q5.1), q5.2.1, q5.2.2))))
set_option maxRecDepth 100000 in
theorem zr_239_0 (lay : zm_Lay) (σ : zm_Sig) (r0 : Nat) (i1 : Int32) (i2 : Int32) : zm_blk zM zp_239 (some .int) 0 0 zc_239 22 (zp_239.drop 0) (0, [(0, .ref r0), (1, .int i1), (2, .int i2)], [], lay, σ, 0, 0) = zb_239_0 lay σ r0 i1 i2 := rfl
theorem ze_239 {lay : zm_Lay} {σ : zm_Sig} {r0 : Nat} {i1 : Int32} {i2 : Int32} {out : zm_Out} {r : zm_St ⊕ zm_Out} (h : zb_239_0 lay σ r0 i1 i2 = some r) (hg : zm_end zp_P 239 out r) : zM 239 [.ref r0, .int i1, .int i2] lay σ = some out :=
  zm_mean_go (M := zd_239) rfl (Nat.le_of_ble_eq_true rfl) (zm_blk_go (M := zd_239) rfl zs_239 22 (zp_239.drop 0) _ r (fun _ h => List.mem_of_mem_drop h) ((zr_239_0 lay σ r0 i1 i2).trans h) hg)
/-! SubgroupWriterModel.isLeft(I)Z -/
theorem zs_240 : zm_srt zp_240 = true := by decide +kernel
noncomputable def zb_240_0 (lay : zm_Lay) (σ : zm_Sig) (r0 : Nat) (i1 : Int32) : Option (zm_St ⊕ zm_Out) :=
  (zm_is lay r0 10).bind fun _ =>
  (zm_ai (zM 176 [.int i1, .int 1, .int (σ.1 r0 20)] lay σ)).bind fun q1 =>
  if q1.1 = 0 then (some (.inr (some (.int 0), q1.2.1, q1.2.2)))
  else ((zm_is q1.2.1 r0 10).bind fun _ =>
   if (q1.2.2.1 r0 4) ≤ 0 then (some (.inr (some (.int 0), q1.2.1, q1.2.2)))
   else ((zm_is q1.2.1 r0 10).bind fun _ =>
    zm_opt (q1.2.2.2.2 r0 21) (fun q2 =>
    (zm_gI q1.2.1 q1.2.2 q2 (nI 2)).bind fun v3 =>
    (zm_ai (zM 194 [.int v3, .int (i1 - 1)] q1.2.1 q1.2.2)).bind fun q4 =>
    if q4.1 = 0 then (some (.inr (some (.int 0), q4.2.1, q4.2.2)))
    else (some (.inr (some (.int 1), q4.2.1, q4.2.2)))) (none)))
set_option maxRecDepth 100000 in
theorem zr_240_0 (lay : zm_Lay) (σ : zm_Sig) (r0 : Nat) (i1 : Int32) : zm_blk zM zp_240 (some .boolean) 0 0 zc_240 23 (zp_240.drop 0) (0, [(0, .ref r0), (1, .int i1)], [], lay, σ, 0, 0) = zb_240_0 lay σ r0 i1 := rfl
theorem ze_240 {lay : zm_Lay} {σ : zm_Sig} {r0 : Nat} {i1 : Int32} {out : zm_Out} {r : zm_St ⊕ zm_Out} (h : zb_240_0 lay σ r0 i1 = some r) (hg : zm_end zp_P 240 out r) : zM 240 [.ref r0, .int i1] lay σ = some out :=
  zm_mean_go (M := zd_240) rfl (Nat.le_of_ble_eq_true rfl) (zm_blk_go (M := zd_240) rfl zs_240 23 (zp_240.drop 0) _ r (fun _ h => List.mem_of_mem_drop h) ((zr_240_0 lay σ r0 i1).trans h) hg)
/-! SubgroupWriterModel.netIn(II)I -/
theorem zs_241 : zm_srt zp_241 = true := by decide +kernel
noncomputable def zb_241_0 (lay : zm_Lay) (σ : zm_Sig) (r0 : Nat) (i1 : Int32) (i2 : Int32) : Option (zm_St ⊕ zm_Out) :=
  some (.inl (5, [(0, .ref r0), (1, .int i1), (2, .int i2), (3, .int 0), (4, .int 0)], [], lay, σ, 0, 0))
set_option maxRecDepth 100000 in
theorem zr_241_0 (lay : zm_Lay) (σ : zm_Sig) (r0 : Nat) (i1 : Int32) (i2 : Int32) : zm_blk zM zp_241 (some .int) 0 0 zc_241 38 (zp_241.drop 0) (0, [(0, .ref r0), (1, .int i1), (2, .int i2)], [], lay, σ, 0, 0) = zb_241_0 lay σ r0 i1 i2 := rfl
theorem ze_241 {lay : zm_Lay} {σ : zm_Sig} {r0 : Nat} {i1 : Int32} {i2 : Int32} {out : zm_Out} {r : zm_St ⊕ zm_Out} (h : zb_241_0 lay σ r0 i1 i2 = some r) (hg : zm_end zp_P 241 out r) : zM 241 [.ref r0, .int i1, .int i2] lay σ = some out :=
  zm_mean_go (M := zd_241) rfl (Nat.le_of_ble_eq_true rfl) (zm_blk_go (M := zd_241) rfl zs_241 38 (zp_241.drop 0) _ r (fun _ h => List.mem_of_mem_drop h) ((zr_241_0 lay σ r0 i1 i2).trans h) hg)
noncomputable def zb_241_5 (lay : zm_Lay) (σ : zm_Sig) (r0 : Nat) (i1 : Int32) (i2 : Int32) (i3 : Int32) (i4 : Int32) : Option (zm_St ⊕ zm_Out) :=
  (zm_is lay r0 10).bind fun _ =>
  zm_opt (σ.2.2 r0 21) (fun q1 =>
  (zm_gI lay σ q1 (((nI 3) : Int32) + i1)).bind fun v2 =>
  if v2 ≤ i4 then (some (.inr (some (.int i3), lay, σ)))
  else ((zm_is lay r0 10).bind fun _ => (zm_ai (zM 238 [.ref r0, .int i1, .int i4] lay σ)).bind fun q3 =>
   if ¬ q3.1 = i2 then ((zm_is q3.2.1 r0 10).bind fun _ => (zm_ai (zM 238 [.ref r0, .int i1, .int i4] q3.2.1 q3.2.2)).bind fun q4 =>
    if ¬ q4.1 = (-i2) then (some (.inl (5, [(0, .ref r0), (1, .int i1), (2, .int i2), (3, .int (i3 + 0)), (4, .int (i4 + 1))], [], q4.2.1, q4.2.2, 0, 0)))
    else (some (.inl (5, [(0, .ref r0), (1, .int i1), (2, .int i2), (3, .int (i3 + (-1))), (4, .int (i4 + 1))], [], q4.2.1, q4.2.2, 0, 0))))
   else (some (.inl (5, [(0, .ref r0), (1, .int i1), (2, .int i2), (3, .int (i3 + 1)), (4, .int (i4 + 1))], [], q3.2.1, q3.2.2, 0, 0))))) (none)
set_option maxRecDepth 100000 in
theorem zr_241_5 (lay : zm_Lay) (σ : zm_Sig) (r0 : Nat) (i1 : Int32) (i2 : Int32) (i3 : Int32) (i4 : Int32) : zm_blk zM zp_241 (some .int) 0 0 zc_241 38 (zp_241.drop 4) (5, [(0, .ref r0), (1, .int i1), (2, .int i2), (3, .int i3), (4, .int i4)], [], lay, σ, 0, 0) = zb_241_5 lay σ r0 i1 i2 i3 i4 := rfl
theorem zg_241_5 {lay : zm_Lay} {σ : zm_Sig} {r0 : Nat} {i1 : Int32} {i2 : Int32} {i3 : Int32} {i4 : Int32} {out : zm_Out} {r : zm_St ⊕ zm_Out} (h : zb_241_5 lay σ r0 i1 i2 i3 i4 = some r) (hg : zm_end zp_P 241 out r) : zm_go zp_P 241 (5, [(0, .ref r0), (1, .int i1), (2, .int i2), (3, .int i3), (4, .int i4)], [], lay, σ, 0, 0) out :=
  zm_blk_go (M := zd_241) rfl zs_241 38 (zp_241.drop 4) _ r (fun _ h => List.mem_of_mem_drop h) ((zr_241_5 lay σ r0 i1 i2 i3 i4).trans h) hg
/-! SubgroupWriterModel.oftenIn(II)I -/
theorem zs_242 : zm_srt zp_242 = true := by decide +kernel
noncomputable def zb_242_0 (lay : zm_Lay) (σ : zm_Sig) (r0 : Nat) (i1 : Int32) (i2 : Int32) : Option (zm_St ⊕ zm_Out) :=
  some (.inl (5, [(0, .ref r0), (1, .int i1), (2, .int i2), (3, .int 0), (4, .int 0)], [], lay, σ, 0, 0))
set_option maxRecDepth 100000 in
theorem zr_242_0 (lay : zm_Lay) (σ : zm_Sig) (r0 : Nat) (i1 : Int32) (i2 : Int32) : zm_blk zM zp_242 (some .int) 0 0 zc_242 36 (zp_242.drop 0) (0, [(0, .ref r0), (1, .int i1), (2, .int i2)], [], lay, σ, 0, 0) = zb_242_0 lay σ r0 i1 i2 := rfl
theorem ze_242 {lay : zm_Lay} {σ : zm_Sig} {r0 : Nat} {i1 : Int32} {i2 : Int32} {out : zm_Out} {r : zm_St ⊕ zm_Out} (h : zb_242_0 lay σ r0 i1 i2 = some r) (hg : zm_end zp_P 242 out r) : zM 242 [.ref r0, .int i1, .int i2] lay σ = some out :=
  zm_mean_go (M := zd_242) rfl (Nat.le_of_ble_eq_true rfl) (zm_blk_go (M := zd_242) rfl zs_242 36 (zp_242.drop 0) _ r (fun _ h => List.mem_of_mem_drop h) ((zr_242_0 lay σ r0 i1 i2).trans h) hg)
noncomputable def zb_242_5 (lay : zm_Lay) (σ : zm_Sig) (r0 : Nat) (i1 : Int32) (i2 : Int32) (i3 : Int32) (i4 : Int32) : Option (zm_St ⊕ zm_Out) :=
  (zm_is lay r0 10).bind fun _ =>
  zm_opt (σ.2.2 r0 21) (fun q1 =>
  (zm_gI lay σ q1 (((nI 3) : Int32) + i1)).bind fun v2 =>
  if v2 ≤ i4 then (some (.inr (some (.int i3), lay, σ)))
  else ((zm_is lay r0 10).bind fun _ => (zm_ai (zM 238 [.ref r0, .int i1, .int i4] lay σ)).bind fun q3 =>
   if q3.1 = i2 then (some (.inl (5, [(0, .ref r0), (1, .int i1), (2, .int i2), (3, .int (i3 + 1)), (4, .int (i4 + 1))], [], q3.2.1, q3.2.2, 0, 0)))
   else ((zm_is q3.2.1 r0 10).bind fun _ => (zm_ai (zM 238 [.ref r0, .int i1, .int i4] q3.2.1 q3.2.2)).bind fun q4 =>
    if ¬ q4.1 = (-i2) then (some (.inl (5, [(0, .ref r0), (1, .int i1), (2, .int i2), (3, .int (i3 + 0)), (4, .int (i4 + 1))], [], q4.2.1, q4.2.2, 0, 0)))
    else (some (.inl (5, [(0, .ref r0), (1, .int i1), (2, .int i2), (3, .int (i3 + 1)), (4, .int (i4 + 1))], [], q4.2.1, q4.2.2, 0, 0)))))) (none)
set_option maxRecDepth 100000 in
theorem zr_242_5 (lay : zm_Lay) (σ : zm_Sig) (r0 : Nat) (i1 : Int32) (i2 : Int32) (i3 : Int32) (i4 : Int32) : zm_blk zM zp_242 (some .int) 0 0 zc_242 36 (zp_242.drop 4) (5, [(0, .ref r0), (1, .int i1), (2, .int i2), (3, .int i3), (4, .int i4)], [], lay, σ, 0, 0) = zb_242_5 lay σ r0 i1 i2 i3 i4 := rfl
theorem zg_242_5 {lay : zm_Lay} {σ : zm_Sig} {r0 : Nat} {i1 : Int32} {i2 : Int32} {i3 : Int32} {i4 : Int32} {out : zm_Out} {r : zm_St ⊕ zm_Out} (h : zb_242_5 lay σ r0 i1 i2 i3 i4 = some r) (hg : zm_end zp_P 242 out r) : zm_go zp_P 242 (5, [(0, .ref r0), (1, .int i1), (2, .int i2), (3, .int i3), (4, .int i4)], [], lay, σ, 0, 0) out :=
  zm_blk_go (M := zd_242) rfl zs_242 36 (zp_242.drop 4) _ r (fun _ h => List.mem_of_mem_drop h) ((zr_242_5 lay σ r0 i1 i2 i3 i4).trans h) hg
/-! SubgroupWriterModel.alike(II)I -/
theorem zs_243 : zm_srt zp_243 = true := by decide +kernel
noncomputable def zb_243_0 (lay : zm_Lay) (σ : zm_Sig) (r0 : Nat) (i1 : Int32) (i2 : Int32) : Option (zm_St ⊕ zm_Out) :=
  (zm_is lay r0 10).bind fun _ => (zm_ai (zM 237 [.ref r0, .int i1] lay σ)).bind fun q1 =>
  if q1.1 = 0 then (some (.inr (some (.int (-1)), q1.2.1, q1.2.2)))
  else ((zm_is q1.2.1 r0 10).bind fun _ => (zm_ai (zM 237 [.ref r0, .int i2] q1.2.1 q1.2.2)).bind fun q2 =>
   if q2.1 = 0 then (some (.inr (some (.int (-1)), q2.2.1, q2.2.2)))
   else (if ¬ i1 = i2 then ((zm_is q2.2.1 r0 10).bind fun _ =>
     zm_opt (q2.2.2.2.2 r0 21) (fun q3 =>
     (zm_gI q2.2.1 q2.2.2 q3 (((nI 3) : Int32) + i1)).bind fun v4 =>
     (zm_is q2.2.1 r0 10).bind fun _ =>
     zm_opt (q2.2.2.2.2 r0 21) (fun q5 =>
     (zm_gI q2.2.1 q2.2.2 q5 (((nI 3) : Int32) + i2)).bind fun v6 =>
     if ¬ v4 = v6 then (some (.inr (some (.int 0), q2.2.1, q2.2.2)))
     else ((zm_is q2.2.1 r0 10).bind fun _ => (zm_ai (zM 244 [.ref r0, .int i1, .int i2] q2.2.1 q2.2.2)).bind fun q7 =>
      if q7.1 = 0 then (some (.inr (some (.int 0), q7.2.1, q7.2.2)))
      else (some (.inr (some (.int 1), q7.2.1, q7.2.2))))) (none)) (none))
    else (some (.inr (some (.int (-1)), q2.2.1, q2.2.2)))))
set_option maxRecDepth 100000 in
theorem zr_243_0 (lay : zm_Lay) (σ : zm_Sig) (r0 : Nat) (i1 : Int32) (i2 : Int32) : zm_blk zM zp_243 (some .int) 0 0 zc_243 36 (zp_243.drop 0) (0, [(0, .ref r0), (1, .int i1), (2, .int i2)], [], lay, σ, 0, 0) = zb_243_0 lay σ r0 i1 i2 := rfl
theorem ze_243 {lay : zm_Lay} {σ : zm_Sig} {r0 : Nat} {i1 : Int32} {i2 : Int32} {out : zm_Out} {r : zm_St ⊕ zm_Out} (h : zb_243_0 lay σ r0 i1 i2 = some r) (hg : zm_end zp_P 243 out r) : zM 243 [.ref r0, .int i1, .int i2] lay σ = some out :=
  zm_mean_go (M := zd_243) rfl (Nat.le_of_ble_eq_true rfl) (zm_blk_go (M := zd_243) rfl zs_243 36 (zp_243.drop 0) _ r (fun _ h => List.mem_of_mem_drop h) ((zr_243_0 lay σ r0 i1 i2).trans h) hg)
/-! SubgroupWriterModel.isAlike(II)Z -/
theorem zs_244 : zm_srt zp_244 = true := by decide +kernel
noncomputable def zb_244_0 (lay : zm_Lay) (σ : zm_Sig) (r0 : Nat) (i1 : Int32) (i2 : Int32) : Option (zm_St ⊕ zm_Out) :=
  (zm_is lay r0 10).bind fun _ =>
  zm_opt (σ.2.2 r0 21) (fun q1 =>
  (zm_gI lay σ q1 (((nI 3) : Int32) + i1)).bind fun v2 =>
  if ¬ v2 = 0 then (some (.inl (23, [(0, .ref r0), (1, .int i1), (2, .int i2), (3, .int v2), (4, .int 0), (5, .int 0)], [], lay, σ, 0, 0)))
  else (some (.inl (23, [(0, .ref r0), (1, .int i1), (2, .int i2), (3, .int v2), (4, .int 1), (5, .int 0)], [], lay, σ, 0, 0)))) (none)
set_option maxRecDepth 100000 in
theorem zr_244_0 (lay : zm_Lay) (σ : zm_Sig) (r0 : Nat) (i1 : Int32) (i2 : Int32) : zm_blk zM zp_244 (some .boolean) 0 0 zc_244 97 (zp_244.drop 0) (0, [(0, .ref r0), (1, .int i1), (2, .int i2)], [], lay, σ, 0, 0) = zb_244_0 lay σ r0 i1 i2 := rfl
theorem ze_244 {lay : zm_Lay} {σ : zm_Sig} {r0 : Nat} {i1 : Int32} {i2 : Int32} {out : zm_Out} {r : zm_St ⊕ zm_Out} (h : zb_244_0 lay σ r0 i1 i2 = some r) (hg : zm_end zp_P 244 out r) : zM 244 [.ref r0, .int i1, .int i2] lay σ = some out :=
  zm_mean_go (M := zd_244) rfl (Nat.le_of_ble_eq_true rfl) (zm_blk_go (M := zd_244) rfl zs_244 97 (zp_244.drop 0) _ r (fun _ h => List.mem_of_mem_drop h) ((zr_244_0 lay σ r0 i1 i2).trans h) hg)
noncomputable def zb_244_23 (lay : zm_Lay) (σ : zm_Sig) (r0 : Nat) (i1 : Int32) (i2 : Int32) (i3 : Int32) (i4 : Int32) (i5 : Int32) : Option (zm_St ⊕ zm_Out) :=
  if i3 ≤ i5 then (if i4 = 0 then (some (.inr (some (.int 0), lay, σ)))
   else ((zm_is lay r0 10).bind fun _ =>
    zm_opt (σ.2.2 r0 21) (fun q1 =>
    (zm_gI lay σ q1 (((nI 3) : Int32) + i2)).bind fun v2 =>
    if ¬ v2 = i3 then (some (.inr (some (.int 0), lay, σ)))
    else (some (.inr (some (.int 1), lay, σ)))) (none)))
  else (if ¬ i4 = 0 then (if i4 = 0 then (some (.inr (some (.int 0), lay, σ)))
    else ((zm_is lay r0 10).bind fun _ =>
     zm_opt (σ.2.2 r0 21) (fun q3 =>
     (zm_gI lay σ q3 (((nI 3) : Int32) + i2)).bind fun v4 =>
     if ¬ v4 = i3 then (some (.inr (some (.int 0), lay, σ)))
     else (some (.inr (some (.int 1), lay, σ)))) (none)))
   else (some (.inl (43, [(0, .ref r0), (1, .int i1), (2, .int i2), (3, .int i3), (5, .int i5), (6, .int 1), (7, .int 1), (8, .int 0)], [], lay, σ, 0, 0))))
set_option maxRecDepth 100000 in
theorem zr_244_23 (lay : zm_Lay) (σ : zm_Sig) (r0 : Nat) (i1 : Int32) (i2 : Int32) (i3 : Int32) (i4 : Int32) (i5 : Int32) : zm_blk zM zp_244 (some .boolean) 0 0 zc_244 97 (zp_244.drop 15) (23, [(0, .ref r0), (1, .int i1), (2, .int i2), (3, .int i3), (4, .int i4), (5, .int i5)], [], lay, σ, 0, 0) = zb_244_23 lay σ r0 i1 i2 i3 i4 i5 := rfl
theorem zg_244_23 {lay : zm_Lay} {σ : zm_Sig} {r0 : Nat} {i1 : Int32} {i2 : Int32} {i3 : Int32} {i4 : Int32} {i5 : Int32} {out : zm_Out} {r : zm_St ⊕ zm_Out} (h : zb_244_23 lay σ r0 i1 i2 i3 i4 i5 = some r) (hg : zm_end zp_P 244 out r) : zm_go zp_P 244 (23, [(0, .ref r0), (1, .int i1), (2, .int i2), (3, .int i3), (4, .int i4), (5, .int i5)], [], lay, σ, 0, 0) out :=
  zm_blk_go (M := zd_244) rfl zs_244 97 (zp_244.drop 15) _ r (fun _ h => List.mem_of_mem_drop h) ((zr_244_23 lay σ r0 i1 i2 i3 i4 i5).trans h) hg
noncomputable def zb_244_43 (lay : zm_Lay) (σ : zm_Sig) (r0 : Nat) (i1 : Int32) (i2 : Int32) (i3 : Int32) (i5 : Int32) (i6 : Int32) (i7 : Int32) (i8 : Int32) : Option (zm_St ⊕ zm_Out) :=
  if i3 ≤ i8 then (if ¬ i6 = 0 then (some (.inl (23, [(0, .ref r0), (1, .int i1), (2, .int i2), (3, .int i3), (4, .int 1), (5, .int (i5 + 1))], [], lay, σ, 0, 0)))
   else (if i7 = 0 then (some (.inl (23, [(0, .ref r0), (1, .int i1), (2, .int i2), (3, .int i3), (4, .int 0), (5, .int (i5 + 1))], [], lay, σ, 0, 0)))
    else (some (.inl (23, [(0, .ref r0), (1, .int i1), (2, .int i2), (3, .int i3), (4, .int 1), (5, .int (i5 + 1))], [], lay, σ, 0, 0)))))
  else (if i6 = 0 then (if i7 = 0 then (some (.inl (43, [(0, .ref r0), (1, .int i1), (2, .int i2), (3, .int i3), (5, .int i5), (6, .int 0), (7, .int 0), (8, .int (i8 + 1))], [], lay, σ, 0, 0)))
    else ((zm_is lay r0 10).bind fun _ => (zm_ai (zM 238 [.ref r0, .int i1, .int i8] lay σ)).bind fun q1 =>
     if i3 = 0 then none
     else ((zm_is q1.2.1 r0 10).bind fun _ => (zm_ai (zM 238 [.ref r0, .int i2, .int (((i5 + i3) - i8) - ((i5 + i3) - i8) / i3 * i3)] q1.2.1 q1.2.2)).bind fun q2 =>
     if ¬ q1.1 = (-q2.1) then (some (.inl (43, [(0, .ref r0), (1, .int i1), (2, .int i2), (3, .int i3), (5, .int i5), (6, .int 0), (7, .int 0), (8, .int (i8 + 1))], [], q2.2.1, q2.2.2, 0, 0)))
     else (some (.inl (43, [(0, .ref r0), (1, .int i1), (2, .int i2), (3, .int i3), (5, .int i5), (6, .int 0), (7, .int 1), (8, .int (i8 + 1))], [], q2.2.1, q2.2.2, 0, 0))))))
   else ((zm_is lay r0 10).bind fun _ => (zm_ai (zM 238 [.ref r0, .int i1, .int i8] lay σ)).bind fun q3 =>
    if i3 = 0 then none
    else ((zm_is q3.2.1 r0 10).bind fun _ => (zm_ai (zM 238 [.ref r0, .int i2, .int ((i8 + i5) - (i8 + i5) / i3 * i3)] q3.2.1 q3.2.2)).bind fun q4 =>
    if ¬ q3.1 = q4.1 then (if i7 = 0 then (some (.inl (43, [(0, .ref r0), (1, .int i1), (2, .int i2), (3, .int i3), (5, .int i5), (6, .int 0), (7, .int 0), (8, .int (i8 + 1))], [], q4.2.1, q4.2.2, 0, 0)))
     else ((zm_is q4.2.1 r0 10).bind fun _ => (zm_ai (zM 238 [.ref r0, .int i1, .int i8] q4.2.1 q4.2.2)).bind fun q5 =>
      if i3 = 0 then none
      else ((zm_is q5.2.1 r0 10).bind fun _ => (zm_ai (zM 238 [.ref r0, .int i2, .int (((i5 + i3) - i8) - ((i5 + i3) - i8) / i3 * i3)] q5.2.1 q5.2.2)).bind fun q6 =>
      if ¬ q5.1 = (-q6.1) then (some (.inl (43, [(0, .ref r0), (1, .int i1), (2, .int i2), (3, .int i3), (5, .int i5), (6, .int 0), (7, .int 0), (8, .int (i8 + 1))], [], q6.2.1, q6.2.2, 0, 0)))
      else (some (.inl (43, [(0, .ref r0), (1, .int i1), (2, .int i2), (3, .int i3), (5, .int i5), (6, .int 0), (7, .int 1), (8, .int (i8 + 1))], [], q6.2.1, q6.2.2, 0, 0))))))
    else (if i7 = 0 then (some (.inl (43, [(0, .ref r0), (1, .int i1), (2, .int i2), (3, .int i3), (5, .int i5), (6, .int 1), (7, .int 0), (8, .int (i8 + 1))], [], q4.2.1, q4.2.2, 0, 0)))
     else ((zm_is q4.2.1 r0 10).bind fun _ => (zm_ai (zM 238 [.ref r0, .int i1, .int i8] q4.2.1 q4.2.2)).bind fun q7 =>
      if i3 = 0 then none
      else ((zm_is q7.2.1 r0 10).bind fun _ => (zm_ai (zM 238 [.ref r0, .int i2, .int (((i5 + i3) - i8) - ((i5 + i3) - i8) / i3 * i3)] q7.2.1 q7.2.2)).bind fun q8 =>
      if ¬ q7.1 = (-q8.1) then (some (.inl (43, [(0, .ref r0), (1, .int i1), (2, .int i2), (3, .int i3), (5, .int i5), (6, .int 1), (7, .int 0), (8, .int (i8 + 1))], [], q8.2.1, q8.2.2, 0, 0)))
      else (some (.inl (43, [(0, .ref r0), (1, .int i1), (2, .int i2), (3, .int i3), (5, .int i5), (6, .int 1), (7, .int 1), (8, .int (i8 + 1))], [], q8.2.1, q8.2.2, 0, 0)))))))))
set_option maxRecDepth 100000 in
theorem zr_244_43 (lay : zm_Lay) (σ : zm_Sig) (r0 : Nat) (i1 : Int32) (i2 : Int32) (i3 : Int32) (i5 : Int32) (i6 : Int32) (i7 : Int32) (i8 : Int32) : zm_blk zM zp_244 (some .boolean) 0 0 zc_244 97 (zp_244.drop 26) (43, [(0, .ref r0), (1, .int i1), (2, .int i2), (3, .int i3), (5, .int i5), (6, .int i6), (7, .int i7), (8, .int i8)], [], lay, σ, 0, 0) = zb_244_43 lay σ r0 i1 i2 i3 i5 i6 i7 i8 := rfl
theorem zg_244_43 {lay : zm_Lay} {σ : zm_Sig} {r0 : Nat} {i1 : Int32} {i2 : Int32} {i3 : Int32} {i5 : Int32} {i6 : Int32} {i7 : Int32} {i8 : Int32} {out : zm_Out} {r : zm_St ⊕ zm_Out} (h : zb_244_43 lay σ r0 i1 i2 i3 i5 i6 i7 i8 = some r) (hg : zm_end zp_P 244 out r) : zm_go zp_P 244 (43, [(0, .ref r0), (1, .int i1), (2, .int i2), (3, .int i3), (5, .int i5), (6, .int i6), (7, .int i7), (8, .int i8)], [], lay, σ, 0, 0) out :=
  zm_blk_go (M := zd_244) rfl zs_244 97 (zp_244.drop 26) _ r (fun _ h => List.mem_of_mem_drop h) ((zr_244_43 lay σ r0 i1 i2 i3 i5 i6 i7 i8).trans h) hg
/-! SubgroupWriterModel.order(I)I -/
theorem zs_245 : zm_srt zp_245 = true := by decide +kernel
noncomputable def zb_245_0 (lay : zm_Lay) (σ : zm_Sig) (r0 : Nat) (i1 : Int32) : Option (zm_St ⊕ zm_Out) :=
  (zm_ai (zM 176 [.int i1, .int 0, .int (nI 2)] lay σ)).bind fun q1 =>
  if ¬ q1.1 = 0 then ((zm_is q1.2.1 r0 10).bind fun _ =>
   if (q1.2.2.1 r0 4) = 0 then (some (.inr (some (.int (-4)), q1.2.1, q1.2.2)))
   else ((zm_is q1.2.1 r0 10).bind fun _ =>
    zm_opt (q1.2.2.2.2 r0 21) (fun q2 =>
    (zm_gI q1.2.1 q1.2.2 q2 0).bind fun v3 =>
    if ¬ v3 = i1 then ((zm_is q1.2.1 r0 10).bind fun _ =>
     if ¬ (q1.2.2.1 r0 23) = (nI 20) then ((zm_is q1.2.1 r0 10).bind fun _ => (zm_av (zM 246 [.ref r0] q1.2.1 q1.2.2)).bind fun q4 =>
      (zm_is q4.1 r0 10).bind fun _ => (zm_av (zM 201 [.ref r0, .int i1] q4.1 q4.2)).bind fun q5 =>
      (zm_is q5.1 r0 10).bind fun _ =>
      zm_opt (q5.2.2.2 r0 21) (fun q6 =>
      (zm_gI q5.1 q5.2 q6 1).bind fun v7 =>
      some (.inr (some (.int v7), q5.1, q5.2))) (none))
     else (some (.inr (some (.int (-2)), q1.2.1, q1.2.2))))
    else (some (.inr (some (.int (-4)), q1.2.1, q1.2.2)))) (none)))
  else (some (.inr (some (.int (-1)), q1.2.1, q1.2.2)))
set_option maxRecDepth 100000 in
theorem zr_245_0 (lay : zm_Lay) (σ : zm_Sig) (r0 : Nat) (i1 : Int32) : zm_blk zM zp_245 (some .int) 0 0 zc_245 35 (zp_245.drop 0) (0, [(0, .ref r0), (1, .int i1)], [], lay, σ, 0, 0) = zb_245_0 lay σ r0 i1 := rfl
theorem ze_245 {lay : zm_Lay} {σ : zm_Sig} {r0 : Nat} {i1 : Int32} {out : zm_Out} {r : zm_St ⊕ zm_Out} (h : zb_245_0 lay σ r0 i1 = some r) (hg : zm_end zp_P 245 out r) : zM 245 [.ref r0, .int i1] lay σ = some out :=
  zm_mean_go (M := zd_245) rfl (Nat.le_of_ble_eq_true rfl) (zm_blk_go (M := zd_245) rfl zs_245 35 (zp_245.drop 0) _ r (fun _ h => List.mem_of_mem_drop h) ((zr_245_0 lay σ r0 i1).trans h) hg)
/-! SubgroupWriterModel.notes()V -/
theorem zs_246 : zm_srt zp_246 = true := by decide +kernel
noncomputable def zb_246_0 (lay : zm_Lay) (σ : zm_Sig) (r0 : Nat) : Option (zm_St ⊕ zm_Out) :=
  (zm_is lay r0 10).bind fun _ =>
  zm_opt (σ.2.2 r0 21) (fun q1 =>
  (zm_is lay r0 10).bind fun _ =>
  zm_opt (σ.2.2 r0 22) (fun q2 =>
  (zm_is lay r0 10).bind fun _ =>
  (zm_av (zM 200 [.ref q1, .int 0, .ref q2, .int (((nI 258) : Int32) * (σ.1 r0 23)), .int (nI 258)] lay σ)).bind fun q3 =>
  (zm_is q3.1 r0 10).bind fun _ =>
  (zm_is q3.1 r0 10).bind fun _ => (zm_fw q3.2 r0 23 0 (.int ((q3.2.1 r0 23) + 1))).bind fun s4 =>
  some (.inr (none, q3.1, s4))) (none)) (none)
set_option maxRecDepth 100000 in
theorem zr_246_0 (lay : zm_Lay) (σ : zm_Sig) (r0 : Nat) : zm_blk zM zp_246 none 0 0 zc_246 19 (zp_246.drop 0) (0, [(0, .ref r0)], [], lay, σ, 0, 0) = zb_246_0 lay σ r0 := rfl
theorem ze_246 {lay : zm_Lay} {σ : zm_Sig} {r0 : Nat} {out : zm_Out} {r : zm_St ⊕ zm_Out} (h : zb_246_0 lay σ r0 = some r) (hg : zm_end zp_P 246 out r) : zM 246 [.ref r0] lay σ = some out :=
  zm_mean_go (M := zd_246) rfl (Nat.le_of_ble_eq_true rfl) (zm_blk_go (M := zd_246) rfl zs_246 19 (zp_246.drop 0) _ r (fun _ h => List.mem_of_mem_drop h) ((zr_246_0 lay σ r0).trans h) hg)
/-! SubgroupWriterModel.turn(I)I -/
theorem zs_247 : zm_srt zp_247 = true := by decide +kernel
noncomputable def zb_247_0 (lay : zm_Lay) (σ : zm_Sig) (r0 : Nat) (i1 : Int32) : Option (zm_St ⊕ zm_Out) :=
  (zm_is lay r0 10).bind fun _ => (zm_ai (zM 237 [.ref r0, .int i1] lay σ)).bind fun q1 =>
  if ¬ q1.1 = 0 then ((zm_is q1.2.1 r0 10).bind fun _ =>
   zm_opt (q1.2.2.2.2 r0 21) (fun q2 =>
   (zm_gI q1.2.1 q1.2.2 q2 (((nI 3) : Int32) + i1)).bind fun v3 =>
   if ¬ v3 = 0 then ((zm_is q1.2.1 r0 10).bind fun _ =>
    if ¬ (q1.2.2.1 r0 23) = (nI 20) then ((zm_is q1.2.1 r0 10).bind fun _ => (zm_av (zM 246 [.ref r0] q1.2.1 q1.2.2)).bind fun q4 =>
     (zm_is q4.1 r0 10).bind fun _ => (zm_av (zM 248 [.ref r0, .int i1] q4.1 q4.2)).bind fun q5 =>
     (zm_is q5.1 r0 10).bind fun _ =>
     zm_opt (q5.2.2.2 r0 21) (fun q6 =>
     (zm_gI q5.1 q5.2 q6 (((nI 3) : Int32) + i1)).bind fun v7 =>
     some (.inr (some (.int v7), q5.1, q5.2))) (none))
    else (some (.inr (some (.int (-2)), q1.2.1, q1.2.2))))
   else (some (.inr (some (.int (-4)), q1.2.1, q1.2.2)))) (none))
  else (some (.inr (some (.int (-1)), q1.2.1, q1.2.2)))
set_option maxRecDepth 100000 in
theorem zr_247_0 (lay : zm_Lay) (σ : zm_Sig) (r0 : Nat) (i1 : Int32) : zm_blk zM zp_247 (some .int) 0 0 zc_247 34 (zp_247.drop 0) (0, [(0, .ref r0), (1, .int i1)], [], lay, σ, 0, 0) = zb_247_0 lay σ r0 i1 := rfl
theorem ze_247 {lay : zm_Lay} {σ : zm_Sig} {r0 : Nat} {i1 : Int32} {out : zm_Out} {r : zm_St ⊕ zm_Out} (h : zb_247_0 lay σ r0 i1 = some r) (hg : zm_end zp_P 247 out r) : zM 247 [.ref r0, .int i1] lay σ = some out :=
  zm_mean_go (M := zd_247) rfl (Nat.le_of_ble_eq_true rfl) (zm_blk_go (M := zd_247) rfl zs_247 34 (zp_247.drop 0) _ r (fun _ h => List.mem_of_mem_drop h) ((zr_247_0 lay σ r0 i1).trans h) hg)
/-! SubgroupWriterModel.turned(I)V -/
theorem zs_248 : zm_srt zp_248 = true := by decide +kernel
noncomputable def zb_248_0 (lay : zm_Lay) (σ : zm_Sig) (r0 : Nat) (i1 : Int32) : Option (zm_St ⊕ zm_Out) :=
  (zm_is lay r0 10).bind fun _ => (zm_fw σ r0 40 0 (.int 0)).bind fun s1 =>
  some (.inl (7, [(0, .ref r0), (1, .int i1), (2, .int 0)], [], lay, s1, 0, 0))
set_option maxRecDepth 100000 in
theorem zr_248_0 (lay : zm_Lay) (σ : zm_Sig) (r0 : Nat) (i1 : Int32) : zm_blk zM zp_248 none 0 0 zc_248 35 (zp_248.drop 0) (0, [(0, .ref r0), (1, .int i1)], [], lay, σ, 0, 0) = zb_248_0 lay σ r0 i1 := rfl
theorem ze_248 {lay : zm_Lay} {σ : zm_Sig} {r0 : Nat} {i1 : Int32} {out : zm_Out} {r : zm_St ⊕ zm_Out} (h : zb_248_0 lay σ r0 i1 = some r) (hg : zm_end zp_P 248 out r) : zM 248 [.ref r0, .int i1] lay σ = some out :=
  zm_mean_go (M := zd_248) rfl (Nat.le_of_ble_eq_true rfl) (zm_blk_go (M := zd_248) rfl zs_248 35 (zp_248.drop 0) _ r (fun _ h => List.mem_of_mem_drop h) ((zr_248_0 lay σ r0 i1).trans h) hg)
noncomputable def zb_248_7 (lay : zm_Lay) (σ : zm_Sig) (r0 : Nat) (i1 : Int32) (i2 : Int32) : Option (zm_St ⊕ zm_Out) :=
  (zm_is lay r0 10).bind fun _ =>
  zm_opt (σ.2.2 r0 21) (fun q1 =>
  (zm_gI lay σ q1 (((nI 3) : Int32) + i1)).bind fun v2 =>
  if v2 ≤ i2 then ((zm_is lay r0 10).bind fun _ => (zm_av (zM 214 [.ref r0, .int i1] lay σ)).bind fun q3 =>
   some (.inr (none, q3.1, q3.2)))
  else ((zm_is lay r0 10).bind fun _ =>
   zm_opt (σ.2.2 r0 21) (fun q4 =>
   (zm_gI lay σ q4 (((nI 3) : Int32) + i1)).bind fun v5 =>
   if v5 = 0 then none
   else ((zm_is lay r0 10).bind fun _ => (zm_ai (zM 238 [.ref r0, .int i1, .int ((i2 + 1) - (i2 + 1) / v5 * v5)] lay σ)).bind fun q6 =>
   (zm_is q6.2.1 r0 10).bind fun _ => (zm_av (zM 213 [.ref r0, .int q6.1] q6.2.1 q6.2.2)).bind fun q7 =>
   some (.inl (7, [(0, .ref r0), (1, .int i1), (2, .int (i2 + 1))], [], q7.1, q7.2, 0, 0)))) (none))) (none)
set_option maxRecDepth 100000 in
theorem zr_248_7 (lay : zm_Lay) (σ : zm_Sig) (r0 : Nat) (i1 : Int32) (i2 : Int32) : zm_blk zM zp_248 none 0 0 zc_248 35 (zp_248.drop 5) (7, [(0, .ref r0), (1, .int i1), (2, .int i2)], [], lay, σ, 0, 0) = zb_248_7 lay σ r0 i1 i2 := rfl
theorem zg_248_7 {lay : zm_Lay} {σ : zm_Sig} {r0 : Nat} {i1 : Int32} {i2 : Int32} {out : zm_Out} {r : zm_St ⊕ zm_Out} (h : zb_248_7 lay σ r0 i1 i2 = some r) (hg : zm_end zp_P 248 out r) : zm_go zp_P 248 (7, [(0, .ref r0), (1, .int i1), (2, .int i2)], [], lay, σ, 0, 0) out :=
  zm_blk_go (M := zd_248) rfl zs_248 35 (zp_248.drop 5) _ r (fun _ h => List.mem_of_mem_drop h) ((zr_248_7 lay σ r0 i1 i2).trans h) hg
/-! SubgroupWriterModel.over(I)I -/
theorem zs_249 : zm_srt zp_249 = true := by decide +kernel
noncomputable def zb_249_0 (lay : zm_Lay) (σ : zm_Sig) (r0 : Nat) (i1 : Int32) : Option (zm_St ⊕ zm_Out) :=
  (zm_is lay r0 10).bind fun _ => (zm_ai (zM 237 [.ref r0, .int i1] lay σ)).bind fun q1 =>
  if ¬ q1.1 = 0 then ((zm_is q1.2.1 r0 10).bind fun _ =>
   zm_opt (q1.2.2.2.2 r0 21) (fun q2 =>
   (zm_gI q1.2.1 q1.2.2 q2 (((nI 3) : Int32) + i1)).bind fun v3 =>
   if ¬ v3 = 0 then ((zm_is q1.2.1 r0 10).bind fun _ =>
    if ¬ (q1.2.2.1 r0 23) = (nI 20) then ((zm_is q1.2.1 r0 10).bind fun _ => (zm_av (zM 246 [.ref r0] q1.2.1 q1.2.2)).bind fun q4 =>
     (zm_is q4.1 r0 10).bind fun _ => (zm_av (zM 250 [.ref r0, .int i1] q4.1 q4.2)).bind fun q5 =>
     (zm_is q5.1 r0 10).bind fun _ =>
     zm_opt (q5.2.2.2 r0 21) (fun q6 =>
     (zm_gI q5.1 q5.2 q6 (((nI 3) : Int32) + i1)).bind fun v7 =>
     some (.inr (some (.int v7), q5.1, q5.2))) (none))
    else (some (.inr (some (.int (-2)), q1.2.1, q1.2.2))))
   else (some (.inr (some (.int (-4)), q1.2.1, q1.2.2)))) (none))
  else (some (.inr (some (.int (-1)), q1.2.1, q1.2.2)))
set_option maxRecDepth 100000 in
theorem zr_249_0 (lay : zm_Lay) (σ : zm_Sig) (r0 : Nat) (i1 : Int32) : zm_blk zM zp_249 (some .int) 0 0 zc_249 34 (zp_249.drop 0) (0, [(0, .ref r0), (1, .int i1)], [], lay, σ, 0, 0) = zb_249_0 lay σ r0 i1 := rfl
theorem ze_249 {lay : zm_Lay} {σ : zm_Sig} {r0 : Nat} {i1 : Int32} {out : zm_Out} {r : zm_St ⊕ zm_Out} (h : zb_249_0 lay σ r0 i1 = some r) (hg : zm_end zp_P 249 out r) : zM 249 [.ref r0, .int i1] lay σ = some out :=
  zm_mean_go (M := zd_249) rfl (Nat.le_of_ble_eq_true rfl) (zm_blk_go (M := zd_249) rfl zs_249 34 (zp_249.drop 0) _ r (fun _ h => List.mem_of_mem_drop h) ((zr_249_0 lay σ r0 i1).trans h) hg)
/-! SubgroupWriterModel.turnedOver(I)V -/
theorem zs_250 : zm_srt zp_250 = true := by decide +kernel
noncomputable def zb_250_0 (lay : zm_Lay) (σ : zm_Sig) (r0 : Nat) (i1 : Int32) : Option (zm_St ⊕ zm_Out) :=
  (zm_is lay r0 10).bind fun _ => (zm_fw σ r0 40 0 (.int 0)).bind fun s1 =>
  (zm_is lay r0 10).bind fun _ =>
  zm_opt (s1.2.2 r0 21) (fun q2 =>
  (zm_gI lay s1 q2 (((nI 3) : Int32) + i1)).bind fun v3 =>
  some (.inl (16, [(0, .ref r0), (1, .int i1), (2, .int (v3 - 1))], [], lay, s1, 0, 0))) (none)
set_option maxRecDepth 100000 in
theorem zr_250_0 (lay : zm_Lay) (σ : zm_Sig) (r0 : Nat) (i1 : Int32) : zm_blk zM zp_250 none 0 0 zc_250 28 (zp_250.drop 0) (0, [(0, .ref r0), (1, .int i1)], [], lay, σ, 0, 0) = zb_250_0 lay σ r0 i1 := rfl
theorem ze_250 {lay : zm_Lay} {σ : zm_Sig} {r0 : Nat} {i1 : Int32} {out : zm_Out} {r : zm_St ⊕ zm_Out} (h : zb_250_0 lay σ r0 i1 = some r) (hg : zm_end zp_P 250 out r) : zM 250 [.ref r0, .int i1] lay σ = some out :=
  zm_mean_go (M := zd_250) rfl (Nat.le_of_ble_eq_true rfl) (zm_blk_go (M := zd_250) rfl zs_250 28 (zp_250.drop 0) _ r (fun _ h => List.mem_of_mem_drop h) ((zr_250_0 lay σ r0 i1).trans h) hg)
noncomputable def zb_250_16 (lay : zm_Lay) (σ : zm_Sig) (r0 : Nat) (i1 : Int32) (i2 : Int32) : Option (zm_St ⊕ zm_Out) :=
  if i2 < 0 then ((zm_is lay r0 10).bind fun _ => (zm_av (zM 214 [.ref r0, .int i1] lay σ)).bind fun q1 =>
   some (.inr (none, q1.1, q1.2)))
  else ((zm_is lay r0 10).bind fun _ => (zm_ai (zM 238 [.ref r0, .int i1, .int i2] lay σ)).bind fun q2 =>
   (zm_is q2.2.1 r0 10).bind fun _ => (zm_av (zM 213 [.ref r0, .int (-q2.1)] q2.2.1 q2.2.2)).bind fun q3 =>
   some (.inl (16, [(0, .ref r0), (1, .int i1), (2, .int (i2 + (-1)))], [], q3.1, q3.2, 0, 0)))
set_option maxRecDepth 100000 in
theorem zr_250_16 (lay : zm_Lay) (σ : zm_Sig) (r0 : Nat) (i1 : Int32) (i2 : Int32) : zm_blk zM zp_250 none 0 0 zc_250 28 (zp_250.drop 12) (16, [(0, .ref r0), (1, .int i1), (2, .int i2)], [], lay, σ, 0, 0) = zb_250_16 lay σ r0 i1 i2 := rfl
theorem zg_250_16 {lay : zm_Lay} {σ : zm_Sig} {r0 : Nat} {i1 : Int32} {i2 : Int32} {out : zm_Out} {r : zm_St ⊕ zm_Out} (h : zb_250_16 lay σ r0 i1 i2 = some r) (hg : zm_end zp_P 250 out r) : zm_go zp_P 250 (16, [(0, .ref r0), (1, .int i1), (2, .int i2)], [], lay, σ, 0, 0) out :=
  zm_blk_go (M := zd_250) rfl zs_250 28 (zp_250.drop 12) _ r (fun _ h => List.mem_of_mem_drop h) ((zr_250_16 lay σ r0 i1 i2).trans h) hg
/-! SubgroupWriterModel.join(II)I -/
theorem zs_251 : zm_srt zp_251 = true := by decide +kernel
noncomputable def zb_251_0 (lay : zm_Lay) (σ : zm_Sig) (r0 : Nat) (i1 : Int32) (i2 : Int32) : Option (zm_St ⊕ zm_Out) :=
  (zm_is lay r0 10).bind fun _ => (zm_ai (zM 237 [.ref r0, .int i1] lay σ)).bind fun q1 =>
  if q1.1 = 0 then (some (.inr (some (.int (-1)), q1.2.1, q1.2.2)))
  else ((zm_is q1.2.1 r0 10).bind fun _ => (zm_ai (zM 237 [.ref r0, .int i2] q1.2.1 q1.2.2)).bind fun q2 =>
   if q2.1 = 0 then (some (.inr (some (.int (-1)), q2.2.1, q2.2.2)))
   else (if ¬ i1 = i2 then ((zm_is q2.2.1 r0 10).bind fun _ => (zm_av (zM 252 [.ref r0, .int i1, .int i2] q2.2.1 q2.2.2)).bind fun q3 =>
     (zm_is q3.1 r0 10).bind fun _ =>
     if (q3.2.1 r0 40) ≤ (nI 16) then ((zm_is q3.1 r0 10).bind fun _ =>
      if ¬ (q3.2.1 r0 23) = (nI 20) then ((zm_is q3.1 r0 10).bind fun _ => (zm_av (zM 246 [.ref r0] q3.1 q3.2)).bind fun q4 =>
       (zm_is q4.1 r0 10).bind fun _ => (zm_av (zM 214 [.ref r0, .int i1] q4.1 q4.2)).bind fun q5 =>
       (zm_is q5.1 r0 10).bind fun _ =>
       some (.inr (some (.int (q5.2.1 r0 40)), q5.1, q5.2)))
      else (some (.inr (some (.int (-2)), q3.1, q3.2))))
     else (some (.inr (some (.int (-6)), q3.1, q3.2))))
    else (some (.inr (some (.int (-1)), q2.2.1, q2.2.2)))))
set_option maxRecDepth 100000 in
theorem zr_251_0 (lay : zm_Lay) (σ : zm_Sig) (r0 : Nat) (i1 : Int32) (i2 : Int32) : zm_blk zM zp_251 (some .int) 0 0 zc_251 38 (zp_251.drop 0) (0, [(0, .ref r0), (1, .int i1), (2, .int i2)], [], lay, σ, 0, 0) = zb_251_0 lay σ r0 i1 i2 := rfl
theorem ze_251 {lay : zm_Lay} {σ : zm_Sig} {r0 : Nat} {i1 : Int32} {i2 : Int32} {out : zm_Out} {r : zm_St ⊕ zm_Out} (h : zb_251_0 lay σ r0 i1 i2 = some r) (hg : zm_end zp_P 251 out r) : zM 251 [.ref r0, .int i1, .int i2] lay σ = some out :=
  zm_mean_go (M := zd_251) rfl (Nat.le_of_ble_eq_true rfl) (zm_blk_go (M := zd_251) rfl zs_251 38 (zp_251.drop 0) _ r (fun _ h => List.mem_of_mem_drop h) ((zr_251_0 lay σ r0 i1 i2).trans h) hg)
/-! SubgroupWriterModel.joins(II)V -/
theorem zs_252 : zm_srt zp_252 = true := by decide +kernel
noncomputable def zb_252_0 (lay : zm_Lay) (σ : zm_Sig) (r0 : Nat) (i1 : Int32) (i2 : Int32) : Option (zm_St ⊕ zm_Out) :=
  (zm_is lay r0 10).bind fun _ => (zm_fw σ r0 40 0 (.int 0)).bind fun s1 =>
  some (.inl (7, [(0, .ref r0), (1, .int i1), (2, .int i2), (3, .int 0)], [], lay, s1, 0, 0))
set_option maxRecDepth 100000 in
theorem zr_252_0 (lay : zm_Lay) (σ : zm_Sig) (r0 : Nat) (i1 : Int32) (i2 : Int32) : zm_blk zM zp_252 none 0 0 zc_252 41 (zp_252.drop 0) (0, [(0, .ref r0), (1, .int i1), (2, .int i2)], [], lay, σ, 0, 0) = zb_252_0 lay σ r0 i1 i2 := rfl
theorem ze_252 {lay : zm_Lay} {σ : zm_Sig} {r0 : Nat} {i1 : Int32} {i2 : Int32} {out : zm_Out} {r : zm_St ⊕ zm_Out} (h : zb_252_0 lay σ r0 i1 i2 = some r) (hg : zm_end zp_P 252 out r) : zM 252 [.ref r0, .int i1, .int i2] lay σ = some out :=
  zm_mean_go (M := zd_252) rfl (Nat.le_of_ble_eq_true rfl) (zm_blk_go (M := zd_252) rfl zs_252 41 (zp_252.drop 0) _ r (fun _ h => List.mem_of_mem_drop h) ((zr_252_0 lay σ r0 i1 i2).trans h) hg)
noncomputable def zb_252_7 (lay : zm_Lay) (σ : zm_Sig) (r0 : Nat) (i1 : Int32) (i2 : Int32) (i3 : Int32) : Option (zm_St ⊕ zm_Out) :=
  (zm_is lay r0 10).bind fun _ =>
  zm_opt (σ.2.2 r0 21) (fun q1 =>
  (zm_gI lay σ q1 (((nI 3) : Int32) + i1)).bind fun v2 =>
  if v2 ≤ i3 then (some (.inl (37, [(0, .ref r0), (2, .int i2), (3, .int 0)], [], lay, σ, 0, 0)))
  else ((zm_is lay r0 10).bind fun _ => (zm_ai (zM 238 [.ref r0, .int i1, .int i3] lay σ)).bind fun q3 =>
   (zm_is q3.2.1 r0 10).bind fun _ => (zm_av (zM 213 [.ref r0, .int q3.1] q3.2.1 q3.2.2)).bind fun q4 =>
   some (.inl (7, [(0, .ref r0), (1, .int i1), (2, .int i2), (3, .int (i3 + 1))], [], q4.1, q4.2, 0, 0)))) (none)
set_option maxRecDepth 100000 in
theorem zr_252_7 (lay : zm_Lay) (σ : zm_Sig) (r0 : Nat) (i1 : Int32) (i2 : Int32) (i3 : Int32) : zm_blk zM zp_252 none 0 0 zc_252 41 (zp_252.drop 5) (7, [(0, .ref r0), (1, .int i1), (2, .int i2), (3, .int i3)], [], lay, σ, 0, 0) = zb_252_7 lay σ r0 i1 i2 i3 := rfl
theorem zg_252_7 {lay : zm_Lay} {σ : zm_Sig} {r0 : Nat} {i1 : Int32} {i2 : Int32} {i3 : Int32} {out : zm_Out} {r : zm_St ⊕ zm_Out} (h : zb_252_7 lay σ r0 i1 i2 i3 = some r) (hg : zm_end zp_P 252 out r) : zm_go zp_P 252 (7, [(0, .ref r0), (1, .int i1), (2, .int i2), (3, .int i3)], [], lay, σ, 0, 0) out :=
  zm_blk_go (M := zd_252) rfl zs_252 41 (zp_252.drop 5) _ r (fun _ h => List.mem_of_mem_drop h) ((zr_252_7 lay σ r0 i1 i2 i3).trans h) hg
noncomputable def zb_252_37 (lay : zm_Lay) (σ : zm_Sig) (r0 : Nat) (i2 : Int32) (i3 : Int32) : Option (zm_St ⊕ zm_Out) :=
  (zm_is lay r0 10).bind fun _ =>
  zm_opt (σ.2.2 r0 21) (fun q1 =>
  (zm_gI lay σ q1 (((nI 3) : Int32) + i2)).bind fun v2 =>
  if v2 ≤ i3 then (some (.inr (none, lay, σ)))
  else ((zm_is lay r0 10).bind fun _ => (zm_ai (zM 238 [.ref r0, .int i2, .int i3] lay σ)).bind fun q3 =>
   (zm_is q3.2.1 r0 10).bind fun _ => (zm_av (zM 213 [.ref r0, .int q3.1] q3.2.1 q3.2.2)).bind fun q4 =>
   some (.inl (37, [(0, .ref r0), (2, .int i2), (3, .int (i3 + 1))], [], q4.1, q4.2, 0, 0)))) (none)
set_option maxRecDepth 100000 in
theorem zr_252_37 (lay : zm_Lay) (σ : zm_Sig) (r0 : Nat) (i2 : Int32) (i3 : Int32) : zm_blk zM zp_252 none 0 0 zc_252 41 (zp_252.drop 23) (37, [(0, .ref r0), (2, .int i2), (3, .int i3)], [], lay, σ, 0, 0) = zb_252_37 lay σ r0 i2 i3 := rfl
theorem zg_252_37 {lay : zm_Lay} {σ : zm_Sig} {r0 : Nat} {i2 : Int32} {i3 : Int32} {out : zm_Out} {r : zm_St ⊕ zm_Out} (h : zb_252_37 lay σ r0 i2 i3 = some r) (hg : zm_end zp_P 252 out r) : zm_go zp_P 252 (37, [(0, .ref r0), (2, .int i2), (3, .int i3)], [], lay, σ, 0, 0) out :=
  zm_blk_go (M := zd_252) rfl zs_252 41 (zp_252.drop 23) _ r (fun _ h => List.mem_of_mem_drop h) ((zr_252_37 lay σ r0 i2 i3).trans h) hg
/-! SubgroupWriterModel.cut(I)I -/
theorem zs_253 : zm_srt zp_253 = true := by decide +kernel
noncomputable def zb_253_0 (lay : zm_Lay) (σ : zm_Sig) (r0 : Nat) (i1 : Int32) : Option (zm_St ⊕ zm_Out) :=
  (zm_is lay r0 10).bind fun _ => (zm_ai (zM 237 [.ref r0, .int i1] lay σ)).bind fun q1 =>
  if ¬ q1.1 = 0 then ((zm_is q1.2.1 r0 10).bind fun _ => (zm_ai (zM 254 [.ref r0, .int i1] q1.2.1 q1.2.2)).bind fun q2 =>
   if ¬ q2.1 = 0 then ((zm_is q2.2.1 r0 10).bind fun _ =>
    if ¬ (q2.2.2.1 r0 23) = (nI 20) then ((zm_is q2.2.1 r0 10).bind fun _ => (zm_av (zM 246 [.ref r0] q2.2.1 q2.2.2)).bind fun q3 =>
     (zm_is q3.1 r0 10).bind fun _ => (zm_av (zM 255 [.ref r0, .int i1] q3.1 q3.2)).bind fun q4 =>
     (zm_is q4.1 r0 10).bind fun _ =>
     zm_opt (q4.2.2.2 r0 21) (fun q5 =>
     (zm_gI q4.1 q4.2 q5 1).bind fun v6 =>
     some (.inr (some (.int v6), q4.1, q4.2))) (none))
    else (some (.inr (some (.int (-2)), q2.2.1, q2.2.2))))
   else (some (.inr (some (.int (-4)), q2.2.1, q2.2.2))))
  else (some (.inr (some (.int (-1)), q1.2.1, q1.2.2)))
set_option maxRecDepth 100000 in
theorem zr_253_0 (lay : zm_Lay) (σ : zm_Sig) (r0 : Nat) (i1 : Int32) : zm_blk zM zp_253 (some .int) 0 0 zc_253 29 (zp_253.drop 0) (0, [(0, .ref r0), (1, .int i1)], [], lay, σ, 0, 0) = zb_253_0 lay σ r0 i1 := rfl
theorem ze_253 {lay : zm_Lay} {σ : zm_Sig} {r0 : Nat} {i1 : Int32} {out : zm_Out} {r : zm_St ⊕ zm_Out} (h : zb_253_0 lay σ r0 i1 = some r) (hg : zm_end zp_P 253 out r) : zM 253 [.ref r0, .int i1] lay σ = some out :=
  zm_mean_go (M := zd_253) rfl (Nat.le_of_ble_eq_true rfl) (zm_blk_go (M := zd_253) rfl zs_253 29 (zp_253.drop 0) _ r (fun _ h => List.mem_of_mem_drop h) ((zr_253_0 lay σ r0 i1).trans h) hg)
/-! SubgroupWriterModel.mayCut(I)Z -/
theorem zs_254 : zm_srt zp_254 = true := by decide +kernel
noncomputable def zb_254_0 (lay : zm_Lay) (σ : zm_Sig) (r0 : Nat) (i1 : Int32) : Option (zm_St ⊕ zm_Out) :=
  (zm_is lay r0 10).bind fun _ =>
  zm_opt (σ.2.2 r0 21) (fun q1 =>
  (zm_gI lay σ q1 (((nI 3) : Int32) + i1)).bind fun v2 =>
  if ¬ v2 = 0 then (some (.inl (19, [(0, .ref r0), (1, .int i1), (2, .int 0), (3, .int 0)], [], lay, σ, 0, 0)))
  else (some (.inl (19, [(0, .ref r0), (1, .int i1), (2, .int 1), (3, .int 0)], [], lay, σ, 0, 0)))) (none)
set_option maxRecDepth 100000 in
theorem zr_254_0 (lay : zm_Lay) (σ : zm_Sig) (r0 : Nat) (i1 : Int32) : zm_blk zM zp_254 (some .boolean) 0 0 zc_254 45 (zp_254.drop 0) (0, [(0, .ref r0), (1, .int i1)], [], lay, σ, 0, 0) = zb_254_0 lay σ r0 i1 := rfl
theorem ze_254 {lay : zm_Lay} {σ : zm_Sig} {r0 : Nat} {i1 : Int32} {out : zm_Out} {r : zm_St ⊕ zm_Out} (h : zb_254_0 lay σ r0 i1 = some r) (hg : zm_end zp_P 254 out r) : zM 254 [.ref r0, .int i1] lay σ = some out :=
  zm_mean_go (M := zd_254) rfl (Nat.le_of_ble_eq_true rfl) (zm_blk_go (M := zd_254) rfl zs_254 45 (zp_254.drop 0) _ r (fun _ h => List.mem_of_mem_drop h) ((zr_254_0 lay σ r0 i1).trans h) hg)
noncomputable def zb_254_19 (lay : zm_Lay) (σ : zm_Sig) (r0 : Nat) (i1 : Int32) (i2 : Int32) (i3 : Int32) : Option (zm_St ⊕ zm_Out) :=
  if i1 ≤ i3 then (if i2 = 0 ∨ i2 = 1 then some (.inr (some (.int i2), lay, σ)) else none)
  else (if ¬ i2 = 0 then (if i2 = 0 ∨ i2 = 1 then some (.inr (some (.int i2), lay, σ)) else none)
   else ((zm_is lay r0 10).bind fun _ =>
    zm_opt (σ.2.2 r0 21) (fun q1 =>
    (zm_gI lay σ q1 (((nI 3) : Int32) + i3)).bind fun v2 =>
    (zm_is lay r0 10).bind fun _ =>
    zm_opt (σ.2.2 r0 21) (fun q3 =>
    (zm_gI lay σ q3 (((nI 3) : Int32) + i1)).bind fun v4 =>
    if ¬ v2 = v4 then (some (.inl (19, [(0, .ref r0), (1, .int i1), (2, .int 0), (3, .int (i3 + 1))], [], lay, σ, 0, 0)))
    else ((zm_is lay r0 10).bind fun _ => (zm_ai (zM 244 [.ref r0, .int i1, .int i3] lay σ)).bind fun q5 =>
     if q5.1 = 0 then (some (.inl (19, [(0, .ref r0), (1, .int i1), (2, .int 0), (3, .int (i3 + 1))], [], q5.2.1, q5.2.2, 0, 0)))
     else (some (.inl (19, [(0, .ref r0), (1, .int i1), (2, .int 1), (3, .int (i3 + 1))], [], q5.2.1, q5.2.2, 0, 0))))) (none)) (none)))
set_option maxRecDepth 100000 in
theorem zr_254_19 (lay : zm_Lay) (σ : zm_Sig) (r0 : Nat) (i1 : Int32) (i2 : Int32) (i3 : Int32) : zm_blk zM zp_254 (some .boolean) 0 0 zc_254 45 (zp_254.drop 13) (19, [(0, .ref r0), (1, .int i1), (2, .int i2), (3, .int i3)], [], lay, σ, 0, 0) = zb_254_19 lay σ r0 i1 i2 i3 := rfl
theorem zg_254_19 {lay : zm_Lay} {σ : zm_Sig} {r0 : Nat} {i1 : Int32} {i2 : Int32} {i3 : Int32} {out : zm_Out} {r : zm_St ⊕ zm_Out} (h : zb_254_19 lay σ r0 i1 i2 i3 = some r) (hg : zm_end zp_P 254 out r) : zm_go zp_P 254 (19, [(0, .ref r0), (1, .int i1), (2, .int i2), (3, .int i3)], [], lay, σ, 0, 0) out :=
  zm_blk_go (M := zd_254) rfl zs_254 45 (zp_254.drop 13) _ r (fun _ h => List.mem_of_mem_drop h) ((zr_254_19 lay σ r0 i1 i2 i3).trans h) hg
/-! SubgroupWriterModel.goesRule(I)V -/
theorem zs_255 : zm_srt zp_255 = true := by decide +kernel
noncomputable def zb_255_0 (lay : zm_Lay) (σ : zm_Sig) (r0 : Nat) (i1 : Int32) : Option (zm_St ⊕ zm_Out) :=
  (zm_is lay r0 10).bind fun _ =>
  zm_opt (σ.2.2 r0 21) (fun q1 =>
  (zm_gI lay σ q1 1).bind fun v2 =>
  (zm_sI lay σ q1 1 (v2 - 1)).bind fun s3 =>
  some (.inl (12, [(0, .ref r0), (2, .int i1)], [], lay, s3, 0, 0))) (none)
set_option maxRecDepth 100000 in
theorem zr_255_0 (lay : zm_Lay) (σ : zm_Sig) (r0 : Nat) (i1 : Int32) : zm_blk zM zp_255 none 0 0 zc_255 52 (zp_255.drop 0) (0, [(0, .ref r0), (1, .int i1)], [], lay, σ, 0, 0) = zb_255_0 lay σ r0 i1 := rfl
theorem ze_255 {lay : zm_Lay} {σ : zm_Sig} {r0 : Nat} {i1 : Int32} {out : zm_Out} {r : zm_St ⊕ zm_Out} (h : zb_255_0 lay σ r0 i1 = some r) (hg : zm_end zp_P 255 out r) : zM 255 [.ref r0, .int i1] lay σ = some out :=
  zm_mean_go (M := zd_255) rfl (Nat.le_of_ble_eq_true rfl) (zm_blk_go (M := zd_255) rfl zs_255 52 (zp_255.drop 0) _ r (fun _ h => List.mem_of_mem_drop h) ((zr_255_0 lay σ r0 i1).trans h) hg)
noncomputable def zb_255_12 (lay : zm_Lay) (σ : zm_Sig) (r0 : Nat) (i2 : Int32) : Option (zm_St ⊕ zm_Out) :=
  (zm_is lay r0 10).bind fun _ =>
  zm_opt (σ.2.2 r0 21) (fun q1 =>
  (zm_gI lay σ q1 1).bind fun v2 =>
  if v2 ≤ i2 then (some (.inr (none, lay, σ)))
  else ((zm_is lay r0 10).bind fun _ =>
   zm_opt (σ.2.2 r0 21) (fun q3 =>
   (zm_is lay r0 10).bind fun _ =>
   zm_opt (σ.2.2 r0 21) (fun q4 =>
   (zm_gI lay σ q4 ((((nI 3) : Int32) + i2) + 1)).bind fun v5 =>
   (zm_sI lay σ q3 (((nI 3) : Int32) + i2) v5).bind fun s6 =>
   (zm_is lay r0 10).bind fun _ =>
   zm_opt (s6.2.2 r0 21) (fun q7 =>
   (zm_is lay r0 10).bind fun _ =>
   zm_opt (s6.2.2 r0 21) (fun q8 =>
   (zm_av (zM 200 [.ref q7, .int (((nI 18) : Int32) + (((nI 16) : Int32) * (i2 + 1))), .ref q8, .int (((nI 18) : Int32) + (((nI 16) : Int32) * i2)), .int (nI 16)] lay s6)).bind fun q9 =>
   some (.inl (12, [(0, .ref r0), (2, .int (i2 + 1))], [], q9.1, q9.2, 0, 0))) (none)) (none)) (none)) (none))) (none)
set_option maxRecDepth 100000 in
theorem zr_255_12 (lay : zm_Lay) (σ : zm_Sig) (r0 : Nat) (i2 : Int32) : zm_blk zM zp_255 none 0 0 zc_255 52 (zp_255.drop 10) (12, [(0, .ref r0), (2, .int i2)], [], lay, σ, 0, 0) = zb_255_12 lay σ r0 i2 := rfl
theorem zg_255_12 {lay : zm_Lay} {σ : zm_Sig} {r0 : Nat} {i2 : Int32} {out : zm_Out} {r : zm_St ⊕ zm_Out} (h : zb_255_12 lay σ r0 i2 = some r) (hg : zm_end zp_P 255 out r) : zm_go zp_P 255 (12, [(0, .ref r0), (2, .int i2)], [], lay, σ, 0, 0) out :=
  zm_blk_go (M := zd_255) rfl zs_255 52 (zp_255.drop 10) _ r (fun _ h => List.mem_of_mem_drop h) ((zr_255_12 lay σ r0 i2).trans h) hg
/-! SubgroupWriterModel.solve(II)I -/
theorem zs_256 : zm_srt zp_256 = true := by decide +kernel
noncomputable def zb_256_0 (lay : zm_Lay) (σ : zm_Sig) (r0 : Nat) (i1 : Int32) (i2 : Int32) : Option (zm_St ⊕ zm_Out) :=
  (zm_is lay r0 10).bind fun _ => (zm_ai (zM 237 [.ref r0, .int i1] lay σ)).bind fun q1 =>
  if q1.1 = 0 then (some (.inr (some (.int (-1)), q1.2.1, q1.2.2)))
  else ((zm_is q1.2.1 r0 10).bind fun _ => (zm_ai (zM 240 [.ref r0, .int i2] q1.2.1 q1.2.2)).bind fun q2 =>
   if ¬ q2.1 = 0 then ((zm_is q2.2.1 r0 10).bind fun _ => (zm_ai (zM 242 [.ref r0, .int i1, .int i2] q2.2.1 q2.2.2)).bind fun q3 =>
    if q3.1 = 1 then ((zm_is q3.2.1 r0 10).bind fun _ => (zm_ai (zM 257 [.ref r0, .int i1, .int i2] q3.2.1 q3.2.2)).bind fun q4 =>
     if ¬ q4.1 = 0 then ((zm_is q4.2.1 r0 10).bind fun _ =>
      if ¬ (q4.2.2.1 r0 23) = (nI 20) then ((zm_is q4.2.1 r0 10).bind fun _ => (zm_av (zM 246 [.ref r0] q4.2.1 q4.2.2)).bind fun q5 =>
       (zm_is q5.1 r0 10).bind fun _ => (zm_av (zM 260 [.ref r0, .int i1, .int i2] q5.1 q5.2)).bind fun q6 =>
       (zm_is q6.1 r0 10).bind fun _ =>
       zm_opt (q6.2.2.2 r0 21) (fun q7 =>
       (zm_gI q6.1 q6.2 q7 1).bind fun v8 =>
       some (.inr (some (.int v8), q6.1, q6.2))) (none))
      else (some (.inr (some (.int (-2)), q4.2.1, q4.2.2))))
     else (some (.inr (some (.int (-6)), q4.2.1, q4.2.2))))
    else (some (.inr (some (.int (-4)), q3.2.1, q3.2.2))))
   else (some (.inr (some (.int (-1)), q2.2.1, q2.2.2))))
set_option maxRecDepth 100000 in
theorem zr_256_0 (lay : zm_Lay) (σ : zm_Sig) (r0 : Nat) (i1 : Int32) (i2 : Int32) : zm_blk zM zp_256 (some .int) 0 0 zc_256 43 (zp_256.drop 0) (0, [(0, .ref r0), (1, .int i1), (2, .int i2)], [], lay, σ, 0, 0) = zb_256_0 lay σ r0 i1 i2 := rfl
theorem ze_256 {lay : zm_Lay} {σ : zm_Sig} {r0 : Nat} {i1 : Int32} {i2 : Int32} {out : zm_Out} {r : zm_St ⊕ zm_Out} (h : zb_256_0 lay σ r0 i1 i2 = some r) (hg : zm_end zp_P 256 out r) : zM 256 [.ref r0, .int i1, .int i2] lay σ = some out :=
  zm_mean_go (M := zd_256) rfl (Nat.le_of_ble_eq_true rfl) (zm_blk_go (M := zd_256) rfl zs_256 43 (zp_256.drop 0) _ r (fun _ h => List.mem_of_mem_drop h) ((zr_256_0 lay σ r0 i1 i2).trans h) hg)
/-! SubgroupWriterModel.maySolve(II)Z -/
theorem zs_257 : zm_srt zp_257 = true := by decide +kernel
noncomputable def zb_257_0 (lay : zm_Lay) (σ : zm_Sig) (r0 : Nat) (i1 : Int32) (i2 : Int32) : Option (zm_St ⊕ zm_Out) :=
  (zm_is lay r0 10).bind fun _ => (zm_av (zM 258 [.ref r0, .int i1, .int i2] lay σ)).bind fun q1 =>
  some (.inl (11, [(0, .ref r0), (1, .int i1), (2, .int i2), (3, .int 1), (4, .int 0)], [], q1.1, q1.2, 0, 0))
set_option maxRecDepth 100000 in
theorem zr_257_0 (lay : zm_Lay) (σ : zm_Sig) (r0 : Nat) (i1 : Int32) (i2 : Int32) : zm_blk zM zp_257 (some .boolean) 0 0 zc_257 36 (zp_257.drop 0) (0, [(0, .ref r0), (1, .int i1), (2, .int i2)], [], lay, σ, 0, 0) = zb_257_0 lay σ r0 i1 i2 := rfl
theorem ze_257 {lay : zm_Lay} {σ : zm_Sig} {r0 : Nat} {i1 : Int32} {i2 : Int32} {out : zm_Out} {r : zm_St ⊕ zm_Out} (h : zb_257_0 lay σ r0 i1 i2 = some r) (hg : zm_end zp_P 257 out r) : zM 257 [.ref r0, .int i1, .int i2] lay σ = some out :=
  zm_mean_go (M := zd_257) rfl (Nat.le_of_ble_eq_true rfl) (zm_blk_go (M := zd_257) rfl zs_257 36 (zp_257.drop 0) _ r (fun _ h => List.mem_of_mem_drop h) ((zr_257_0 lay σ r0 i1 i2).trans h) hg)
noncomputable def zb_257_11 (lay : zm_Lay) (σ : zm_Sig) (r0 : Nat) (i1 : Int32) (i2 : Int32) (i3 : Int32) (i4 : Int32) : Option (zm_St ⊕ zm_Out) :=
  (zm_is lay r0 10).bind fun _ =>
  zm_opt (σ.2.2 r0 21) (fun q1 =>
  (zm_gI lay σ q1 1).bind fun v2 =>
  if v2 ≤ i4 then (if i3 = 0 ∨ i3 = 1 then some (.inr (some (.int i3), lay, σ)) else none)
  else (if i3 = 0 then (if i3 = 0 ∨ i3 = 1 then some (.inr (some (.int i3), lay, σ)) else none)
   else (if i4 = i1 then (some (.inl (11, [(0, .ref r0), (1, .int i1), (2, .int i2), (3, .int i3), (4, .int (i4 + 1))], [], lay, σ, 0, 0)))
    else ((zm_is lay r0 10).bind fun _ => (zm_av (zM 259 [.ref r0, .int i4, .int i2] lay σ)).bind fun q3 =>
     (zm_is q3.1 r0 10).bind fun _ =>
     if ((nI 16) : Int32) < (q3.2.1 r0 40) then (some (.inl (11, [(0, .ref r0), (1, .int i1), (2, .int i2), (3, .int 0), (4, .int (i4 + 1))], [], q3.1, q3.2, 0, 0)))
     else (some (.inl (11, [(0, .ref r0), (1, .int i1), (2, .int i2), (3, .int 1), (4, .int (i4 + 1))], [], q3.1, q3.2, 0, 0))))))) (none)
set_option maxRecDepth 100000 in
theorem zr_257_11 (lay : zm_Lay) (σ : zm_Sig) (r0 : Nat) (i1 : Int32) (i2 : Int32) (i3 : Int32) (i4 : Int32) : zm_blk zM zp_257 (some .boolean) 0 0 zc_257 36 (zp_257.drop 8) (11, [(0, .ref r0), (1, .int i1), (2, .int i2), (3, .int i3), (4, .int i4)], [], lay, σ, 0, 0) = zb_257_11 lay σ r0 i1 i2 i3 i4 := rfl
theorem zg_257_11 {lay : zm_Lay} {σ : zm_Sig} {r0 : Nat} {i1 : Int32} {i2 : Int32} {i3 : Int32} {i4 : Int32} {out : zm_Out} {r : zm_St ⊕ zm_Out} (h : zb_257_11 lay σ r0 i1 i2 i3 i4 = some r) (hg : zm_end zp_P 257 out r) : zm_go zp_P 257 (11, [(0, .ref r0), (1, .int i1), (2, .int i2), (3, .int i3), (4, .int i4)], [], lay, σ, 0, 0) out :=
  zm_blk_go (M := zd_257) rfl zs_257 36 (zp_257.drop 8) _ r (fun _ h => List.mem_of_mem_drop h) ((zr_257_11 lay σ r0 i1 i2 i3 i4).trans h) hg
/-! SubgroupWriterModel.laysInstead(II)V -/
theorem zs_258 : zm_srt zp_258 = true := by decide +kernel
noncomputable def zb_258_0 (lay : zm_Lay) (σ : zm_Sig) (r0 : Nat) (i1 : Int32) (i2 : Int32) : Option (zm_St ⊕ zm_Out) :=
  (zm_is lay r0 10).bind fun _ =>
  zm_opt (σ.2.2 r0 21) (fun q1 =>
  (zm_gI lay σ q1 (((nI 3) : Int32) + i1)).bind fun v2 =>
  some (.inl (12, [(0, .ref r0), (1, .int i1), (2, .int i2), (3, .int v2), (4, .int 0)], [], lay, σ, 0, 0))) (none)
set_option maxRecDepth 100000 in
theorem zr_258_0 (lay : zm_Lay) (σ : zm_Sig) (r0 : Nat) (i1 : Int32) (i2 : Int32) : zm_blk zM zp_258 none 0 0 zc_258 80 (zp_258.drop 0) (0, [(0, .ref r0), (1, .int i1), (2, .int i2)], [], lay, σ, 0, 0) = zb_258_0 lay σ r0 i1 i2 := rfl
theorem ze_258 {lay : zm_Lay} {σ : zm_Sig} {r0 : Nat} {i1 : Int32} {i2 : Int32} {out : zm_Out} {r : zm_St ⊕ zm_Out} (h : zb_258_0 lay σ r0 i1 i2 = some r) (hg : zm_end zp_P 258 out r) : zM 258 [.ref r0, .int i1, .int i2] lay σ = some out :=
  zm_mean_go (M := zd_258) rfl (Nat.le_of_ble_eq_true rfl) (zm_blk_go (M := zd_258) rfl zs_258 80 (zp_258.drop 0) _ r (fun _ h => List.mem_of_mem_drop h) ((zr_258_0 lay σ r0 i1 i2).trans h) hg)
noncomputable def zb_258_12 (lay : zm_Lay) (σ : zm_Sig) (r0 : Nat) (i1 : Int32) (i2 : Int32) (i3 : Int32) (i4 : Int32) : Option (zm_St ⊕ zm_Out) :=
  (zm_is lay r0 10).bind fun _ => (zm_ai (zM 238 [.ref r0, .int i1, .int i4] lay σ)).bind fun q1 =>
  if q1.1 = i2 then ((zm_is q1.2.1 r0 10).bind fun _ => (zm_ai (zM 238 [.ref r0, .int i1, .int i4] q1.2.1 q1.2.2)).bind fun q2 =>
   if ¬ q2.1 = i2 then ((zm_is q2.2.1 r0 10).bind fun _ => (zm_fw q2.2.2 r0 43 0 (.int (i3 - 1))).bind fun s3 =>
    some (.inl (69, [(0, .ref r0), (1, .int i1), (3, .int i3), (4, .int i4), (5, .int 0), (6, .int 0)], [], q2.2.1, s3, 0, 0)))
   else ((zm_is q2.2.1 r0 10).bind fun _ => (zm_fw q2.2.2 r0 43 0 (.int (i3 - 1))).bind fun s4 =>
    some (.inl (69, [(0, .ref r0), (1, .int i1), (3, .int i3), (4, .int i4), (5, .int 1), (6, .int 0)], [], q2.2.1, s4, 0, 0))))
  else ((zm_is q1.2.1 r0 10).bind fun _ => (zm_ai (zM 238 [.ref r0, .int i1, .int i4] q1.2.1 q1.2.2)).bind fun q5 =>
   if q5.1 = (-i2) then ((zm_is q5.2.1 r0 10).bind fun _ => (zm_ai (zM 238 [.ref r0, .int i1, .int i4] q5.2.1 q5.2.2)).bind fun q6 =>
    if ¬ q6.1 = i2 then ((zm_is q6.2.1 r0 10).bind fun _ => (zm_fw q6.2.2 r0 43 0 (.int (i3 - 1))).bind fun s7 =>
     some (.inl (69, [(0, .ref r0), (1, .int i1), (3, .int i3), (4, .int i4), (5, .int 0), (6, .int 0)], [], q6.2.1, s7, 0, 0)))
    else ((zm_is q6.2.1 r0 10).bind fun _ => (zm_fw q6.2.2 r0 43 0 (.int (i3 - 1))).bind fun s8 =>
     some (.inl (69, [(0, .ref r0), (1, .int i1), (3, .int i3), (4, .int i4), (5, .int 1), (6, .int 0)], [], q6.2.1, s8, 0, 0))))
   else (some (.inl (12, [(0, .ref r0), (1, .int i1), (2, .int i2), (3, .int i3), (4, .int (i4 + 1))], [], q5.2.1, q5.2.2, 0, 0))))
set_option maxRecDepth 100000 in
theorem zr_258_12 (lay : zm_Lay) (σ : zm_Sig) (r0 : Nat) (i1 : Int32) (i2 : Int32) (i3 : Int32) (i4 : Int32) : zm_blk zM zp_258 none 0 0 zc_258 80 (zp_258.drop 9) (12, [(0, .ref r0), (1, .int i1), (2, .int i2), (3, .int i3), (4, .int i4)], [], lay, σ, 0, 0) = zb_258_12 lay σ r0 i1 i2 i3 i4 := rfl
theorem zg_258_12 {lay : zm_Lay} {σ : zm_Sig} {r0 : Nat} {i1 : Int32} {i2 : Int32} {i3 : Int32} {i4 : Int32} {out : zm_Out} {r : zm_St ⊕ zm_Out} (h : zb_258_12 lay σ r0 i1 i2 i3 i4 = some r) (hg : zm_end zp_P 258 out r) : zm_go zp_P 258 (12, [(0, .ref r0), (1, .int i1), (2, .int i2), (3, .int i3), (4, .int i4)], [], lay, σ, 0, 0) out :=
  zm_blk_go (M := zd_258) rfl zs_258 80 (zp_258.drop 9) _ r (fun _ h => List.mem_of_mem_drop h) ((zr_258_12 lay σ r0 i1 i2 i3 i4).trans h) hg
noncomputable def zb_258_69 (lay : zm_Lay) (σ : zm_Sig) (r0 : Nat) (i1 : Int32) (i3 : Int32) (i4 : Int32) (i5 : Int32) (i6 : Int32) : Option (zm_St ⊕ zm_Out) :=
  if (i3 - 1) ≤ i6 then (some (.inr (none, lay, σ)))
  else ((zm_is lay r0 10).bind fun _ =>
   zm_opt (σ.2.2 r0 42) (fun q1 =>
   if i5 = 0 then (if i3 = 0 then none
    else ((zm_is lay r0 10).bind fun _ => (zm_ai (zM 238 [.ref r0, .int i1, .int (((i4 + 1) + i6) - ((i4 + 1) + i6) / i3 * i3)] lay σ)).bind fun q2 =>
    (zm_sI q2.2.1 q2.2.2 q1 i6 q2.1).bind fun s3 =>
    some (.inl (69, [(0, .ref r0), (1, .int i1), (3, .int i3), (4, .int i4), (5, .int i5), (6, .int (i6 + 1))], [], q2.2.1, s3, 0, 0))))
   else (if i3 = 0 then none
    else ((zm_is lay r0 10).bind fun _ => (zm_ai (zM 238 [.ref r0, .int i1, .int ((((i4 + i3) - 1) - i6) - (((i4 + i3) - 1) - i6) / i3 * i3)] lay σ)).bind fun q4 =>
    (zm_sI q4.2.1 q4.2.2 q1 i6 (-q4.1)).bind fun s5 =>
    some (.inl (69, [(0, .ref r0), (1, .int i1), (3, .int i3), (4, .int i4), (5, .int i5), (6, .int (i6 + 1))], [], q4.2.1, s5, 0, 0))))) (none))
set_option maxRecDepth 100000 in
theorem zr_258_69 (lay : zm_Lay) (σ : zm_Sig) (r0 : Nat) (i1 : Int32) (i3 : Int32) (i4 : Int32) (i5 : Int32) (i6 : Int32) : zm_blk zM zp_258 none 0 0 zc_258 80 (zp_258.drop 41) (69, [(0, .ref r0), (1, .int i1), (3, .int i3), (4, .int i4), (5, .int i5), (6, .int i6)], [], lay, σ, 0, 0) = zb_258_69 lay σ r0 i1 i3 i4 i5 i6 := rfl
theorem zg_258_69 {lay : zm_Lay} {σ : zm_Sig} {r0 : Nat} {i1 : Int32} {i3 : Int32} {i4 : Int32} {i5 : Int32} {i6 : Int32} {out : zm_Out} {r : zm_St ⊕ zm_Out} (h : zb_258_69 lay σ r0 i1 i3 i4 i5 i6 = some r) (hg : zm_end zp_P 258 out r) : zm_go zp_P 258 (69, [(0, .ref r0), (1, .int i1), (3, .int i3), (4, .int i4), (5, .int i5), (6, .int i6)], [], lay, σ, 0, 0) out :=
  zm_blk_go (M := zd_258) rfl zs_258 80 (zp_258.drop 41) _ r (fun _ h => List.mem_of_mem_drop h) ((zr_258_69 lay σ r0 i1 i3 i4 i5 i6).trans h) hg
/-! SubgroupWriterModel.putsSo(II)V -/
theorem zs_259 : zm_srt zp_259 = true := by decide +kernel
noncomputable def zb_259_0 (lay : zm_Lay) (σ : zm_Sig) (r0 : Nat) (i1 : Int32) (i2 : Int32) : Option (zm_St ⊕ zm_Out) :=
  (zm_is lay r0 10).bind fun _ => (zm_fw σ r0 40 0 (.int 0)).bind fun s1 =>
  some (.inl (7, [(0, .ref r0), (1, .int i1), (2, .int i2), (3, .int 0)], [], lay, s1, 0, 0))
set_option maxRecDepth 100000 in
theorem zr_259_0 (lay : zm_Lay) (σ : zm_Sig) (r0 : Nat) (i1 : Int32) (i2 : Int32) : zm_blk zM zp_259 none 0 0 zc_259 61 (zp_259.drop 0) (0, [(0, .ref r0), (1, .int i1), (2, .int i2)], [], lay, σ, 0, 0) = zb_259_0 lay σ r0 i1 i2 := rfl
theorem ze_259 {lay : zm_Lay} {σ : zm_Sig} {r0 : Nat} {i1 : Int32} {i2 : Int32} {out : zm_Out} {r : zm_St ⊕ zm_Out} (h : zb_259_0 lay σ r0 i1 i2 = some r) (hg : zm_end zp_P 259 out r) : zM 259 [.ref r0, .int i1, .int i2] lay σ = some out :=
  zm_mean_go (M := zd_259) rfl (Nat.le_of_ble_eq_true rfl) (zm_blk_go (M := zd_259) rfl zs_259 61 (zp_259.drop 0) _ r (fun _ h => List.mem_of_mem_drop h) ((zr_259_0 lay σ r0 i1 i2).trans h) hg)
noncomputable def zb_259_7 (lay : zm_Lay) (σ : zm_Sig) (r0 : Nat) (i1 : Int32) (i2 : Int32) (i3 : Int32) : Option (zm_St ⊕ zm_Out) :=
  (zm_is lay r0 10).bind fun _ =>
  zm_opt (σ.2.2 r0 21) (fun q1 =>
  (zm_gI lay σ q1 (((nI 3) : Int32) + i1)).bind fun v2 =>
  if v2 ≤ i3 then (some (.inr (none, lay, σ)))
  else ((zm_is lay r0 10).bind fun _ => (zm_ai (zM 238 [.ref r0, .int i1, .int i3] lay σ)).bind fun q3 =>
   if q3.1 = i2 then (some (.inl (43, [(0, .ref r0), (1, .int i1), (2, .int i2), (3, .int i3), (4, .int q3.1), (5, .int 0)], [], q3.2.1, q3.2.2, 0, 0)))
   else (if ¬ q3.1 = (-i2) then ((zm_is q3.2.1 r0 10).bind fun _ => (zm_av (zM 213 [.ref r0, .int q3.1] q3.2.1 q3.2.2)).bind fun q4 =>
     some (.inl (7, [(0, .ref r0), (1, .int i1), (2, .int i2), (3, .int (i3 + 1))], [], q4.1, q4.2, 0, 0)))
    else (some (.inl (43, [(0, .ref r0), (1, .int i1), (2, .int i2), (3, .int i3), (4, .int q3.1), (5, .int 0)], [], q3.2.1, q3.2.2, 0, 0)))))) (none)
set_option maxRecDepth 100000 in
theorem zr_259_7 (lay : zm_Lay) (σ : zm_Sig) (r0 : Nat) (i1 : Int32) (i2 : Int32) (i3 : Int32) : zm_blk zM zp_259 none 0 0 zc_259 61 (zp_259.drop 5) (7, [(0, .ref r0), (1, .int i1), (2, .int i2), (3, .int i3)], [], lay, σ, 0, 0) = zb_259_7 lay σ r0 i1 i2 i3 := rfl
theorem zg_259_7 {lay : zm_Lay} {σ : zm_Sig} {r0 : Nat} {i1 : Int32} {i2 : Int32} {i3 : Int32} {out : zm_Out} {r : zm_St ⊕ zm_Out} (h : zb_259_7 lay σ r0 i1 i2 i3 = some r) (hg : zm_end zp_P 259 out r) : zm_go zp_P 259 (7, [(0, .ref r0), (1, .int i1), (2, .int i2), (3, .int i3)], [], lay, σ, 0, 0) out :=
  zm_blk_go (M := zd_259) rfl zs_259 61 (zp_259.drop 5) _ r (fun _ h => List.mem_of_mem_drop h) ((zr_259_7 lay σ r0 i1 i2 i3).trans h) hg
noncomputable def zb_259_43 (lay : zm_Lay) (σ : zm_Sig) (r0 : Nat) (i1 : Int32) (i2 : Int32) (i3 : Int32) (i4 : Int32) (i5 : Int32) : Option (zm_St ⊕ zm_Out) :=
  (zm_is lay r0 10).bind fun _ =>
  if (σ.1 r0 43) ≤ i5 then (some (.inl (7, [(0, .ref r0), (1, .int i1), (2, .int i2), (3, .int (i3 + 1))], [], lay, σ, 0, 0)))
  else (if ¬ i4 = i2 then ((zm_is lay r0 10).bind fun _ =>
    zm_opt (σ.2.2 r0 42) (fun q1 =>
    (zm_is lay r0 10).bind fun _ =>
    (zm_gI lay σ q1 (((σ.1 r0 43) - 1) - i5)).bind fun v2 =>
    (zm_is lay r0 10).bind fun _ => (zm_av (zM 213 [.ref r0, .int (-v2)] lay σ)).bind fun q3 =>
    some (.inl (43, [(0, .ref r0), (1, .int i1), (2, .int i2), (3, .int i3), (4, .int i4), (5, .int (i5 + 1))], [], q3.1, q3.2, 0, 0))) (none))
   else ((zm_is lay r0 10).bind fun _ =>
    zm_opt (σ.2.2 r0 42) (fun q4 =>
    (zm_gI lay σ q4 i5).bind fun v5 =>
    (zm_is lay r0 10).bind fun _ => (zm_av (zM 213 [.ref r0, .int v5] lay σ)).bind fun q6 =>
    some (.inl (43, [(0, .ref r0), (1, .int i1), (2, .int i2), (3, .int i3), (4, .int i4), (5, .int (i5 + 1))], [], q6.1, q6.2, 0, 0))) (none)))
set_option maxRecDepth 100000 in
theorem zr_259_43 (lay : zm_Lay) (σ : zm_Sig) (r0 : Nat) (i1 : Int32) (i2 : Int32) (i3 : Int32) (i4 : Int32) (i5 : Int32) : zm_blk zM zp_259 none 0 0 zc_259 61 (zp_259.drop 27) (43, [(0, .ref r0), (1, .int i1), (2, .int i2), (3, .int i3), (4, .int i4), (5, .int i5)], [], lay, σ, 0, 0) = zb_259_43 lay σ r0 i1 i2 i3 i4 i5 := rfl
theorem zg_259_43 {lay : zm_Lay} {σ : zm_Sig} {r0 : Nat} {i1 : Int32} {i2 : Int32} {i3 : Int32} {i4 : Int32} {i5 : Int32} {out : zm_Out} {r : zm_St ⊕ zm_Out} (h : zb_259_43 lay σ r0 i1 i2 i3 i4 i5 = some r) (hg : zm_end zp_P 259 out r) : zm_go zp_P 259 (43, [(0, .ref r0), (1, .int i1), (2, .int i2), (3, .int i3), (4, .int i4), (5, .int i5)], [], lay, σ, 0, 0) out :=
  zm_blk_go (M := zd_259) rfl zs_259 61 (zp_259.drop 27) _ r (fun _ h => List.mem_of_mem_drop h) ((zr_259_43 lay σ r0 i1 i2 i3 i4 i5).trans h) hg
/-! SubgroupWriterModel.solves(II)V -/
theorem zs_260 : zm_srt zp_260 = true := by decide +kernel
noncomputable def zb_260_0 (lay : zm_Lay) (σ : zm_Sig) (r0 : Nat) (i1 : Int32) (i2 : Int32) : Option (zm_St ⊕ zm_Out) :=
  (zm_is lay r0 10).bind fun _ => (zm_av (zM 258 [.ref r0, .int i1, .int i2] lay σ)).bind fun q1 =>
  some (.inl (8, [(0, .ref r0), (1, .int i1), (2, .int i2), (3, .int 0)], [], q1.1, q1.2, 0, 0))
set_option maxRecDepth 100000 in
theorem zr_260_0 (lay : zm_Lay) (σ : zm_Sig) (r0 : Nat) (i1 : Int32) (i2 : Int32) : zm_blk zM zp_260 none 0 0 zc_260 43 (zp_260.drop 0) (0, [(0, .ref r0), (1, .int i1), (2, .int i2)], [], lay, σ, 0, 0) = zb_260_0 lay σ r0 i1 i2 := rfl
theorem ze_260 {lay : zm_Lay} {σ : zm_Sig} {r0 : Nat} {i1 : Int32} {i2 : Int32} {out : zm_Out} {r : zm_St ⊕ zm_Out} (h : zb_260_0 lay σ r0 i1 i2 = some r) (hg : zm_end zp_P 260 out r) : zM 260 [.ref r0, .int i1, .int i2] lay σ = some out :=
  zm_mean_go (M := zd_260) rfl (Nat.le_of_ble_eq_true rfl) (zm_blk_go (M := zd_260) rfl zs_260 43 (zp_260.drop 0) _ r (fun _ h => List.mem_of_mem_drop h) ((zr_260_0 lay σ r0 i1 i2).trans h) hg)
noncomputable def zb_260_8 (lay : zm_Lay) (σ : zm_Sig) (r0 : Nat) (i1 : Int32) (i2 : Int32) (i3 : Int32) : Option (zm_St ⊕ zm_Out) :=
  (zm_is lay r0 10).bind fun _ =>
  zm_opt (σ.2.2 r0 21) (fun q1 =>
  (zm_gI lay σ q1 1).bind fun v2 =>
  if v2 ≤ i3 then ((zm_is lay r0 10).bind fun _ => (zm_av (zM 255 [.ref r0, .int i1] lay σ)).bind fun q3 =>
   (zm_is q3.1 r0 10).bind fun _ =>
   zm_opt (q3.2.2.2 r0 21) (fun q4 =>
   (zm_gI q3.1 q3.2 q4 (nI 2)).bind fun v5 =>
   (zm_sI q3.1 q3.2 q4 (nI 2) (v5 &&& (((1 : Int32) <<< ((i2 - 1) &&& 31)) ^^^ (-1)))).bind fun s6 =>
   some (.inr (none, q3.1, s6))) (none))
  else (if i3 = i1 then (some (.inl (8, [(0, .ref r0), (1, .int i1), (2, .int i2), (3, .int (i3 + 1))], [], lay, σ, 0, 0)))
   else ((zm_is lay r0 10).bind fun _ => (zm_av (zM 259 [.ref r0, .int i3, .int i2] lay σ)).bind fun q7 =>
    (zm_is q7.1 r0 10).bind fun _ => (zm_av (zM 214 [.ref r0, .int i3] q7.1 q7.2)).bind fun q8 =>
    some (.inl (8, [(0, .ref r0), (1, .int i1), (2, .int i2), (3, .int (i3 + 1))], [], q8.1, q8.2, 0, 0))))) (none)
set_option maxRecDepth 100000 in
theorem zr_260_8 (lay : zm_Lay) (σ : zm_Sig) (r0 : Nat) (i1 : Int32) (i2 : Int32) (i3 : Int32) : zm_blk zM zp_260 none 0 0 zc_260 43 (zp_260.drop 6) (8, [(0, .ref r0), (1, .int i1), (2, .int i2), (3, .int i3)], [], lay, σ, 0, 0) = zb_260_8 lay σ r0 i1 i2 i3 := rfl
theorem zg_260_8 {lay : zm_Lay} {σ : zm_Sig} {r0 : Nat} {i1 : Int32} {i2 : Int32} {i3 : Int32} {out : zm_Out} {r : zm_St ⊕ zm_Out} (h : zb_260_8 lay σ r0 i1 i2 i3 = some r) (hg : zm_end zp_P 260 out r) : zm_go zp_P 260 (8, [(0, .ref r0), (1, .int i1), (2, .int i2), (3, .int i3)], [], lay, σ, 0, 0) out :=
  zm_blk_go (M := zd_260) rfl zs_260 43 (zp_260.drop 6) _ r (fun _ h => List.mem_of_mem_drop h) ((zr_260_8 lay σ r0 i1 i2 i3).trans h) hg
/-! SubgroupWriterModel.shorten()I -/
theorem zs_261 : zm_srt zp_261 = true := by decide +kernel
noncomputable def zb_261_0 (lay : zm_Lay) (σ : zm_Sig) (r0 : Nat) : Option (zm_St ⊕ zm_Out) :=
  (zm_is lay r0 10).bind fun _ =>
  if (σ.1 r0 4) = 0 then (some (.inr (some (.int (-4)), lay, σ)))
  else ((zm_is lay r0 10).bind fun _ => (zm_ai (zM 262 [.ref r0] lay σ)).bind fun q1 =>
   if ¬ q1.1 = (-9) then ((zm_is q1.2.1 r0 10).bind fun _ =>
    if ¬ (q1.2.2.1 r0 23) = (nI 20) then ((zm_is q1.2.1 r0 10).bind fun _ => (zm_av (zM 246 [.ref r0] q1.2.1 q1.2.2)).bind fun q2 =>
     some (.inl (48, [(0, .ref r0), (1, .int 0), (2, .int 1)], [], q2.1, q2.2, 0, 0)))
    else (some (.inr (some (.int (-2)), q1.2.1, q1.2.2))))
   else ((zm_is q1.2.1 r0 10).bind fun _ => (zm_ai (zM 263 [.ref r0] q1.2.1 q1.2.2)).bind fun q3 =>
    if ¬ q3.1 = (-9) then ((zm_is q3.2.1 r0 10).bind fun _ =>
     if ¬ (q3.2.2.1 r0 23) = (nI 20) then ((zm_is q3.2.1 r0 10).bind fun _ => (zm_av (zM 246 [.ref r0] q3.2.1 q3.2.2)).bind fun q4 =>
      some (.inl (48, [(0, .ref r0), (1, .int 0), (2, .int 1)], [], q4.1, q4.2, 0, 0)))
     else (some (.inr (some (.int (-2)), q3.2.1, q3.2.2))))
    else (some (.inr (some (.int (-4)), q3.2.1, q3.2.2)))))
set_option maxRecDepth 100000 in
theorem zr_261_0 (lay : zm_Lay) (σ : zm_Sig) (r0 : Nat) : zm_blk zM zp_261 (some .int) 0 0 zc_261 81 (zp_261.drop 0) (0, [(0, .ref r0)], [], lay, σ, 0, 0) = zb_261_0 lay σ r0 := rfl
theorem ze_261 {lay : zm_Lay} {σ : zm_Sig} {r0 : Nat} {out : zm_Out} {r : zm_St ⊕ zm_Out} (h : zb_261_0 lay σ r0 = some r) (hg : zm_end zp_P 261 out r) : zM 261 [.ref r0] lay σ = some out :=
  zm_mean_go (M := zd_261) rfl (Nat.le_of_ble_eq_true rfl) (zm_blk_go (M := zd_261) rfl zs_261 81 (zp_261.drop 0) _ r (fun _ h => List.mem_of_mem_drop h) ((zr_261_0 lay σ r0).trans h) hg)
noncomputable def zb_261_48 (lay : zm_Lay) (σ : zm_Sig) (r0 : Nat) (i1 : Int32) (i2 : Int32) : Option (zm_St ⊕ zm_Out) :=
  if i2 = 0 then (some (.inr (some (.int i1), lay, σ)))
  else (if ((nI 20) : Int32) ≤ i1 then (some (.inr (some (.int i1), lay, σ)))
   else ((zm_is lay r0 10).bind fun _ => (zm_ai (zM 262 [.ref r0] lay σ)).bind fun q1 =>
    if ¬ q1.1 = (-9) then (if q1.1 = (-9) then (if ¬ q1.1 = (-9) then (some (.inl (48, [(0, .ref r0), (1, .int (i1 + 1)), (2, .int 1)], [], q1.2.1, q1.2.2, 0, 0)))
       else (some (.inl (48, [(0, .ref r0), (1, .int (i1 + 0)), (2, .int 0)], [], q1.2.1, q1.2.2, 0, 0))))
     else ((zm_is q1.2.1 r0 10).bind fun _ => (zm_av (zM 255 [.ref r0, .int q1.1] q1.2.1 q1.2.2)).bind fun q2 =>
      if ¬ q1.1 = (-9) then (some (.inl (48, [(0, .ref r0), (1, .int (i1 + 1)), (2, .int 1)], [], q2.1, q2.2, 0, 0)))
      else (some (.inl (48, [(0, .ref r0), (1, .int (i1 + 0)), (2, .int 0)], [], q2.1, q2.2, 0, 0)))))
    else ((zm_is q1.2.1 r0 10).bind fun _ => (zm_ai (zM 263 [.ref r0] q1.2.1 q1.2.2)).bind fun q3 =>
     if q1.1 = (-9) then (if q3.1 = (-9) then (if ¬ q1.1 = (-9) then (some (.inl (48, [(0, .ref r0), (1, .int (i1 + 1)), (2, .int 1)], [], q3.2.1, q3.2.2, 0, 0)))
       else (if q3.1 = (-9) then (some (.inl (48, [(0, .ref r0), (1, .int (i1 + 0)), (2, .int 0)], [], q3.2.1, q3.2.2, 0, 0)))
        else (some (.inl (48, [(0, .ref r0), (1, .int (i1 + 1)), (2, .int 1)], [], q3.2.1, q3.2.2, 0, 0)))))
      else ((zm_is q3.2.1 r0 10).bind fun _ => (zm_av (zM 260 [.ref r0, .int (q3.1 / (nI 16)), .int (q3.1 - q3.1 / (nI 16) * (nI 16))] q3.2.1 q3.2.2)).bind fun q4 =>
       if ¬ q1.1 = (-9) then (some (.inl (48, [(0, .ref r0), (1, .int (i1 + 1)), (2, .int 1)], [], q4.1, q4.2, 0, 0)))
       else (if q3.1 = (-9) then (some (.inl (48, [(0, .ref r0), (1, .int (i1 + 0)), (2, .int 0)], [], q4.1, q4.2, 0, 0)))
        else (some (.inl (48, [(0, .ref r0), (1, .int (i1 + 1)), (2, .int 1)], [], q4.1, q4.2, 0, 0))))))
     else ((zm_is q3.2.1 r0 10).bind fun _ => (zm_av (zM 255 [.ref r0, .int q1.1] q3.2.1 q3.2.2)).bind fun q5 =>
      if ¬ q1.1 = (-9) then (some (.inl (48, [(0, .ref r0), (1, .int (i1 + 1)), (2, .int 1)], [], q5.1, q5.2, 0, 0)))
      else (if q3.1 = (-9) then (some (.inl (48, [(0, .ref r0), (1, .int (i1 + 0)), (2, .int 0)], [], q5.1, q5.2, 0, 0)))
       else (some (.inl (48, [(0, .ref r0), (1, .int (i1 + 1)), (2, .int 1)], [], q5.1, q5.2, 0, 0))))))))
set_option maxRecDepth 100000 in
theorem zr_261_48 (lay : zm_Lay) (σ : zm_Sig) (r0 : Nat) (i1 : Int32) (i2 : Int32) : zm_blk zM zp_261 (some .int) 0 0 zc_261 81 (zp_261.drop 25) (48, [(0, .ref r0), (1, .int i1), (2, .int i2)], [], lay, σ, 0, 0) = zb_261_48 lay σ r0 i1 i2 := rfl
theorem zg_261_48 {lay : zm_Lay} {σ : zm_Sig} {r0 : Nat} {i1 : Int32} {i2 : Int32} {out : zm_Out} {r : zm_St ⊕ zm_Out} (h : zb_261_48 lay σ r0 i1 i2 = some r) (hg : zm_end zp_P 261 out r) : zm_go zp_P 261 (48, [(0, .ref r0), (1, .int i1), (2, .int i2)], [], lay, σ, 0, 0) out :=
  zm_blk_go (M := zd_261) rfl zs_261 81 (zp_261.drop 25) _ r (fun _ h => List.mem_of_mem_drop h) ((zr_261_48 lay σ r0 i1 i2).trans h) hg
/-! SubgroupWriterModel.firstCut()I -/
theorem zs_262 : zm_srt zp_262 = true := by decide +kernel
noncomputable def zb_262_0 (lay : zm_Lay) (σ : zm_Sig) (r0 : Nat) : Option (zm_St ⊕ zm_Out) :=
  some (.inl (2, [(0, .ref r0), (1, .int 0)], [], lay, σ, 0, 0))
set_option maxRecDepth 100000 in
theorem zr_262_0 (lay : zm_Lay) (σ : zm_Sig) (r0 : Nat) : zm_blk zM zp_262 (some .int) 0 0 zc_262 19 (zp_262.drop 0) (0, [(0, .ref r0)], [], lay, σ, 0, 0) = zb_262_0 lay σ r0 := rfl
theorem ze_262 {lay : zm_Lay} {σ : zm_Sig} {r0 : Nat} {out : zm_Out} {r : zm_St ⊕ zm_Out} (h : zb_262_0 lay σ r0 = some r) (hg : zm_end zp_P 262 out r) : zM 262 [.ref r0] lay σ = some out :=
  zm_mean_go (M := zd_262) rfl (Nat.le_of_ble_eq_true rfl) (zm_blk_go (M := zd_262) rfl zs_262 19 (zp_262.drop 0) _ r (fun _ h => List.mem_of_mem_drop h) ((zr_262_0 lay σ r0).trans h) hg)
noncomputable def zb_262_2 (lay : zm_Lay) (σ : zm_Sig) (r0 : Nat) (i1 : Int32) : Option (zm_St ⊕ zm_Out) :=
  (zm_is lay r0 10).bind fun _ =>
  zm_opt (σ.2.2 r0 21) (fun q1 =>
  (zm_gI lay σ q1 1).bind fun v2 =>
  if v2 ≤ i1 then (some (.inr (some (.int (-9)), lay, σ)))
  else ((zm_is lay r0 10).bind fun _ => (zm_ai (zM 254 [.ref r0, .int i1] lay σ)).bind fun q3 =>
   if q3.1 = 0 then (some (.inl (2, [(0, .ref r0), (1, .int (i1 + 1))], [], q3.2.1, q3.2.2, 0, 0)))
   else (some (.inr (some (.int i1), q3.2.1, q3.2.2))))) (none)
set_option maxRecDepth 100000 in
theorem zr_262_2 (lay : zm_Lay) (σ : zm_Sig) (r0 : Nat) (i1 : Int32) : zm_blk zM zp_262 (some .int) 0 0 zc_262 19 (zp_262.drop 2) (2, [(0, .ref r0), (1, .int i1)], [], lay, σ, 0, 0) = zb_262_2 lay σ r0 i1 := rfl
theorem zg_262_2 {lay : zm_Lay} {σ : zm_Sig} {r0 : Nat} {i1 : Int32} {out : zm_Out} {r : zm_St ⊕ zm_Out} (h : zb_262_2 lay σ r0 i1 = some r) (hg : zm_end zp_P 262 out r) : zm_go zp_P 262 (2, [(0, .ref r0), (1, .int i1)], [], lay, σ, 0, 0) out :=
  zm_blk_go (M := zd_262) rfl zs_262 19 (zp_262.drop 2) _ r (fun _ h => List.mem_of_mem_drop h) ((zr_262_2 lay σ r0 i1).trans h) hg
/-! SubgroupWriterModel.firstSolved()I -/
theorem zs_263 : zm_srt zp_263 = true := by decide +kernel
noncomputable def zb_263_0 (lay : zm_Lay) (σ : zm_Sig) (r0 : Nat) : Option (zm_St ⊕ zm_Out) :=
  some (.inl (2, [(0, .ref r0), (1, .int 1)], [], lay, σ, 0, 0))
set_option maxRecDepth 100000 in
theorem zr_263_0 (lay : zm_Lay) (σ : zm_Sig) (r0 : Nat) : zm_blk zM zp_263 (some .int) 0 0 zc_263 57 (zp_263.drop 0) (0, [(0, .ref r0)], [], lay, σ, 0, 0) = zb_263_0 lay σ r0 := rfl
theorem ze_263 {lay : zm_Lay} {σ : zm_Sig} {r0 : Nat} {out : zm_Out} {r : zm_St ⊕ zm_Out} (h : zb_263_0 lay σ r0 = some r) (hg : zm_end zp_P 263 out r) : zM 263 [.ref r0] lay σ = some out :=
  zm_mean_go (M := zd_263) rfl (Nat.le_of_ble_eq_true rfl) (zm_blk_go (M := zd_263) rfl zs_263 57 (zp_263.drop 0) _ r (fun _ h => List.mem_of_mem_drop h) ((zr_263_0 lay σ r0).trans h) hg)
noncomputable def zb_263_2 (lay : zm_Lay) (σ : zm_Sig) (r0 : Nat) (i1 : Int32) : Option (zm_St ⊕ zm_Out) :=
  if ((nI 16) : Int32) < i1 then (some (.inr (some (.int (-9)), lay, σ)))
  else (some (.inl (10, [(0, .ref r0), (1, .int i1), (2, .int 0)], [], lay, σ, 0, 0)))
set_option maxRecDepth 100000 in
theorem zr_263_2 (lay : zm_Lay) (σ : zm_Sig) (r0 : Nat) (i1 : Int32) : zm_blk zM zp_263 (some .int) 0 0 zc_263 57 (zp_263.drop 2) (2, [(0, .ref r0), (1, .int i1)], [], lay, σ, 0, 0) = zb_263_2 lay σ r0 i1 := rfl
theorem zg_263_2 {lay : zm_Lay} {σ : zm_Sig} {r0 : Nat} {i1 : Int32} {out : zm_Out} {r : zm_St ⊕ zm_Out} (h : zb_263_2 lay σ r0 i1 = some r) (hg : zm_end zp_P 263 out r) : zm_go zp_P 263 (2, [(0, .ref r0), (1, .int i1)], [], lay, σ, 0, 0) out :=
  zm_blk_go (M := zd_263) rfl zs_263 57 (zp_263.drop 2) _ r (fun _ h => List.mem_of_mem_drop h) ((zr_263_2 lay σ r0 i1).trans h) hg
noncomputable def zb_263_10 (lay : zm_Lay) (σ : zm_Sig) (r0 : Nat) (i1 : Int32) (i2 : Int32) : Option (zm_St ⊕ zm_Out) :=
  (zm_is lay r0 10).bind fun _ =>
  zm_opt (σ.2.2 r0 21) (fun q1 =>
  (zm_gI lay σ q1 1).bind fun v2 =>
  if v2 ≤ i2 then (some (.inl (2, [(0, .ref r0), (1, .int (i1 + 1))], [], lay, σ, 0, 0)))
  else (some (.inl (22, [(0, .ref r0), (1, .int i1), (2, .int i2), (3, .int 1)], [], lay, σ, 0, 0)))) (none)
set_option maxRecDepth 100000 in
theorem zr_263_10 (lay : zm_Lay) (σ : zm_Sig) (r0 : Nat) (i1 : Int32) (i2 : Int32) : zm_blk zM zp_263 (some .int) 0 0 zc_263 57 (zp_263.drop 7) (10, [(0, .ref r0), (1, .int i1), (2, .int i2)], [], lay, σ, 0, 0) = zb_263_10 lay σ r0 i1 i2 := rfl
theorem zg_263_10 {lay : zm_Lay} {σ : zm_Sig} {r0 : Nat} {i1 : Int32} {i2 : Int32} {out : zm_Out} {r : zm_St ⊕ zm_Out} (h : zb_263_10 lay σ r0 i1 i2 = some r) (hg : zm_end zp_P 263 out r) : zm_go zp_P 263 (10, [(0, .ref r0), (1, .int i1), (2, .int i2)], [], lay, σ, 0, 0) out :=
  zm_blk_go (M := zd_263) rfl zs_263 57 (zp_263.drop 7) _ r (fun _ h => List.mem_of_mem_drop h) ((zr_263_10 lay σ r0 i1 i2).trans h) hg
noncomputable def zb_263_22 (lay : zm_Lay) (σ : zm_Sig) (r0 : Nat) (i1 : Int32) (i2 : Int32) (i3 : Int32) : Option (zm_St ⊕ zm_Out) :=
  (zm_is lay r0 10).bind fun _ =>
  if (σ.1 r0 20) < i3 then (some (.inl (10, [(0, .ref r0), (1, .int i1), (2, .int (i2 + 1))], [], lay, σ, 0, 0)))
  else ((zm_is lay r0 10).bind fun _ =>
   zm_opt (σ.2.2 r0 21) (fun q1 =>
   (zm_gI lay σ q1 (((nI 3) : Int32) + i2)).bind fun v2 =>
   if ¬ v2 = i1 then (some (.inl (10, [(0, .ref r0), (1, .int i1), (2, .int (i2 + 1))], [], lay, σ, 0, 0)))
   else ((zm_is lay r0 10).bind fun _ => (zm_ai (zM 240 [.ref r0, .int i3] lay σ)).bind fun q3 =>
    if q3.1 = 0 then (some (.inl (22, [(0, .ref r0), (1, .int i1), (2, .int i2), (3, .int (i3 + 1))], [], q3.2.1, q3.2.2, 0, 0)))
    else ((zm_is q3.2.1 r0 10).bind fun _ => (zm_ai (zM 242 [.ref r0, .int i2, .int i3] q3.2.1 q3.2.2)).bind fun q4 =>
     if ¬ q4.1 = 1 then (some (.inl (22, [(0, .ref r0), (1, .int i1), (2, .int i2), (3, .int (i3 + 1))], [], q4.2.1, q4.2.2, 0, 0)))
     else ((zm_is q4.2.1 r0 10).bind fun _ => (zm_ai (zM 257 [.ref r0, .int i2, .int i3] q4.2.1 q4.2.2)).bind fun q5 =>
      if q5.1 = 0 then (some (.inl (22, [(0, .ref r0), (1, .int i1), (2, .int i2), (3, .int (i3 + 1))], [], q5.2.1, q5.2.2, 0, 0)))
      else (some (.inr (some (.int ((((nI 16) : Int32) * i2) + i3)), q5.2.1, q5.2.2))))))) (none))
set_option maxRecDepth 100000 in
theorem zr_263_22 (lay : zm_Lay) (σ : zm_Sig) (r0 : Nat) (i1 : Int32) (i2 : Int32) (i3 : Int32) : zm_blk zM zp_263 (some .int) 0 0 zc_263 57 (zp_263.drop 15) (22, [(0, .ref r0), (1, .int i1), (2, .int i2), (3, .int i3)], [], lay, σ, 0, 0) = zb_263_22 lay σ r0 i1 i2 i3 := rfl
theorem zg_263_22 {lay : zm_Lay} {σ : zm_Sig} {r0 : Nat} {i1 : Int32} {i2 : Int32} {i3 : Int32} {out : zm_Out} {r : zm_St ⊕ zm_Out} (h : zb_263_22 lay σ r0 i1 i2 i3 = some r) (hg : zm_end zp_P 263 out r) : zm_go zp_P 263 (22, [(0, .ref r0), (1, .int i1), (2, .int i2), (3, .int i3)], [], lay, σ, 0, 0) out :=
  zm_blk_go (M := zd_263) rfl zs_263 57 (zp_263.drop 15) _ r (fun _ h => List.mem_of_mem_drop h) ((zr_263_22 lay σ r0 i1 i2 i3).trans h) hg
/-! SubgroupWriterModel.undo(I)I -/
theorem zs_264 : zm_srt zp_264 = true := by decide +kernel
noncomputable def zb_264_0 (lay : zm_Lay) (σ : zm_Sig) (r0 : Nat) (i1 : Int32) : Option (zm_St ⊕ zm_Out) :=
  (zm_is lay r0 10).bind fun _ =>
  (zm_ai (zM 176 [.int i1, .int 0, .int (σ.1 r0 23)] lay σ)).bind fun q1 =>
  if ¬ q1.1 = 0 then ((zm_is q1.2.1 r0 10).bind fun _ =>
   if ((q1.2.2.1 r0 23) - i1) ≤ 0 then ((zm_is q1.2.1 r0 10).bind fun _ => (zm_fw q1.2.2 r0 23 0 (.int i1)).bind fun s2 =>
    some (.inr (some (.int ((q1.2.2.1 r0 23) - i1)), q1.2.1, s2)))
   else ((zm_is q1.2.1 r0 10).bind fun _ =>
    zm_opt (q1.2.2.2.2 r0 22) (fun q3 =>
    (zm_is q1.2.1 r0 10).bind fun _ =>
    zm_opt (q1.2.2.2.2 r0 21) (fun q4 =>
    (zm_av (zM 200 [.ref q3, .int (((nI 258) : Int32) * i1), .ref q4, .int 0, .int (nI 258)] q1.2.1 q1.2.2)).bind fun q5 =>
    (zm_is q5.1 r0 10).bind fun _ => (zm_av (zM 202 [.ref r0] q5.1 q5.2)).bind fun q6 =>
    (zm_is q6.1 r0 10).bind fun _ => (zm_fw q6.2 r0 23 0 (.int i1)).bind fun s7 =>
    some (.inr (some (.int ((q1.2.2.1 r0 23) - i1)), q6.1, s7))) (none)) (none)))
  else (some (.inr (some (.int (-1)), q1.2.1, q1.2.2)))
set_option maxRecDepth 100000 in
theorem zr_264_0 (lay : zm_Lay) (σ : zm_Sig) (r0 : Nat) (i1 : Int32) : zm_blk zM zp_264 (some .int) 0 0 zc_264 33 (zp_264.drop 0) (0, [(0, .ref r0), (1, .int i1)], [], lay, σ, 0, 0) = zb_264_0 lay σ r0 i1 := rfl
theorem ze_264 {lay : zm_Lay} {σ : zm_Sig} {r0 : Nat} {i1 : Int32} {out : zm_Out} {r : zm_St ⊕ zm_Out} (h : zb_264_0 lay σ r0 i1 = some r) (hg : zm_end zp_P 264 out r) : zM 264 [.ref r0, .int i1] lay σ = some out :=
  zm_mean_go (M := zd_264) rfl (Nat.le_of_ble_eq_true rfl) (zm_blk_go (M := zd_264) rfl zs_264 33 (zp_264.drop 0) _ r (fun _ h => List.mem_of_mem_drop h) ((zr_264_0 lay σ r0 i1).trans h) hg)
/-! SubgroupWriterModel.keep(I)I -/
theorem zs_265 : zm_srt zp_265 = true := by decide +kernel
noncomputable def zb_265_0 (lay : zm_Lay) (σ : zm_Sig) (r0 : Nat) (i1 : Int32) : Option (zm_St ⊕ zm_Out) :=
  (zm_ai (zM 176 [.int i1, .int 0, .int (nI 2)] lay σ)).bind fun q1 =>
  if ¬ q1.1 = 0 then ((zm_is q1.2.1 r0 10).bind fun _ =>
   if ¬ (q1.2.2.1 r0 4) = 0 then ((zm_is q1.2.1 r0 10).bind fun _ =>
    zm_opt (q1.2.2.2.2 r0 25) (fun q2 =>
    (zm_sZ q1.2.1 q1.2.2 q2 i1 1).bind fun s3 =>
    (zm_is q1.2.1 r0 10).bind fun _ =>
    zm_opt (s3.2.2 r0 24) (fun q4 =>
    (zm_is q1.2.1 r0 10).bind fun _ =>
    (zm_sI q1.2.1 s3 q4 (((nI 5419) : Int32) * i1) (s3.1 r0 23)).bind fun s5 =>
    (zm_is q1.2.1 r0 10).bind fun _ =>
    zm_opt (s5.2.2 r0 21) (fun q6 =>
    (zm_is q1.2.1 r0 10).bind fun _ =>
    zm_opt (s5.2.2 r0 24) (fun q7 =>
    (zm_av (zM 200 [.ref q6, .int 0, .ref q7, .int ((((nI 5419) : Int32) * i1) + 1), .int (nI 258)] q1.2.1 s5)).bind fun q8 =>
    (zm_is q8.1 r0 10).bind fun _ =>
    zm_opt (q8.2.2.2 r0 22) (fun q9 =>
    (zm_is q8.1 r0 10).bind fun _ =>
    zm_opt (q8.2.2.2 r0 24) (fun q10 =>
    (zm_av (zM 200 [.ref q9, .int 0, .ref q10, .int (((((nI 5419) : Int32) * i1) + 1) + (nI 258)), .int (nI 5160)] q8.1 q8.2)).bind fun q11 =>
    (zm_is q11.1 r0 10).bind fun _ =>
    some (.inr (some (.int (q11.2.1 r0 23)), q11.1, q11.2))) (none)) (none)) (none)) (none)) (none)) (none))
   else (some (.inr (some (.int (-4)), q1.2.1, q1.2.2))))
  else (some (.inr (some (.int (-1)), q1.2.1, q1.2.2)))
set_option maxRecDepth 100000 in
theorem zr_265_0 (lay : zm_Lay) (σ : zm_Sig) (r0 : Nat) (i1 : Int32) : zm_blk zM zp_265 (some .int) 0 0 zc_265 53 (zp_265.drop 0) (0, [(0, .ref r0), (1, .int i1)], [], lay, σ, 0, 0) = zb_265_0 lay σ r0 i1 := rfl
theorem ze_265 {lay : zm_Lay} {σ : zm_Sig} {r0 : Nat} {i1 : Int32} {out : zm_Out} {r : zm_St ⊕ zm_Out} (h : zb_265_0 lay σ r0 i1 = some r) (hg : zm_end zp_P 265 out r) : zM 265 [.ref r0, .int i1] lay σ = some out :=
  zm_mean_go (M := zd_265) rfl (Nat.le_of_ble_eq_true rfl) (zm_blk_go (M := zd_265) rfl zs_265 53 (zp_265.drop 0) _ r (fun _ h => List.mem_of_mem_drop h) ((zr_265_0 lay σ r0 i1).trans h) hg)
/-! SubgroupWriterModel.on(I)I -/
theorem zs_266 : zm_srt zp_266 = true := by decide +kernel
noncomputable def zb_266_0 (lay : zm_Lay) (σ : zm_Sig) (r0 : Nat) (i1 : Int32) : Option (zm_St ⊕ zm_Out) :=
  (zm_ai (zM 176 [.int i1, .int 0, .int (nI 2)] lay σ)).bind fun q1 =>
  if ¬ q1.1 = 0 then ((zm_is q1.2.1 r0 10).bind fun _ =>
   zm_opt (q1.2.2.2.2 r0 25) (fun q2 =>
   (zm_gZ q1.2.1 q1.2.2 q2 i1).bind fun v3 =>
   if ¬ v3 = 0 then ((zm_is q1.2.1 r0 10).bind fun _ =>
    zm_opt (q1.2.2.2.2 r0 24) (fun q4 =>
    (zm_gI q1.2.1 q1.2.2 q4 (((nI 5419) : Int32) * i1)).bind fun v5 =>
    (zm_is q1.2.1 r0 10).bind fun _ => (zm_fw q1.2.2 r0 23 0 (.int v5)).bind fun s6 =>
    (zm_is q1.2.1 r0 10).bind fun _ =>
    zm_opt (s6.2.2 r0 24) (fun q7 =>
    (zm_is q1.2.1 r0 10).bind fun _ =>
    zm_opt (s6.2.2 r0 21) (fun q8 =>
    (zm_av (zM 200 [.ref q7, .int ((((nI 5419) : Int32) * i1) + 1), .ref q8, .int 0, .int (nI 258)] q1.2.1 s6)).bind fun q9 =>
    (zm_is q9.1 r0 10).bind fun _ =>
    zm_opt (q9.2.2.2 r0 24) (fun q10 =>
    (zm_is q9.1 r0 10).bind fun _ =>
    zm_opt (q9.2.2.2 r0 22) (fun q11 =>
    (zm_av (zM 200 [.ref q10, .int (((((nI 5419) : Int32) * i1) + 1) + (nI 258)), .ref q11, .int 0, .int (nI 5160)] q9.1 q9.2)).bind fun q12 =>
    (zm_is q12.1 r0 10).bind fun _ => (zm_av (zM 202 [.ref r0] q12.1 q12.2)).bind fun q13 =>
    (zm_is q13.1 r0 10).bind fun _ =>
    some (.inr (some (.int (q13.2.1 r0 23)), q13.1, q13.2))) (none)) (none)) (none)) (none)) (none))
   else ((zm_is q1.2.1 r0 10).bind fun _ => (zm_ai (zM 177 [.ref r0, .int 1] q1.2.1 q1.2.2)).bind fun q14 =>
    some (.inr (some (.int q14.1), q14.2.1, q14.2.2)))) (none))
  else (some (.inr (some (.int (-1)), q1.2.1, q1.2.2)))
set_option maxRecDepth 100000 in
theorem zr_266_0 (lay : zm_Lay) (σ : zm_Sig) (r0 : Nat) (i1 : Int32) : zm_blk zM zp_266 (some .int) 0 0 zc_266 54 (zp_266.drop 0) (0, [(0, .ref r0), (1, .int i1)], [], lay, σ, 0, 0) = zb_266_0 lay σ r0 i1 := rfl
theorem ze_266 {lay : zm_Lay} {σ : zm_Sig} {r0 : Nat} {i1 : Int32} {out : zm_Out} {r : zm_St ⊕ zm_Out} (h : zb_266_0 lay σ r0 i1 = some r) (hg : zm_end zp_P 266 out r) : zM 266 [.ref r0, .int i1] lay σ = some out :=
  zm_mean_go (M := zd_266) rfl (Nat.le_of_ble_eq_true rfl) (zm_blk_go (M := zd_266) rfl zs_266 54 (zp_266.drop 0) _ r (fun _ h => List.mem_of_mem_drop h) ((zr_266_0 lay σ r0 i1).trans h) hg)
/-! SubgroupWriterModel.lots(II)I -/
theorem zs_267 : zm_srt zp_267 = true := by decide +kernel
noncomputable def zb_267_0 (lay : zm_Lay) (σ : zm_Sig) (r0 : Nat) (i1 : Int32) (i2 : Int32) : Option (zm_St ⊕ zm_Out) :=
  (zm_ai (zM 176 [.int i1, .int 1, .int (nI 10)] lay σ)).bind fun q1 =>
  if q1.1 = 0 then (some (.inr (some (.int (-1)), q1.2.1, q1.2.2)))
  else ((zm_ai (zM 176 [.int i2, .int 1, .int (Int32.ofNat 2147483646)] q1.2.1 q1.2.2)).bind fun q2 =>
   if ¬ q2.1 = 0 then ((zm_is q2.2.1 r0 10).bind fun _ =>
    if ¬ (q2.2.2.1 r0 4) = 0 then ((zm_is q2.2.1 r0 10).bind fun _ =>
     if ((q2.2.2.1 r0 23) + i1) ≤ (nI 20) then (some (.inl (53, [(0, .ref r0), (1, .int i1), (3, .long (i2 : Int32).toInt64), (5, .int 0)], [], q2.2.1, q2.2.2, 0, 0)))
     else (some (.inr (some (.int (-2)), q2.2.1, q2.2.2))))
    else (some (.inr (some (.int (-4)), q2.2.1, q2.2.2))))
   else (some (.inr (some (.int (-1)), q2.2.1, q2.2.2))))
set_option maxRecDepth 100000 in
theorem zr_267_0 (lay : zm_Lay) (σ : zm_Sig) (r0 : Nat) (i1 : Int32) (i2 : Int32) : zm_blk zM zp_267 (some .int) 0 0 zc_267 84 (zp_267.drop 0) (0, [(0, .ref r0), (1, .int i1), (2, .int i2)], [], lay, σ, 0, 0) = zb_267_0 lay σ r0 i1 i2 := rfl
theorem ze_267 {lay : zm_Lay} {σ : zm_Sig} {r0 : Nat} {i1 : Int32} {i2 : Int32} {out : zm_Out} {r : zm_St ⊕ zm_Out} (h : zb_267_0 lay σ r0 i1 i2 = some r) (hg : zm_end zp_P 267 out r) : zM 267 [.ref r0, .int i1, .int i2] lay σ = some out :=
  zm_mean_go (M := zd_267) rfl (Nat.le_of_ble_eq_true rfl) (zm_blk_go (M := zd_267) rfl zs_267 84 (zp_267.drop 0) _ r (fun _ h => List.mem_of_mem_drop h) ((zr_267_0 lay σ r0 i1 i2).trans h) hg)
noncomputable def zb_267_53 (lay : zm_Lay) (σ : zm_Sig) (r0 : Nat) (i1 : Int32) (l3 : Int64) (i5 : Int32) : Option (zm_St ⊕ zm_Out) :=
  if i1 ≤ i5 then ((zm_is lay r0 10).bind fun _ =>
   zm_opt (σ.2.2 r0 21) (fun q1 =>
   (zm_gI lay σ q1 1).bind fun v2 =>
   some (.inr (some (.int v2), lay, σ))) (none))
  else (if (Int64.ofNat 2147483647) = 0 then none
   else ((zm_is lay r0 10).bind fun _ => (zm_av (zM 246 [.ref r0] lay σ)).bind fun q3 =>
   (zm_is q3.1 r0 10).bind fun _ =>
   zm_opt (q3.2.2.2 r0 21) (fun q4 =>
   (zm_gI q3.1 q3.2 q4 1).bind fun v5 =>
   if (0 : Int32) < v5 then ((zm_is q3.1 r0 10).bind fun _ =>
    zm_opt (q3.2.2.2 r0 21) (fun q6 =>
    (zm_gI q3.1 q3.2 q6 1).bind fun v7 =>
    if ¬ v7 = 0 then ((zm_is q3.1 r0 10).bind fun _ =>
     zm_opt (q3.2.2.2 r0 21) (fun q8 =>
     (zm_gI q3.1 q3.2 q8 1).bind fun v9 =>
     if v9 = 0 then none
     else ((zm_is q3.1 r0 10).bind fun _ => (zm_av (zM 268 [.ref r0, .int (((((l3 * (Int64.ofNat 48271)) - (l3 * (Int64.ofNat 48271)) / (Int64.ofNat 2147483647) * (Int64.ofNat 2147483647)) : Int64).toInt32 / (nI 8)) - ((((l3 * (Int64.ofNat 48271)) - (l3 * (Int64.ofNat 48271)) / (Int64.ofNat 2147483647) * (Int64.ofNat 2147483647)) : Int64).toInt32 / (nI 8)) / (nI 6) * (nI 6)), .int (((((l3 * (Int64.ofNat 48271)) - (l3 * (Int64.ofNat 48271)) / (Int64.ofNat 2147483647) * (Int64.ofNat 2147483647)) : Int64).toInt32 / (nI 64)) - ((((l3 * (Int64.ofNat 48271)) - (l3 * (Int64.ofNat 48271)) / (Int64.ofNat 2147483647) * (Int64.ofNat 2147483647)) : Int64).toInt32 / (nI 64)) / v9 * v9)] q3.1 q3.2)).bind fun q10 =>
     some (.inl (53, [(0, .ref r0), (1, .int i1), (3, .long ((l3 * (Int64.ofNat 48271)) - (l3 * (Int64.ofNat 48271)) / (Int64.ofNat 2147483647) * (Int64.ofNat 2147483647))), (5, .int (i5 + 1))], [], q10.1, q10.2, 0, 0)))) (none))
    else ((zm_is q3.1 r0 10).bind fun _ => (zm_av (zM 268 [.ref r0, .int (((((l3 * (Int64.ofNat 48271)) - (l3 * (Int64.ofNat 48271)) / (Int64.ofNat 2147483647) * (Int64.ofNat 2147483647)) : Int64).toInt32 / (nI 8)) - ((((l3 * (Int64.ofNat 48271)) - (l3 * (Int64.ofNat 48271)) / (Int64.ofNat 2147483647) * (Int64.ofNat 2147483647)) : Int64).toInt32 / (nI 8)) / (nI 6) * (nI 6)), .int 0] q3.1 q3.2)).bind fun q11 =>
     some (.inl (53, [(0, .ref r0), (1, .int i1), (3, .long ((l3 * (Int64.ofNat 48271)) - (l3 * (Int64.ofNat 48271)) / (Int64.ofNat 2147483647) * (Int64.ofNat 2147483647))), (5, .int (i5 + 1))], [], q11.1, q11.2, 0, 0)))) (none))
   else (if ¬ (((((l3 * (Int64.ofNat 48271)) - (l3 * (Int64.ofNat 48271)) / (Int64.ofNat 2147483647) * (Int64.ofNat 2147483647)) : Int64).toInt32 / (nI 8)) - ((((l3 * (Int64.ofNat 48271)) - (l3 * (Int64.ofNat 48271)) / (Int64.ofNat 2147483647) * (Int64.ofNat 2147483647)) : Int64).toInt32 / (nI 8)) / (nI 6) * (nI 6)) = (nI 5) then (some (.inl (53, [(0, .ref r0), (1, .int i1), (3, .long ((l3 * (Int64.ofNat 48271)) - (l3 * (Int64.ofNat 48271)) / (Int64.ofNat 2147483647) * (Int64.ofNat 2147483647))), (5, .int (i5 + 1))], [], q3.1, q3.2, 0, 0)))
    else ((zm_is q3.1 r0 10).bind fun _ =>
     zm_opt (q3.2.2.2 r0 21) (fun q12 =>
     (zm_gI q3.1 q3.2 q12 1).bind fun v13 =>
     if ¬ v13 = 0 then ((zm_is q3.1 r0 10).bind fun _ =>
      zm_opt (q3.2.2.2 r0 21) (fun q14 =>
      (zm_gI q3.1 q3.2 q14 1).bind fun v15 =>
      if v15 = 0 then none
      else ((zm_is q3.1 r0 10).bind fun _ => (zm_av (zM 268 [.ref r0, .int (((((l3 * (Int64.ofNat 48271)) - (l3 * (Int64.ofNat 48271)) / (Int64.ofNat 2147483647) * (Int64.ofNat 2147483647)) : Int64).toInt32 / (nI 8)) - ((((l3 * (Int64.ofNat 48271)) - (l3 * (Int64.ofNat 48271)) / (Int64.ofNat 2147483647) * (Int64.ofNat 2147483647)) : Int64).toInt32 / (nI 8)) / (nI 6) * (nI 6)), .int (((((l3 * (Int64.ofNat 48271)) - (l3 * (Int64.ofNat 48271)) / (Int64.ofNat 2147483647) * (Int64.ofNat 2147483647)) : Int64).toInt32 / (nI 64)) - ((((l3 * (Int64.ofNat 48271)) - (l3 * (Int64.ofNat 48271)) / (Int64.ofNat 2147483647) * (Int64.ofNat 2147483647)) : Int64).toInt32 / (nI 64)) / v15 * v15)] q3.1 q3.2)).bind fun q16 =>
      some (.inl (53, [(0, .ref r0), (1, .int i1), (3, .long ((l3 * (Int64.ofNat 48271)) - (l3 * (Int64.ofNat 48271)) / (Int64.ofNat 2147483647) * (Int64.ofNat 2147483647))), (5, .int (i5 + 1))], [], q16.1, q16.2, 0, 0)))) (none))
     else ((zm_is q3.1 r0 10).bind fun _ => (zm_av (zM 268 [.ref r0, .int (((((l3 * (Int64.ofNat 48271)) - (l3 * (Int64.ofNat 48271)) / (Int64.ofNat 2147483647) * (Int64.ofNat 2147483647)) : Int64).toInt32 / (nI 8)) - ((((l3 * (Int64.ofNat 48271)) - (l3 * (Int64.ofNat 48271)) / (Int64.ofNat 2147483647) * (Int64.ofNat 2147483647)) : Int64).toInt32 / (nI 8)) / (nI 6) * (nI 6)), .int 0] q3.1 q3.2)).bind fun q17 =>
      some (.inl (53, [(0, .ref r0), (1, .int i1), (3, .long ((l3 * (Int64.ofNat 48271)) - (l3 * (Int64.ofNat 48271)) / (Int64.ofNat 2147483647) * (Int64.ofNat 2147483647))), (5, .int (i5 + 1))], [], q17.1, q17.2, 0, 0)))) (none)))) (none)))
set_option maxRecDepth 100000 in
theorem zr_267_53 (lay : zm_Lay) (σ : zm_Sig) (r0 : Nat) (i1 : Int32) (l3 : Int64) (i5 : Int32) : zm_blk zM zp_267 (some .int) 0 0 zc_267 84 (zp_267.drop 30) (53, [(0, .ref r0), (1, .int i1), (3, .long l3), (5, .int i5)], [], lay, σ, 0, 0) = zb_267_53 lay σ r0 i1 l3 i5 := rfl
theorem zg_267_53 {lay : zm_Lay} {σ : zm_Sig} {r0 : Nat} {i1 : Int32} {l3 : Int64} {i5 : Int32} {out : zm_Out} {r : zm_St ⊕ zm_Out} (h : zb_267_53 lay σ r0 i1 l3 i5 = some r) (hg : zm_end zp_P 267 out r) : zm_go zp_P 267 (53, [(0, .ref r0), (1, .int i1), (3, .long l3), (5, .int i5)], [], lay, σ, 0, 0) out :=
  zm_blk_go (M := zd_267) rfl zs_267 84 (zp_267.drop 30) _ r (fun _ h => List.mem_of_mem_drop h) ((zr_267_53 lay σ r0 i1 l3 i5).trans h) hg
/-! SubgroupWriterModel.does(II)V -/
theorem zs_268 : zm_srt zp_268 = true := by decide +kernel
noncomputable def zb_268_0 (lay : zm_Lay) (σ : zm_Sig) (r0 : Nat) (i1 : Int32) (i2 : Int32) : Option (zm_St ⊕ zm_Out) :=
  if i1 = 0 then ((zm_is lay r0 10).bind fun _ =>
   zm_opt (σ.2.2 r0 21) (fun q1 =>
   (zm_gI lay σ q1 (((nI 3) : Int32) + i2)).bind fun v2 =>
   if v2 ≤ 0 then (some (.inr (none, lay, σ)))
   else ((zm_is lay r0 10).bind fun _ => (zm_av (zM 248 [.ref r0, .int i2] lay σ)).bind fun q3 =>
    some (.inr (none, q3.1, q3.2)))) (none))
  else if i1 = 1 then ((zm_is lay r0 10).bind fun _ => (zm_av (zM 250 [.ref r0, .int i2] lay σ)).bind fun q4 =>
   some (.inr (none, q4.1, q4.2)))
  else if i1 = (nI 2) then ((zm_is lay r0 10).bind fun _ =>
   zm_opt (σ.2.2 r0 21) (fun q5 =>
   (zm_gI lay σ q5 1).bind fun v6 =>
   if v6 = 0 then none
   else ((zm_is lay r0 10).bind fun _ => (zm_av (zM 252 [.ref r0, .int i2, .int ((i2 + 1) - (i2 + 1) / v6 * v6)] lay σ)).bind fun q7 =>
   (zm_is q7.1 r0 10).bind fun _ =>
   zm_opt (q7.2.2.2 r0 21) (fun q8 =>
   (zm_gI q7.1 q7.2 q8 1).bind fun v9 =>
   if v9 ≤ 1 then (some (.inr (none, q7.1, q7.2)))
   else ((zm_is q7.1 r0 10).bind fun _ =>
    if ((nI 16) : Int32) < (q7.2.1 r0 40) then (some (.inr (none, q7.1, q7.2)))
    else ((zm_is q7.1 r0 10).bind fun _ => (zm_av (zM 214 [.ref r0, .int i2] q7.1 q7.2)).bind fun q10 =>
     some (.inr (none, q10.1, q10.2))))) (none))) (none))
  else if i1 = (nI 3) then ((zm_is lay r0 10).bind fun _ => (zm_ai (zM 254 [.ref r0, .int i2] lay σ)).bind fun q11 =>
   if q11.1 = 0 then (some (.inr (none, q11.2.1, q11.2.2)))
   else ((zm_is q11.2.1 r0 10).bind fun _ => (zm_av (zM 255 [.ref r0, .int i2] q11.2.1 q11.2.2)).bind fun q12 =>
    some (.inr (none, q12.1, q12.2))))
  else if i1 = (nI 4) then ((zm_is lay r0 10).bind fun _ => (zm_av (zM 269 [.ref r0, .int i2] lay σ)).bind fun q13 =>
   some (.inr (none, q13.1, q13.2)))
  else ((zm_is lay r0 10).bind fun _ =>
   zm_opt (σ.2.2 r0 21) (fun q14 =>
   (zm_gI lay σ q14 0).bind fun v15 =>
   (zm_is lay r0 10).bind fun _ => (zm_av (zM 201 [.ref r0, .int ((v15 + 1) - (v15 + 1) / (nI 3) * (nI 3))] lay σ)).bind fun q16 =>
   some (.inr (none, q16.1, q16.2))) (none))
set_option maxRecDepth 100000 in
theorem zr_268_0 (lay : zm_Lay) (σ : zm_Sig) (r0 : Nat) (i1 : Int32) (i2 : Int32) : zm_blk zM zp_268 none 0 0 zc_268 66 (zp_268.drop 0) (0, [(0, .ref r0), (1, .int i1), (2, .int i2)], [], lay, σ, 0, 0) = zb_268_0 lay σ r0 i1 i2 := rfl
theorem ze_268 {lay : zm_Lay} {σ : zm_Sig} {r0 : Nat} {i1 : Int32} {i2 : Int32} {out : zm_Out} {r : zm_St ⊕ zm_Out} (h : zb_268_0 lay σ r0 i1 i2 = some r) (hg : zm_end zp_P 268 out r) : zM 268 [.ref r0, .int i1, .int i2] lay σ = some out :=
  zm_mean_go (M := zd_268) rfl (Nat.le_of_ble_eq_true rfl) (zm_blk_go (M := zd_268) rfl zs_268 66 (zp_268.drop 0) _ r (fun _ h => List.mem_of_mem_drop h) ((zr_268_0 lay σ r0 i1 i2).trans h) hg)
/-! SubgroupWriterModel.solvesFirst(I)V -/
theorem zs_269 : zm_srt zp_269 = true := by decide +kernel
noncomputable def zb_269_0 (lay : zm_Lay) (σ : zm_Sig) (r0 : Nat) (i1 : Int32) : Option (zm_St ⊕ zm_Out) :=
  some (.inl (2, [(0, .ref r0), (1, .int i1), (2, .int 1)], [], lay, σ, 0, 0))
set_option maxRecDepth 100000 in
theorem zr_269_0 (lay : zm_Lay) (σ : zm_Sig) (r0 : Nat) (i1 : Int32) : zm_blk zM zp_269 none 0 0 zc_269 30 (zp_269.drop 0) (0, [(0, .ref r0), (1, .int i1)], [], lay, σ, 0, 0) = zb_269_0 lay σ r0 i1 := rfl
theorem ze_269 {lay : zm_Lay} {σ : zm_Sig} {r0 : Nat} {i1 : Int32} {out : zm_Out} {r : zm_St ⊕ zm_Out} (h : zb_269_0 lay σ r0 i1 = some r) (hg : zm_end zp_P 269 out r) : zM 269 [.ref r0, .int i1] lay σ = some out :=
  zm_mean_go (M := zd_269) rfl (Nat.le_of_ble_eq_true rfl) (zm_blk_go (M := zd_269) rfl zs_269 30 (zp_269.drop 0) _ r (fun _ h => List.mem_of_mem_drop h) ((zr_269_0 lay σ r0 i1).trans h) hg)
noncomputable def zb_269_2 (lay : zm_Lay) (σ : zm_Sig) (r0 : Nat) (i1 : Int32) (i2 : Int32) : Option (zm_St ⊕ zm_Out) :=
  (zm_is lay r0 10).bind fun _ =>
  if (σ.1 r0 20) < i2 then (some (.inr (none, lay, σ)))
  else ((zm_is lay r0 10).bind fun _ => (zm_ai (zM 240 [.ref r0, .int i2] lay σ)).bind fun q1 =>
   if q1.1 = 0 then (some (.inl (2, [(0, .ref r0), (1, .int i1), (2, .int (i2 + 1))], [], q1.2.1, q1.2.2, 0, 0)))
   else ((zm_is q1.2.1 r0 10).bind fun _ => (zm_ai (zM 242 [.ref r0, .int i1, .int i2] q1.2.1 q1.2.2)).bind fun q2 =>
    if ¬ q2.1 = 1 then (some (.inl (2, [(0, .ref r0), (1, .int i1), (2, .int (i2 + 1))], [], q2.2.1, q2.2.2, 0, 0)))
    else ((zm_is q2.2.1 r0 10).bind fun _ => (zm_ai (zM 257 [.ref r0, .int i1, .int i2] q2.2.1 q2.2.2)).bind fun q3 =>
     if q3.1 = 0 then (some (.inr (none, q3.2.1, q3.2.2)))
     else ((zm_is q3.2.1 r0 10).bind fun _ => (zm_av (zM 260 [.ref r0, .int i1, .int i2] q3.2.1 q3.2.2)).bind fun q4 =>
      some (.inr (none, q4.1, q4.2))))))
set_option maxRecDepth 100000 in
theorem zr_269_2 (lay : zm_Lay) (σ : zm_Sig) (r0 : Nat) (i1 : Int32) (i2 : Int32) : zm_blk zM zp_269 none 0 0 zc_269 30 (zp_269.drop 2) (2, [(0, .ref r0), (1, .int i1), (2, .int i2)], [], lay, σ, 0, 0) = zb_269_2 lay σ r0 i1 i2 := rfl
theorem zg_269_2 {lay : zm_Lay} {σ : zm_Sig} {r0 : Nat} {i1 : Int32} {i2 : Int32} {out : zm_Out} {r : zm_St ⊕ zm_Out} (h : zb_269_2 lay σ r0 i1 i2 = some r) (hg : zm_end zp_P 269 out r) : zm_go zp_P 269 (2, [(0, .ref r0), (1, .int i1), (2, .int i2)], [], lay, σ, 0, 0) out :=
  zm_blk_go (M := zd_269) rfl zs_269 30 (zp_269.drop 2) _ r (fun _ h => List.mem_of_mem_drop h) ((zr_269_2 lay σ r0 i1 i2).trans h) hg
/-! SubgroupWriterModel.rank(I)I -/
theorem zs_270 : zm_srt zp_270 = true := by decide +kernel
noncomputable def zb_270_0 (lay : zm_Lay) (σ : zm_Sig) (r0 : Nat) (i1 : Int32) : Option (zm_St ⊕ zm_Out) :=
  (zm_ai (zM 271 [.int i1] lay σ)).bind fun q1 =>
  if ¬ q1.1 = 0 then ((zm_is q1.2.1 r0 10).bind fun _ =>
   if ¬ (q1.2.2.1 r0 4) = 0 then (some (.inl (21, [(0, .ref r0), (1, .int i1), (2, .int 0)], [], q1.2.1, q1.2.2, 0, 0)))
   else (some (.inr (some (.int (-4)), q1.2.1, q1.2.2))))
  else (some (.inr (some (.int (-1)), q1.2.1, q1.2.2)))
set_option maxRecDepth 100000 in
theorem zr_270_0 (lay : zm_Lay) (σ : zm_Sig) (r0 : Nat) (i1 : Int32) : zm_blk zM zp_270 (some .int) 0 0 zc_270 70 (zp_270.drop 0) (0, [(0, .ref r0), (1, .int i1)], [], lay, σ, 0, 0) = zb_270_0 lay σ r0 i1 := rfl
theorem ze_270 {lay : zm_Lay} {σ : zm_Sig} {r0 : Nat} {i1 : Int32} {out : zm_Out} {r : zm_St ⊕ zm_Out} (h : zb_270_0 lay σ r0 i1 = some r) (hg : zm_end zp_P 270 out r) : zM 270 [.ref r0, .int i1] lay σ = some out :=
  zm_mean_go (M := zd_270) rfl (Nat.le_of_ble_eq_true rfl) (zm_blk_go (M := zd_270) rfl zs_270 70 (zp_270.drop 0) _ r (fun _ h => List.mem_of_mem_drop h) ((zr_270_0 lay σ r0 i1).trans h) hg)
noncomputable def zb_270_21 (lay : zm_Lay) (σ : zm_Sig) (r0 : Nat) (i1 : Int32) (i2 : Int32) : Option (zm_St ⊕ zm_Out) :=
  (zm_is lay r0 10).bind fun _ =>
  zm_opt (σ.2.2 r0 21) (fun q1 =>
  (zm_gI lay σ q1 1).bind fun v2 =>
  if v2 ≤ i2 then ((zm_is lay r0 10).bind fun _ =>
   zm_opt (σ.2.2 r0 21) (fun q3 =>
   (zm_gI lay σ q3 1).bind fun v4 =>
   (zm_is lay r0 10).bind fun _ =>
   (zm_is lay r0 10).bind fun _ => (zm_ai (zM 272 [.ref r0, .int v4, .int (σ.1 r0 20), .int i1] lay σ)).bind fun q5 =>
   (zm_is q5.2.1 r0 10).bind fun _ =>
   zm_opt (q5.2.2.2.2 r0 21) (fun q6 =>
   (zm_gI q5.2.1 q5.2.2 q6 (nI 2)).bind fun v7 =>
   (zm_ai (zM 273 [.int v7] q5.2.1 q5.2.2)).bind fun q8 =>
   (zm_is q8.2.1 r0 10).bind fun _ => (zm_ai (zM 181 [.ref r0, .int (q8.1 - q5.1), .int q5.1] q8.2.1 q8.2.2)).bind fun q9 =>
   some (.inr (some (.int q9.1), q9.2.1, q9.2.2))) (none)) (none))
  else (some (.inl (33, [(0, .ref r0), (1, .int i1), (2, .int i2), (3, .int 1)], [], lay, σ, 0, 0)))) (none)
set_option maxRecDepth 100000 in
theorem zr_270_21 (lay : zm_Lay) (σ : zm_Sig) (r0 : Nat) (i1 : Int32) (i2 : Int32) : zm_blk zM zp_270 (some .int) 0 0 zc_270 70 (zp_270.drop 12) (21, [(0, .ref r0), (1, .int i1), (2, .int i2)], [], lay, σ, 0, 0) = zb_270_21 lay σ r0 i1 i2 := rfl
theorem zg_270_21 {lay : zm_Lay} {σ : zm_Sig} {r0 : Nat} {i1 : Int32} {i2 : Int32} {out : zm_Out} {r : zm_St ⊕ zm_Out} (h : zb_270_21 lay σ r0 i1 i2 = some r) (hg : zm_end zp_P 270 out r) : zm_go zp_P 270 (21, [(0, .ref r0), (1, .int i1), (2, .int i2)], [], lay, σ, 0, 0) out :=
  zm_blk_go (M := zd_270) rfl zs_270 70 (zp_270.drop 12) _ r (fun _ h => List.mem_of_mem_drop h) ((zr_270_21 lay σ r0 i1 i2).trans h) hg
noncomputable def zb_270_33 (lay : zm_Lay) (σ : zm_Sig) (r0 : Nat) (i1 : Int32) (i2 : Int32) (i3 : Int32) : Option (zm_St ⊕ zm_Out) :=
  (zm_is lay r0 10).bind fun _ =>
  if (σ.1 r0 20) < i3 then (some (.inl (21, [(0, .ref r0), (1, .int i1), (2, .int (i2 + 1))], [], lay, σ, 0, 0)))
  else ((zm_is lay r0 10).bind fun _ =>
   zm_opt (σ.2.2 r0 44) (fun q1 =>
   (zm_is lay r0 10).bind fun _ => (zm_ai (zM 241 [.ref r0, .int i2, .int i3] lay σ)).bind fun q2 =>
   if i1 = 0 then none
   else (if i1 = 0 then none
   else ((zm_sI q2.2.1 q2.2.2 q1 (((((nI 16) : Int32) * i2) + i3) - 1) (((q2.1 - q2.1 / i1 * i1) + i1) - ((q2.1 - q2.1 / i1 * i1) + i1) / i1 * i1)).bind fun s3 =>
   some (.inl (33, [(0, .ref r0), (1, .int i1), (2, .int i2), (3, .int (i3 + 1))], [], q2.2.1, s3, 0, 0))))) (none))
set_option maxRecDepth 100000 in
theorem zr_270_33 (lay : zm_Lay) (σ : zm_Sig) (r0 : Nat) (i1 : Int32) (i2 : Int32) (i3 : Int32) : zm_blk zM zp_270 (some .int) 0 0 zc_270 70 (zp_270.drop 20) (33, [(0, .ref r0), (1, .int i1), (2, .int i2), (3, .int i3)], [], lay, σ, 0, 0) = zb_270_33 lay σ r0 i1 i2 i3 := rfl
theorem zg_270_33 {lay : zm_Lay} {σ : zm_Sig} {r0 : Nat} {i1 : Int32} {i2 : Int32} {i3 : Int32} {out : zm_Out} {r : zm_St ⊕ zm_Out} (h : zb_270_33 lay σ r0 i1 i2 i3 = some r) (hg : zm_end zp_P 270 out r) : zm_go zp_P 270 (33, [(0, .ref r0), (1, .int i1), (2, .int i2), (3, .int i3)], [], lay, σ, 0, 0) out :=
  zm_blk_go (M := zd_270) rfl zs_270 70 (zp_270.drop 20) _ r (fun _ h => List.mem_of_mem_drop h) ((zr_270_33 lay σ r0 i1 i2 i3).trans h) hg
/-! SubgroupWriterModel.isPrime(I)Z -/
theorem zs_271 : zm_srt zp_271 = true := by decide +kernel
noncomputable def zb_271_0 (lay : zm_Lay) (σ : zm_Sig) (i0 : Int32) : Option (zm_St ⊕ zm_Out) :=
  if i0 = (nI 2) then (some (.inr (some (.int 1), lay, σ)))
  else (if i0 = (nI 3) then (some (.inr (some (.int 1), lay, σ)))
   else (if i0 = (nI 5) then (some (.inr (some (.int 1), lay, σ)))
    else (if ¬ i0 = (nI 7) then (some (.inr (some (.int 0), lay, σ)))
     else (some (.inr (some (.int 1), lay, σ))))))
set_option maxRecDepth 100000 in
theorem zr_271_0 (lay : zm_Lay) (σ : zm_Sig) (i0 : Int32) : zm_blk zM zp_271 (some .boolean) 0 0 zc_271 17 (zp_271.drop 0) (0, [(0, .int i0)], [], lay, σ, 0, 0) = zb_271_0 lay σ i0 := rfl
theorem ze_271 {lay : zm_Lay} {σ : zm_Sig} {i0 : Int32} {out : zm_Out} {r : zm_St ⊕ zm_Out} (h : zb_271_0 lay σ i0 = some r) (hg : zm_end zp_P 271 out r) : zM 271 [.int i0] lay σ = some out :=
  zm_mean_go (M := zd_271) rfl (Nat.le_of_ble_eq_true rfl) (zm_blk_go (M := zd_271) rfl zs_271 17 (zp_271.drop 0) _ r (fun _ h => List.mem_of_mem_drop h) ((zr_271_0 lay σ i0).trans h) hg)
/-! SubgroupWriterModel.rankOf(III)I -/
theorem zs_272 : zm_srt zp_272 = true := by decide +kernel
noncomputable def zb_272_0 (lay : zm_Lay) (σ : zm_Sig) (r0 : Nat) (i1 : Int32) (i2 : Int32) (i3 : Int32) : Option (zm_St ⊕ zm_Out) :=
  some (.inl (6, [(0, .ref r0), (1, .int i1), (2, .int i2), (3, .int i3), (4, .int 0), (5, .int 0)], [], lay, σ, 0, 0))
set_option maxRecDepth 100000 in
theorem zr_272_0 (lay : zm_Lay) (σ : zm_Sig) (r0 : Nat) (i1 : Int32) (i2 : Int32) (i3 : Int32) : zm_blk zM zp_272 (some .int) 0 0 zc_272 140 (zp_272.drop 0) (0, [(0, .ref r0), (1, .int i1), (2, .int i2), (3, .int i3)], [], lay, σ, 0, 0) = zb_272_0 lay σ r0 i1 i2 i3 := rfl
theorem ze_272 {lay : zm_Lay} {σ : zm_Sig} {r0 : Nat} {i1 : Int32} {i2 : Int32} {i3 : Int32} {out : zm_Out} {r : zm_St ⊕ zm_Out} (h : zb_272_0 lay σ r0 i1 i2 i3 = some r) (hg : zm_end zp_P 272 out r) : zM 272 [.ref r0, .int i1, .int i2, .int i3] lay σ = some out :=
  zm_mean_go (M := zd_272) rfl (Nat.le_of_ble_eq_true rfl) (zm_blk_go (M := zd_272) rfl zs_272 140 (zp_272.drop 0) _ r (fun _ h => List.mem_of_mem_drop h) ((zr_272_0 lay σ r0 i1 i2 i3).trans h) hg)
noncomputable def zb_272_6 (lay : zm_Lay) (σ : zm_Sig) (r0 : Nat) (i1 : Int32) (i2 : Int32) (i3 : Int32) (i4 : Int32) (i5 : Int32) : Option (zm_St ⊕ zm_Out) :=
  if i2 ≤ i5 then (some (.inr (some (.int i4), lay, σ)))
  else (some (.inl (16, [(0, .ref r0), (1, .int i1), (2, .int i2), (3, .int i3), (4, .int i4), (5, .int i5), (6, .int i4)], [], lay, σ, 0, 0)))
set_option maxRecDepth 100000 in
theorem zr_272_6 (lay : zm_Lay) (σ : zm_Sig) (r0 : Nat) (i1 : Int32) (i2 : Int32) (i3 : Int32) (i4 : Int32) (i5 : Int32) : zm_blk zM zp_272 (some .int) 0 0 zc_272 140 (zp_272.drop 4) (6, [(0, .ref r0), (1, .int i1), (2, .int i2), (3, .int i3), (4, .int i4), (5, .int i5)], [], lay, σ, 0, 0) = zb_272_6 lay σ r0 i1 i2 i3 i4 i5 := rfl
theorem zg_272_6 {lay : zm_Lay} {σ : zm_Sig} {r0 : Nat} {i1 : Int32} {i2 : Int32} {i3 : Int32} {i4 : Int32} {i5 : Int32} {out : zm_Out} {r : zm_St ⊕ zm_Out} (h : zb_272_6 lay σ r0 i1 i2 i3 i4 i5 = some r) (hg : zm_end zp_P 272 out r) : zm_go zp_P 272 (6, [(0, .ref r0), (1, .int i1), (2, .int i2), (3, .int i3), (4, .int i4), (5, .int i5)], [], lay, σ, 0, 0) out :=
  zm_blk_go (M := zd_272) rfl zs_272 140 (zp_272.drop 4) _ r (fun _ h => List.mem_of_mem_drop h) ((zr_272_6 lay σ r0 i1 i2 i3 i4 i5).trans h) hg
noncomputable def zb_272_16 (lay : zm_Lay) (σ : zm_Sig) (r0 : Nat) (i1 : Int32) (i2 : Int32) (i3 : Int32) (i4 : Int32) (i5 : Int32) (i6 : Int32) : Option (zm_St ⊕ zm_Out) :=
  if i1 ≤ i6 then (if i1 ≤ i6 then (some (.inl (6, [(0, .ref r0), (1, .int i1), (2, .int i2), (3, .int i3), (4, .int i4), (5, .int (i5 + 1))], [], lay, σ, 0, 0)))
   else (some (.inl (53, [(0, .ref r0), (1, .int i1), (2, .int i2), (3, .int i3), (4, .int i4), (5, .int i5), (6, .int i6), (7, .int 0)], [], lay, σ, 0, 0))))
  else ((zm_is lay r0 10).bind fun _ =>
   zm_opt (σ.2.2 r0 44) (fun q1 =>
   (zm_gI lay σ q1 ((((nI 16) : Int32) * i6) + i5)).bind fun v2 =>
   if ¬ v2 = 0 then (if i1 ≤ i6 then (some (.inl (6, [(0, .ref r0), (1, .int i1), (2, .int i2), (3, .int i3), (4, .int i4), (5, .int (i5 + 1))], [], lay, σ, 0, 0)))
    else (some (.inl (53, [(0, .ref r0), (1, .int i1), (2, .int i2), (3, .int i3), (4, .int i4), (5, .int i5), (6, .int i6), (7, .int 0)], [], lay, σ, 0, 0))))
   else (some (.inl (16, [(0, .ref r0), (1, .int i1), (2, .int i2), (3, .int i3), (4, .int i4), (5, .int i5), (6, .int (i6 + 1))], [], lay, σ, 0, 0)))) (none))
set_option maxRecDepth 100000 in
theorem zr_272_16 (lay : zm_Lay) (σ : zm_Sig) (r0 : Nat) (i1 : Int32) (i2 : Int32) (i3 : Int32) (i4 : Int32) (i5 : Int32) (i6 : Int32) : zm_blk zM zp_272 (some .int) 0 0 zc_272 140 (zp_272.drop 9) (16, [(0, .ref r0), (1, .int i1), (2, .int i2), (3, .int i3), (4, .int i4), (5, .int i5), (6, .int i6)], [], lay, σ, 0, 0) = zb_272_16 lay σ r0 i1 i2 i3 i4 i5 i6 := rfl
theorem zg_272_16 {lay : zm_Lay} {σ : zm_Sig} {r0 : Nat} {i1 : Int32} {i2 : Int32} {i3 : Int32} {i4 : Int32} {i5 : Int32} {i6 : Int32} {out : zm_Out} {r : zm_St ⊕ zm_Out} (h : zb_272_16 lay σ r0 i1 i2 i3 i4 i5 i6 = some r) (hg : zm_end zp_P 272 out r) : zm_go zp_P 272 (16, [(0, .ref r0), (1, .int i1), (2, .int i2), (3, .int i3), (4, .int i4), (5, .int i5), (6, .int i6)], [], lay, σ, 0, 0) out :=
  zm_blk_go (M := zd_272) rfl zs_272 140 (zp_272.drop 9) _ r (fun _ h => List.mem_of_mem_drop h) ((zr_272_16 lay σ r0 i1 i2 i3 i4 i5 i6).trans h) hg
noncomputable def zb_272_53 (lay : zm_Lay) (σ : zm_Sig) (r0 : Nat) (i1 : Int32) (i2 : Int32) (i3 : Int32) (i4 : Int32) (i5 : Int32) (i6 : Int32) (i7 : Int32) : Option (zm_St ⊕ zm_Out) :=
  if i2 ≤ i7 then (some (.inl (127, [(0, .ref r0), (1, .int i1), (2, .int i2), (3, .int i3), (4, .int i4), (5, .int i5), (7, .int (i4 + 1))], [], lay, σ, 0, 0)))
  else ((zm_is lay r0 10).bind fun _ =>
   zm_opt (σ.2.2 r0 44) (fun q1 =>
   (zm_gI lay σ q1 ((((nI 16) : Int32) * i6) + i7)).bind fun v2 =>
   (zm_is lay r0 10).bind fun _ =>
   zm_opt (σ.2.2 r0 44) (fun q3 =>
   (zm_is lay r0 10).bind fun _ =>
   zm_opt (σ.2.2 r0 44) (fun q4 =>
   (zm_gI lay σ q4 ((((nI 16) : Int32) * i4) + i7)).bind fun v5 =>
   (zm_sI lay σ q3 ((((nI 16) : Int32) * i6) + i7) v5).bind fun s6 =>
   (zm_is lay r0 10).bind fun _ =>
   zm_opt (s6.2.2 r0 44) (fun q7 =>
   (zm_sI lay s6 q7 ((((nI 16) : Int32) * i4) + i7) v2).bind fun s8 =>
   some (.inl (53, [(0, .ref r0), (1, .int i1), (2, .int i2), (3, .int i3), (4, .int i4), (5, .int i5), (6, .int i6), (7, .int (i7 + 1))], [], lay, s8, 0, 0))) (none)) (none)) (none)) (none))
set_option maxRecDepth 100000 in
theorem zr_272_53 (lay : zm_Lay) (σ : zm_Sig) (r0 : Nat) (i1 : Int32) (i2 : Int32) (i3 : Int32) (i4 : Int32) (i5 : Int32) (i6 : Int32) (i7 : Int32) : zm_blk zM zp_272 (some .int) 0 0 zc_272 140 (zp_272.drop 28) (53, [(0, .ref r0), (1, .int i1), (2, .int i2), (3, .int i3), (4, .int i4), (5, .int i5), (6, .int i6), (7, .int i7)], [], lay, σ, 0, 0) = zb_272_53 lay σ r0 i1 i2 i3 i4 i5 i6 i7 := rfl
theorem zg_272_53 {lay : zm_Lay} {σ : zm_Sig} {r0 : Nat} {i1 : Int32} {i2 : Int32} {i3 : Int32} {i4 : Int32} {i5 : Int32} {i6 : Int32} {i7 : Int32} {out : zm_Out} {r : zm_St ⊕ zm_Out} (h : zb_272_53 lay σ r0 i1 i2 i3 i4 i5 i6 i7 = some r) (hg : zm_end zp_P 272 out r) : zm_go zp_P 272 (53, [(0, .ref r0), (1, .int i1), (2, .int i2), (3, .int i3), (4, .int i4), (5, .int i5), (6, .int i6), (7, .int i7)], [], lay, σ, 0, 0) out :=
  zm_blk_go (M := zd_272) rfl zs_272 140 (zp_272.drop 28) _ r (fun _ h => List.mem_of_mem_drop h) ((zr_272_53 lay σ r0 i1 i2 i3 i4 i5 i6 i7).trans h) hg
noncomputable def zb_272_127 (lay : zm_Lay) (σ : zm_Sig) (r0 : Nat) (i1 : Int32) (i2 : Int32) (i3 : Int32) (i4 : Int32) (i5 : Int32) (i7 : Int32) : Option (zm_St ⊕ zm_Out) :=
  if i1 ≤ i7 then (some (.inl (6, [(0, .ref r0), (1, .int i1), (2, .int i2), (3, .int i3), (4, .int (i4 + 1)), (5, .int (i5 + 1))], [], lay, σ, 0, 0)))
  else ((zm_is lay r0 10).bind fun _ =>
   zm_opt (σ.2.2 r0 44) (fun q1 =>
   (zm_gI lay σ q1 ((((nI 16) : Int32) * i7) + i5)).bind fun v2 =>
   (zm_is lay r0 10).bind fun _ =>
   zm_opt (σ.2.2 r0 44) (fun q3 =>
   (zm_gI lay σ q3 ((((nI 16) : Int32) * i4) + i5)).bind fun v4 =>
   some (.inl (166, [(0, .ref r0), (1, .int i1), (2, .int i2), (3, .int i3), (4, .int i4), (5, .int i5), (7, .int i7), (8, .int v2), (9, .int v4), (10, .int 0)], [], lay, σ, 0, 0))) (none)) (none))
set_option maxRecDepth 100000 in
theorem zr_272_127 (lay : zm_Lay) (σ : zm_Sig) (r0 : Nat) (i1 : Int32) (i2 : Int32) (i3 : Int32) (i4 : Int32) (i5 : Int32) (i7 : Int32) : zm_blk zM zp_272 (some .int) 0 0 zc_272 140 (zp_272.drop 71) (127, [(0, .ref r0), (1, .int i1), (2, .int i2), (3, .int i3), (4, .int i4), (5, .int i5), (7, .int i7)], [], lay, σ, 0, 0) = zb_272_127 lay σ r0 i1 i2 i3 i4 i5 i7 := rfl
theorem zg_272_127 {lay : zm_Lay} {σ : zm_Sig} {r0 : Nat} {i1 : Int32} {i2 : Int32} {i3 : Int32} {i4 : Int32} {i5 : Int32} {i7 : Int32} {out : zm_Out} {r : zm_St ⊕ zm_Out} (h : zb_272_127 lay σ r0 i1 i2 i3 i4 i5 i7 = some r) (hg : zm_end zp_P 272 out r) : zm_go zp_P 272 (127, [(0, .ref r0), (1, .int i1), (2, .int i2), (3, .int i3), (4, .int i4), (5, .int i5), (7, .int i7)], [], lay, σ, 0, 0) out :=
  zm_blk_go (M := zd_272) rfl zs_272 140 (zp_272.drop 71) _ r (fun _ h => List.mem_of_mem_drop h) ((zr_272_127 lay σ r0 i1 i2 i3 i4 i5 i7).trans h) hg
noncomputable def zb_272_166 (lay : zm_Lay) (σ : zm_Sig) (r0 : Nat) (i1 : Int32) (i2 : Int32) (i3 : Int32) (i4 : Int32) (i5 : Int32) (i7 : Int32) (i8 : Int32) (i9 : Int32) (i10 : Int32) : Option (zm_St ⊕ zm_Out) :=
  if i2 ≤ i10 then (some (.inl (127, [(0, .ref r0), (1, .int i1), (2, .int i2), (3, .int i3), (4, .int i4), (5, .int i5), (7, .int (i7 + 1))], [], lay, σ, 0, 0)))
  else ((zm_is lay r0 10).bind fun _ =>
   zm_opt (σ.2.2 r0 44) (fun q1 =>
   (zm_is lay r0 10).bind fun _ =>
   zm_opt (σ.2.2 r0 44) (fun q2 =>
   (zm_gI lay σ q2 ((((nI 16) : Int32) * i7) + i10)).bind fun v3 =>
   (zm_is lay r0 10).bind fun _ =>
   zm_opt (σ.2.2 r0 44) (fun q4 =>
   (zm_gI lay σ q4 ((((nI 16) : Int32) * i4) + i10)).bind fun v5 =>
   if i3 = 0 then none
   else ((zm_sI lay σ q1 ((((nI 16) : Int32) * i7) + i10) (((v3 * i9) + ((i3 - i8) * v5)) - ((v3 * i9) + ((i3 - i8) * v5)) / i3 * i3)).bind fun s6 =>
   some (.inl (166, [(0, .ref r0), (1, .int i1), (2, .int i2), (3, .int i3), (4, .int i4), (5, .int i5), (7, .int i7), (8, .int i8), (9, .int i9), (10, .int (i10 + 1))], [], lay, s6, 0, 0)))) (none)) (none)) (none))
set_option maxRecDepth 100000 in
theorem zr_272_166 (lay : zm_Lay) (σ : zm_Sig) (r0 : Nat) (i1 : Int32) (i2 : Int32) (i3 : Int32) (i4 : Int32) (i5 : Int32) (i7 : Int32) (i8 : Int32) (i9 : Int32) (i10 : Int32) : zm_blk zM zp_272 (some .int) 0 0 zc_272 140 (zp_272.drop 94) (166, [(0, .ref r0), (1, .int i1), (2, .int i2), (3, .int i3), (4, .int i4), (5, .int i5), (7, .int i7), (8, .int i8), (9, .int i9), (10, .int i10)], [], lay, σ, 0, 0) = zb_272_166 lay σ r0 i1 i2 i3 i4 i5 i7 i8 i9 i10 := rfl
theorem zg_272_166 {lay : zm_Lay} {σ : zm_Sig} {r0 : Nat} {i1 : Int32} {i2 : Int32} {i3 : Int32} {i4 : Int32} {i5 : Int32} {i7 : Int32} {i8 : Int32} {i9 : Int32} {i10 : Int32} {out : zm_Out} {r : zm_St ⊕ zm_Out} (h : zb_272_166 lay σ r0 i1 i2 i3 i4 i5 i7 i8 i9 i10 = some r) (hg : zm_end zp_P 272 out r) : zm_go zp_P 272 (166, [(0, .ref r0), (1, .int i1), (2, .int i2), (3, .int i3), (4, .int i4), (5, .int i5), (7, .int i7), (8, .int i8), (9, .int i9), (10, .int i10)], [], lay, σ, 0, 0) out :=
  zm_blk_go (M := zd_272) rfl zs_272 140 (zp_272.drop 94) _ r (fun _ h => List.mem_of_mem_drop h) ((zr_272_166 lay σ r0 i1 i2 i3 i4 i5 i7 i8 i9 i10).trans h) hg
/-! SubgroupWriterModel.bits(I)I -/
theorem zs_273 : zm_srt zp_273 = true := by decide +kernel
noncomputable def zb_273_0 (lay : zm_Lay) (σ : zm_Sig) (i0 : Int32) : Option (zm_St ⊕ zm_Out) :=
  some (.inl (4, [(1, .int 0), (2, .int i0)], [], lay, σ, 0, 0))
set_option maxRecDepth 100000 in
theorem zr_273_0 (lay : zm_Lay) (σ : zm_Sig) (i0 : Int32) : zm_blk zM zp_273 (some .int) 0 0 zc_273 17 (zp_273.drop 0) (0, [(0, .int i0)], [], lay, σ, 0, 0) = zb_273_0 lay σ i0 := rfl
theorem ze_273 {lay : zm_Lay} {σ : zm_Sig} {i0 : Int32} {out : zm_Out} {r : zm_St ⊕ zm_Out} (h : zb_273_0 lay σ i0 = some r) (hg : zm_end zp_P 273 out r) : zM 273 [.int i0] lay σ = some out :=
  zm_mean_go (M := zd_273) rfl (Nat.le_of_ble_eq_true rfl) (zm_blk_go (M := zd_273) rfl zs_273 17 (zp_273.drop 0) _ r (fun _ h => List.mem_of_mem_drop h) ((zr_273_0 lay σ i0).trans h) hg)
noncomputable def zb_273_4 (lay : zm_Lay) (σ : zm_Sig) (i1 : Int32) (i2 : Int32) : Option (zm_St ⊕ zm_Out) :=
  if i2 = 0 then (some (.inr (some (.int i1), lay, σ)))
  else (some (.inl (4, [(1, .int (i1 + 1)), (2, .int (i2 &&& (i2 - 1)))], [], lay, σ, 0, 0)))
set_option maxRecDepth 100000 in
theorem zr_273_4 (lay : zm_Lay) (σ : zm_Sig) (i1 : Int32) (i2 : Int32) : zm_blk zM zp_273 (some .int) 0 0 zc_273 17 (zp_273.drop 4) (4, [(1, .int i1), (2, .int i2)], [], lay, σ, 0, 0) = zb_273_4 lay σ i1 i2 := rfl
theorem zg_273_4 {lay : zm_Lay} {σ : zm_Sig} {i1 : Int32} {i2 : Int32} {out : zm_Out} {r : zm_St ⊕ zm_Out} (h : zb_273_4 lay σ i1 i2 = some r) (hg : zm_end zp_P 273 out r) : zm_go zp_P 273 (4, [(1, .int i1), (2, .int i2)], [], lay, σ, 0, 0) out :=
  zm_blk_go (M := zd_273) rfl zs_273 17 (zp_273.drop 4) _ r (fun _ h => List.mem_of_mem_drop h) ((zr_273_4 lay σ i1 i2).trans h) hg
/-! SubgroupWriterModel.ways(I)I -/
theorem zs_274 : zm_srt zp_274 = true := by decide +kernel
noncomputable def zb_274_0 (lay : zm_Lay) (σ : zm_Sig) (r0 : Nat) (i1 : Int32) : Option (zm_St ⊕ zm_Out) :=
  (zm_ai (zM 271 [.int i1] lay σ)).bind fun q1 =>
  if ¬ q1.1 = 0 then ((zm_is q1.2.1 r0 10).bind fun _ =>
   if ¬ (q1.2.2.1 r0 4) = 0 then (some (.inl (21, [(0, .ref r0), (1, .int i1), (2, .int 0)], [], q1.2.1, q1.2.2, 0, 0)))
   else (some (.inr (some (.int (-4)), q1.2.1, q1.2.2))))
  else (some (.inr (some (.int (-1)), q1.2.1, q1.2.2)))
set_option maxRecDepth 100000 in
theorem zr_274_0 (lay : zm_Lay) (σ : zm_Sig) (r0 : Nat) (i1 : Int32) : zm_blk zM zp_274 (some .int) 0 0 zc_274 114 (zp_274.drop 0) (0, [(0, .ref r0), (1, .int i1)], [], lay, σ, 0, 0) = zb_274_0 lay σ r0 i1 := rfl
theorem ze_274 {lay : zm_Lay} {σ : zm_Sig} {r0 : Nat} {i1 : Int32} {out : zm_Out} {r : zm_St ⊕ zm_Out} (h : zb_274_0 lay σ r0 i1 = some r) (hg : zm_end zp_P 274 out r) : zM 274 [.ref r0, .int i1] lay σ = some out :=
  zm_mean_go (M := zd_274) rfl (Nat.le_of_ble_eq_true rfl) (zm_blk_go (M := zd_274) rfl zs_274 114 (zp_274.drop 0) _ r (fun _ h => List.mem_of_mem_drop h) ((zr_274_0 lay σ r0 i1).trans h) hg)
noncomputable def zb_274_21 (lay : zm_Lay) (σ : zm_Sig) (r0 : Nat) (i1 : Int32) (i2 : Int32) : Option (zm_St ⊕ zm_Out) :=
  (zm_is lay r0 10).bind fun _ =>
  if (σ.1 r0 6) ≤ i2 then ((zm_is lay r0 10).bind fun _ =>
   (zm_is lay r0 10).bind fun _ =>
   (zm_is lay r0 10).bind fun _ =>
   (zm_is lay r0 10).bind fun _ => (zm_ai (zM 272 [.ref r0, .int (σ.1 r0 6), .int (σ.1 r0 5), .int i1] lay σ)).bind fun q1 =>
   some (.inl (162, [(0, .ref r0), (1, .int i1), (2, .int ((σ.1 r0 5) - q1.1)), (3, .long (Int64.ofNat 1)), (5, .int 0)], [], q1.2.1, q1.2.2, 0, 0)))
  else (some (.inl (31, [(0, .ref r0), (1, .int i1), (2, .int i2), (3, .int 0)], [], lay, σ, 0, 0)))
set_option maxRecDepth 100000 in
theorem zr_274_21 (lay : zm_Lay) (σ : zm_Sig) (r0 : Nat) (i1 : Int32) (i2 : Int32) : zm_blk zM zp_274 (some .int) 0 0 zc_274 114 (zp_274.drop 12) (21, [(0, .ref r0), (1, .int i1), (2, .int i2)], [], lay, σ, 0, 0) = zb_274_21 lay σ r0 i1 i2 := rfl
theorem zg_274_21 {lay : zm_Lay} {σ : zm_Sig} {r0 : Nat} {i1 : Int32} {i2 : Int32} {out : zm_Out} {r : zm_St ⊕ zm_Out} (h : zb_274_21 lay σ r0 i1 i2 = some r) (hg : zm_end zp_P 274 out r) : zm_go zp_P 274 (21, [(0, .ref r0), (1, .int i1), (2, .int i2)], [], lay, σ, 0, 0) out :=
  zm_blk_go (M := zd_274) rfl zs_274 114 (zp_274.drop 12) _ r (fun _ h => List.mem_of_mem_drop h) ((zr_274_21 lay σ r0 i1 i2).trans h) hg
noncomputable def zb_274_31 (lay : zm_Lay) (σ : zm_Sig) (r0 : Nat) (i1 : Int32) (i2 : Int32) (i3 : Int32) : Option (zm_St ⊕ zm_Out) :=
  (zm_is lay r0 10).bind fun _ =>
  if (σ.1 r0 5) ≤ i3 then (some (.inl (21, [(0, .ref r0), (1, .int i1), (2, .int (i2 + 1))], [], lay, σ, 0, 0)))
  else (some (.inl (45, [(0, .ref r0), (1, .int i1), (2, .int i2), (3, .int i3), (4, .int 0), (5, .int 0)], [], lay, σ, 0, 0)))
set_option maxRecDepth 100000 in
theorem zr_274_31 (lay : zm_Lay) (σ : zm_Sig) (r0 : Nat) (i1 : Int32) (i2 : Int32) (i3 : Int32) : zm_blk zM zp_274 (some .int) 0 0 zc_274 114 (zp_274.drop 18) (31, [(0, .ref r0), (1, .int i1), (2, .int i2), (3, .int i3)], [], lay, σ, 0, 0) = zb_274_31 lay σ r0 i1 i2 i3 := rfl
theorem zg_274_31 {lay : zm_Lay} {σ : zm_Sig} {r0 : Nat} {i1 : Int32} {i2 : Int32} {i3 : Int32} {out : zm_Out} {r : zm_St ⊕ zm_Out} (h : zb_274_31 lay σ r0 i1 i2 i3 = some r) (hg : zm_end zp_P 274 out r) : zm_go zp_P 274 (31, [(0, .ref r0), (1, .int i1), (2, .int i2), (3, .int i3)], [], lay, σ, 0, 0) out :=
  zm_blk_go (M := zd_274) rfl zs_274 114 (zp_274.drop 18) _ r (fun _ h => List.mem_of_mem_drop h) ((zr_274_31 lay σ r0 i1 i2 i3).trans h) hg
noncomputable def zb_274_162 (lay : zm_Lay) (σ : zm_Sig) (r0 : Nat) (i1 : Int32) (i2 : Int32) (l3 : Int64) (i5 : Int32) : Option (zm_St ⊕ zm_Out) :=
  if i2 ≤ i5 then ((zm_is lay r0 10).bind fun _ => (zm_ai (zM 275 [.ref r0, .long l3, .long (Int64.ofNat 1)] lay σ)).bind fun q1 =>
   some (.inr (some (.int i2), q1.2.1, q1.2.2)))
  else (some (.inl (162, [(0, .ref r0), (1, .int i1), (2, .int i2), (3, .long (l3 * (i1 : Int32).toInt64)), (5, .int (i5 + 1))], [], lay, σ, 0, 0)))
set_option maxRecDepth 100000 in
theorem zr_274_162 (lay : zm_Lay) (σ : zm_Sig) (r0 : Nat) (i1 : Int32) (i2 : Int32) (l3 : Int64) (i5 : Int32) : zm_blk zM zp_274 (some .int) 0 0 zc_274 114 (zp_274.drop 96) (162, [(0, .ref r0), (1, .int i1), (2, .int i2), (3, .long l3), (5, .int i5)], [], lay, σ, 0, 0) = zb_274_162 lay σ r0 i1 i2 l3 i5 := rfl
theorem zg_274_162 {lay : zm_Lay} {σ : zm_Sig} {r0 : Nat} {i1 : Int32} {i2 : Int32} {l3 : Int64} {i5 : Int32} {out : zm_Out} {r : zm_St ⊕ zm_Out} (h : zb_274_162 lay σ r0 i1 i2 l3 i5 = some r) (hg : zm_end zp_P 274 out r) : zm_go zp_P 274 (162, [(0, .ref r0), (1, .int i1), (2, .int i2), (3, .long l3), (5, .int i5)], [], lay, σ, 0, 0) out :=
  zm_blk_go (M := zd_274) rfl zs_274 114 (zp_274.drop 96) _ r (fun _ h => List.mem_of_mem_drop h) ((zr_274_162 lay σ r0 i1 i2 l3 i5).trans h) hg
noncomputable def zb_274_45 (lay : zm_Lay) (σ : zm_Sig) (r0 : Nat) (i1 : Int32) (i2 : Int32) (i3 : Int32) (i4 : Int32) (i5 : Int32) : Option (zm_St ⊕ zm_Out) :=
  (zm_is lay r0 10).bind fun _ =>
  zm_opt (σ.2.2 r0 9) (fun q1 =>
  (zm_gI lay σ q1 i2).bind fun v2 =>
  if v2 ≤ i5 then ((zm_is lay r0 10).bind fun _ =>
   zm_opt (σ.2.2 r0 44) (fun q3 =>
   if i1 = 0 then none
   else (if i1 = 0 then none
   else ((zm_sI lay σ q3 ((((nI 16) : Int32) * i2) + i3) (((i4 - i4 / i1 * i1) + i1) - ((i4 - i4 / i1 * i1) + i1) / i1 * i1)).bind fun s4 =>
   some (.inl (31, [(0, .ref r0), (1, .int i1), (2, .int i2), (3, .int (i3 + 1))], [], lay, s4, 0, 0))))) (none))
  else ((zm_is lay r0 10).bind fun _ =>
   zm_opt (σ.2.2 r0 10) (fun q5 =>
   (zm_gI lay σ q5 ((((nI 8) : Int32) * i2) + i5)).bind fun v6 =>
   if ¬ v6 = (i3 + 1) then (if ¬ v6 = ((-i3) - 1) then (some (.inl (45, [(0, .ref r0), (1, .int i1), (2, .int i2), (3, .int i3), (4, .int (i4 + 0)), (5, .int (i5 + 1))], [], lay, σ, 0, 0)))
    else (some (.inl (45, [(0, .ref r0), (1, .int i1), (2, .int i2), (3, .int i3), (4, .int (i4 + (-1))), (5, .int (i5 + 1))], [], lay, σ, 0, 0))))
   else (some (.inl (45, [(0, .ref r0), (1, .int i1), (2, .int i2), (3, .int i3), (4, .int (i4 + 1)), (5, .int (i5 + 1))], [], lay, σ, 0, 0)))) (none))) (none)
set_option maxRecDepth 100000 in
theorem zr_274_45 (lay : zm_Lay) (σ : zm_Sig) (r0 : Nat) (i1 : Int32) (i2 : Int32) (i3 : Int32) (i4 : Int32) (i5 : Int32) : zm_blk zM zp_274 (some .int) 0 0 zc_274 114 (zp_274.drop 26) (45, [(0, .ref r0), (1, .int i1), (2, .int i2), (3, .int i3), (4, .int i4), (5, .int i5)], [], lay, σ, 0, 0) = zb_274_45 lay σ r0 i1 i2 i3 i4 i5 := rfl
theorem zg_274_45 {lay : zm_Lay} {σ : zm_Sig} {r0 : Nat} {i1 : Int32} {i2 : Int32} {i3 : Int32} {i4 : Int32} {i5 : Int32} {out : zm_Out} {r : zm_St ⊕ zm_Out} (h : zb_274_45 lay σ r0 i1 i2 i3 i4 i5 = some r) (hg : zm_end zp_P 274 out r) : zm_go zp_P 274 (45, [(0, .ref r0), (1, .int i1), (2, .int i2), (3, .int i3), (4, .int i4), (5, .int i5)], [], lay, σ, 0, 0) out :=
  zm_blk_go (M := zd_274) rfl zs_274 114 (zp_274.drop 26) _ r (fun _ h => List.mem_of_mem_drop h) ((zr_274_45 lay σ r0 i1 i2 i3 i4 i5).trans h) hg
/-! SubgroupWriterModel.tellsPart(JJ)I -/
theorem zs_275 : zm_srt zp_275 = true := by decide +kernel
noncomputable def zb_275_0 (lay : zm_Lay) (σ : zm_Sig) (r0 : Nat) (l1 : Int64) (l3 : Int64) : Option (zm_St ⊕ zm_Out) :=
  some (.inl (6, [(0, .ref r0), (1, .long l1), (3, .long l3), (5, .long l1), (7, .long l3)], [], lay, σ, 0, 0))
set_option maxRecDepth 100000 in
theorem zr_275_0 (lay : zm_Lay) (σ : zm_Sig) (r0 : Nat) (l1 : Int64) (l3 : Int64) : zm_blk zM zp_275 (some .int) 0 0 zc_275 30 (zp_275.drop 0) (0, [(0, .ref r0), (1, .long l1), (3, .long l3)], [], lay, σ, 0, 0) = zb_275_0 lay σ r0 l1 l3 := rfl
theorem ze_275 {lay : zm_Lay} {σ : zm_Sig} {r0 : Nat} {l1 : Int64} {l3 : Int64} {out : zm_Out} {r : zm_St ⊕ zm_Out} (h : zb_275_0 lay σ r0 l1 l3 = some r) (hg : zm_end zp_P 275 out r) : zM 275 [.ref r0, .long l1, .long l3] lay σ = some out :=
  zm_mean_go (M := zd_275) rfl (Nat.le_of_ble_eq_true rfl) (zm_blk_go (M := zd_275) rfl zs_275 30 (zp_275.drop 0) _ r (fun _ h => List.mem_of_mem_drop h) ((zr_275_0 lay σ r0 l1 l3).trans h) hg)
noncomputable def zb_275_6 (lay : zm_Lay) (σ : zm_Sig) (r0 : Nat) (l1 : Int64) (l3 : Int64) (l5 : Int64) (l7 : Int64) : Option (zm_St ⊕ zm_Out) :=
  if (lg_cmp l7 (Int64.ofNat 0)) = 0 then (if l5 = 0 then none
   else ((zm_is lay r0 10).bind fun _ => (zm_fw σ r0 27 1 (.long (l1 / l5))).bind fun s1 =>
   if l5 = 0 then none
   else ((zm_is lay r0 10).bind fun _ => (zm_fw s1 r0 28 1 (.long (l3 / l5))).bind fun s2 =>
   some (.inr (some (.int 1), lay, s2)))))
  else (if l7 = 0 then none
   else (some (.inl (6, [(0, .ref r0), (1, .long l1), (3, .long l3), (5, .long l7), (7, .long (l5 - l5 / l7 * l7))], [], lay, σ, 0, 0))))
set_option maxRecDepth 100000 in
theorem zr_275_6 (lay : zm_Lay) (σ : zm_Sig) (r0 : Nat) (l1 : Int64) (l3 : Int64) (l5 : Int64) (l7 : Int64) : zm_blk zM zp_275 (some .int) 0 0 zc_275 30 (zp_275.drop 4) (6, [(0, .ref r0), (1, .long l1), (3, .long l3), (5, .long l5), (7, .long l7)], [], lay, σ, 0, 0) = zb_275_6 lay σ r0 l1 l3 l5 l7 := rfl
theorem zg_275_6 {lay : zm_Lay} {σ : zm_Sig} {r0 : Nat} {l1 : Int64} {l3 : Int64} {l5 : Int64} {l7 : Int64} {out : zm_Out} {r : zm_St ⊕ zm_Out} (h : zb_275_6 lay σ r0 l1 l3 l5 l7 = some r) (hg : zm_end zp_P 275 out r) : zm_go zp_P 275 (6, [(0, .ref r0), (1, .long l1), (3, .long l3), (5, .long l5), (7, .long l7)], [], lay, σ, 0, 0) out :=
  zm_blk_go (M := zd_275) rfl zs_275 30 (zp_275.drop 4) _ r (fun _ h => List.mem_of_mem_drop h) ((zr_275_6 lay σ r0 l1 l3 l5 l7).trans h) hg
/-! SubgroupWriterModel.odds(III)I -/
theorem zs_276 : zm_srt zp_276 = true := by decide +kernel
noncomputable def zb_276_0 (lay : zm_Lay) (σ : zm_Sig) (r0 : Nat) (i1 : Int32) (i2 : Int32) (i3 : Int32) : Option (zm_St ⊕ zm_Out) :=
  (zm_is lay r0 10).bind fun _ => (zm_ai (zM 216 [.ref r0, .int i1] lay σ)).bind fun q1 =>
  if q1.1 = 0 then (some (.inr (some (.int (-1)), q1.2.1, q1.2.2)))
  else ((zm_is q1.2.1 r0 10).bind fun _ => (zm_ai (zM 216 [.ref r0, .int i2] q1.2.1 q1.2.2)).bind fun q2 =>
   if q2.1 = 0 then (some (.inr (some (.int (-1)), q2.2.1, q2.2.2)))
   else ((zm_ai (zM 176 [.int i3, .int 0, .int (nI 8)] q2.2.1 q2.2.2)).bind fun q3 =>
    if ¬ q3.1 = 0 then (some (.inl (34, [(0, .ref r0), (1, .int i1), (2, .int i2), (3, .int i3), (4, .long (Int64.ofNat 1)), (6, .int 0)], [], q3.2.1, q3.2.2, 0, 0)))
    else (some (.inr (some (.int (-1)), q3.2.1, q3.2.2)))))
set_option maxRecDepth 100000 in
theorem zr_276_0 (lay : zm_Lay) (σ : zm_Sig) (r0 : Nat) (i1 : Int32) (i2 : Int32) (i3 : Int32) : zm_blk zM zp_276 (some .int) 0 0 zc_276 125 (zp_276.drop 0) (0, [(0, .ref r0), (1, .int i1), (2, .int i2), (3, .int i3)], [], lay, σ, 0, 0) = zb_276_0 lay σ r0 i1 i2 i3 := rfl
theorem ze_276 {lay : zm_Lay} {σ : zm_Sig} {r0 : Nat} {i1 : Int32} {i2 : Int32} {i3 : Int32} {out : zm_Out} {r : zm_St ⊕ zm_Out} (h : zb_276_0 lay σ r0 i1 i2 i3 = some r) (hg : zm_end zp_P 276 out r) : zM 276 [.ref r0, .int i1, .int i2, .int i3] lay σ = some out :=
  zm_mean_go (M := zd_276) rfl (Nat.le_of_ble_eq_true rfl) (zm_blk_go (M := zd_276) rfl zs_276 125 (zp_276.drop 0) _ r (fun _ h => List.mem_of_mem_drop h) ((zr_276_0 lay σ r0 i1 i2 i3).trans h) hg)
noncomputable def zb_276_34 (lay : zm_Lay) (σ : zm_Sig) (r0 : Nat) (i1 : Int32) (i2 : Int32) (i3 : Int32) (l4 : Int64) (i6 : Int32) : Option (zm_St ⊕ zm_Out) :=
  if ((nI 5) : Int32) ≤ i6 then (some (.inl (67, [(0, .ref r0), (2, .int i2), (3, .int i3), (4, .long l4), (6, .int 0)], [], lay, σ, 0, 0)))
  else ((zm_is lay r0 10).bind fun _ =>
   zm_opt (σ.2.2 r0 45) (fun q1 =>
   if ¬ i6 = i1 then ((zm_sL lay σ q1 i6 (Int64.ofNat 0)).bind fun s2 =>
    some (.inl (34, [(0, .ref r0), (1, .int i1), (2, .int i2), (3, .int i3), (4, .long l4), (6, .int (i6 + 1))], [], lay, s2, 0, 0)))
   else ((zm_sL lay σ q1 i6 (Int64.ofNat 1)).bind fun s3 =>
    some (.inl (34, [(0, .ref r0), (1, .int i1), (2, .int i2), (3, .int i3), (4, .long l4), (6, .int (i6 + 1))], [], lay, s3, 0, 0)))) (none))
set_option maxRecDepth 100000 in
theorem zr_276_34 (lay : zm_Lay) (σ : zm_Sig) (r0 : Nat) (i1 : Int32) (i2 : Int32) (i3 : Int32) (l4 : Int64) (i6 : Int32) : zm_blk zM zp_276 (some .int) 0 0 zc_276 125 (zp_276.drop 19) (34, [(0, .ref r0), (1, .int i1), (2, .int i2), (3, .int i3), (4, .long l4), (6, .int i6)], [], lay, σ, 0, 0) = zb_276_34 lay σ r0 i1 i2 i3 l4 i6 := rfl
theorem zg_276_34 {lay : zm_Lay} {σ : zm_Sig} {r0 : Nat} {i1 : Int32} {i2 : Int32} {i3 : Int32} {l4 : Int64} {i6 : Int32} {out : zm_Out} {r : zm_St ⊕ zm_Out} (h : zb_276_34 lay σ r0 i1 i2 i3 l4 i6 = some r) (hg : zm_end zp_P 276 out r) : zm_go zp_P 276 (34, [(0, .ref r0), (1, .int i1), (2, .int i2), (3, .int i3), (4, .long l4), (6, .int i6)], [], lay, σ, 0, 0) out :=
  zm_blk_go (M := zd_276) rfl zs_276 125 (zp_276.drop 19) _ r (fun _ h => List.mem_of_mem_drop h) ((zr_276_34 lay σ r0 i1 i2 i3 l4 i6).trans h) hg
noncomputable def zb_276_67 (lay : zm_Lay) (σ : zm_Sig) (r0 : Nat) (i2 : Int32) (i3 : Int32) (l4 : Int64) (i6 : Int32) : Option (zm_St ⊕ zm_Out) :=
  if i3 ≤ i6 then ((zm_is lay r0 10).bind fun _ =>
   zm_opt (σ.2.2 r0 45) (fun q1 =>
   (zm_gL lay σ q1 i2).bind fun v2 =>
   (zm_is lay r0 10).bind fun _ => (zm_ai (zM 275 [.ref r0, .long v2, .long l4] lay σ)).bind fun q3 =>
   some (.inr (some (.int q3.1), q3.2.1, q3.2.2))) (none))
  else ((zm_is lay r0 10).bind fun _ =>
   some (.inl (90, [(0, .ref r0), (2, .int i2), (3, .int i3), (4, .long (l4 * ((Int64.ofNat 2) * ((σ.1 r0 5) : Int32).toInt64))), (6, .int i6), (7, .int 0)], [], lay, σ, 0, 0)))
set_option maxRecDepth 100000 in
theorem zr_276_67 (lay : zm_Lay) (σ : zm_Sig) (r0 : Nat) (i2 : Int32) (i3 : Int32) (l4 : Int64) (i6 : Int32) : zm_blk zM zp_276 (some .int) 0 0 zc_276 125 (zp_276.drop 36) (67, [(0, .ref r0), (2, .int i2), (3, .int i3), (4, .long l4), (6, .int i6)], [], lay, σ, 0, 0) = zb_276_67 lay σ r0 i2 i3 l4 i6 := rfl
theorem zg_276_67 {lay : zm_Lay} {σ : zm_Sig} {r0 : Nat} {i2 : Int32} {i3 : Int32} {l4 : Int64} {i6 : Int32} {out : zm_Out} {r : zm_St ⊕ zm_Out} (h : zb_276_67 lay σ r0 i2 i3 l4 i6 = some r) (hg : zm_end zp_P 276 out r) : zm_go zp_P 276 (67, [(0, .ref r0), (2, .int i2), (3, .int i3), (4, .long l4), (6, .int i6)], [], lay, σ, 0, 0) out :=
  zm_blk_go (M := zd_276) rfl zs_276 125 (zp_276.drop 36) _ r (fun _ h => List.mem_of_mem_drop h) ((zr_276_67 lay σ r0 i2 i3 l4 i6).trans h) hg
noncomputable def zb_276_90 (lay : zm_Lay) (σ : zm_Sig) (r0 : Nat) (i2 : Int32) (i3 : Int32) (l4 : Int64) (i6 : Int32) (i7 : Int32) : Option (zm_St ⊕ zm_Out) :=
  (zm_is lay r0 10).bind fun _ =>
  if (σ.1 r0 4) ≤ i7 then (some (.inl (179, [(0, .ref r0), (2, .int i2), (3, .int i3), (4, .long l4), (6, .int i6), (7, .int 0)], [], lay, σ, 0, 0)))
  else ((zm_is lay r0 10).bind fun _ =>
   zm_opt (σ.2.2 r0 46) (fun q1 =>
   (zm_sL lay σ q1 i7 (Int64.ofNat 0)).bind fun s2 =>
   some (.inl (110, [(0, .ref r0), (2, .int i2), (3, .int i3), (4, .long l4), (6, .int i6), (7, .int i7), (8, .int 0)], [], lay, s2, 0, 0))) (none))
set_option maxRecDepth 100000 in
theorem zr_276_90 (lay : zm_Lay) (σ : zm_Sig) (r0 : Nat) (i2 : Int32) (i3 : Int32) (l4 : Int64) (i6 : Int32) (i7 : Int32) : zm_blk zM zp_276 (some .int) 0 0 zc_276 125 (zp_276.drop 49) (90, [(0, .ref r0), (2, .int i2), (3, .int i3), (4, .long l4), (6, .int i6), (7, .int i7)], [], lay, σ, 0, 0) = zb_276_90 lay σ r0 i2 i3 l4 i6 i7 := rfl
theorem zg_276_90 {lay : zm_Lay} {σ : zm_Sig} {r0 : Nat} {i2 : Int32} {i3 : Int32} {l4 : Int64} {i6 : Int32} {i7 : Int32} {out : zm_Out} {r : zm_St ⊕ zm_Out} (h : zb_276_90 lay σ r0 i2 i3 l4 i6 i7 = some r) (hg : zm_end zp_P 276 out r) : zm_go zp_P 276 (90, [(0, .ref r0), (2, .int i2), (3, .int i3), (4, .long l4), (6, .int i6), (7, .int i7)], [], lay, σ, 0, 0) out :=
  zm_blk_go (M := zd_276) rfl zs_276 125 (zp_276.drop 49) _ r (fun _ h => List.mem_of_mem_drop h) ((zr_276_90 lay σ r0 i2 i3 l4 i6 i7).trans h) hg
noncomputable def zb_276_110 (lay : zm_Lay) (σ : zm_Sig) (r0 : Nat) (i2 : Int32) (i3 : Int32) (l4 : Int64) (i6 : Int32) (i7 : Int32) (i8 : Int32) : Option (zm_St ⊕ zm_Out) :=
  (zm_is lay r0 10).bind fun _ =>
  if (σ.1 r0 5) ≤ i8 then (some (.inl (90, [(0, .ref r0), (2, .int i2), (3, .int i3), (4, .long l4), (6, .int i6), (7, .int (i7 + 1))], [], lay, σ, 0, 0)))
  else ((zm_is lay r0 10).bind fun _ =>
   zm_opt (σ.2.2 r0 46) (fun q1 =>
   (zm_gL lay σ q1 i7).bind fun v2 =>
   (zm_is lay r0 10).bind fun _ =>
   zm_opt (σ.2.2 r0 45) (fun q3 =>
   (zm_is lay r0 10).bind fun _ =>
   zm_opt (σ.2.2 r0 7) (fun q4 =>
   (zm_gI lay σ q4 ((((nI 5) : Int32) * i8) + i7)).bind fun v5 =>
   (zm_gL lay σ q3 v5).bind fun v6 =>
   (zm_is lay r0 10).bind fun _ =>
   zm_opt (σ.2.2 r0 45) (fun q7 =>
   (zm_is lay r0 10).bind fun _ =>
   zm_opt (σ.2.2 r0 8) (fun q8 =>
   (zm_gI lay σ q8 ((((nI 5) : Int32) * i8) + i7)).bind fun v9 =>
   (zm_gL lay σ q7 v9).bind fun v10 =>
   (zm_sL lay σ q1 i7 (v2 + (v6 + v10))).bind fun s11 =>
   some (.inl (110, [(0, .ref r0), (2, .int i2), (3, .int i3), (4, .long l4), (6, .int i6), (7, .int i7), (8, .int (i8 + 1))], [], lay, s11, 0, 0))) (none)) (none)) (none)) (none)) (none))
set_option maxRecDepth 100000 in
theorem zr_276_110 (lay : zm_Lay) (σ : zm_Sig) (r0 : Nat) (i2 : Int32) (i3 : Int32) (l4 : Int64) (i6 : Int32) (i7 : Int32) (i8 : Int32) : zm_blk zM zp_276 (some .int) 0 0 zc_276 125 (zp_276.drop 60) (110, [(0, .ref r0), (2, .int i2), (3, .int i3), (4, .long l4), (6, .int i6), (7, .int i7), (8, .int i8)], [], lay, σ, 0, 0) = zb_276_110 lay σ r0 i2 i3 l4 i6 i7 i8 := rfl
theorem zg_276_110 {lay : zm_Lay} {σ : zm_Sig} {r0 : Nat} {i2 : Int32} {i3 : Int32} {l4 : Int64} {i6 : Int32} {i7 : Int32} {i8 : Int32} {out : zm_Out} {r : zm_St ⊕ zm_Out} (h : zb_276_110 lay σ r0 i2 i3 l4 i6 i7 i8 = some r) (hg : zm_end zp_P 276 out r) : zm_go zp_P 276 (110, [(0, .ref r0), (2, .int i2), (3, .int i3), (4, .long l4), (6, .int i6), (7, .int i7), (8, .int i8)], [], lay, σ, 0, 0) out :=
  zm_blk_go (M := zd_276) rfl zs_276 125 (zp_276.drop 60) _ r (fun _ h => List.mem_of_mem_drop h) ((zr_276_110 lay σ r0 i2 i3 l4 i6 i7 i8).trans h) hg
noncomputable def zb_276_179 (lay : zm_Lay) (σ : zm_Sig) (r0 : Nat) (i2 : Int32) (i3 : Int32) (l4 : Int64) (i6 : Int32) (i7 : Int32) : Option (zm_St ⊕ zm_Out) :=
  (zm_is lay r0 10).bind fun _ =>
  if (σ.1 r0 4) ≤ i7 then (some (.inl (67, [(0, .ref r0), (2, .int i2), (3, .int i3), (4, .long l4), (6, .int (i6 + 1))], [], lay, σ, 0, 0)))
  else ((zm_is lay r0 10).bind fun _ =>
   zm_opt (σ.2.2 r0 45) (fun q1 =>
   (zm_is lay r0 10).bind fun _ =>
   zm_opt (σ.2.2 r0 46) (fun q2 =>
   (zm_gL lay σ q2 i7).bind fun v3 =>
   (zm_sL lay σ q1 i7 v3).bind fun s4 =>
   some (.inl (179, [(0, .ref r0), (2, .int i2), (3, .int i3), (4, .long l4), (6, .int i6), (7, .int (i7 + 1))], [], lay, s4, 0, 0))) (none)) (none))
set_option maxRecDepth 100000 in
theorem zr_276_179 (lay : zm_Lay) (σ : zm_Sig) (r0 : Nat) (i2 : Int32) (i3 : Int32) (l4 : Int64) (i6 : Int32) (i7 : Int32) : zm_blk zM zp_276 (some .int) 0 0 zc_276 125 (zp_276.drop 100) (179, [(0, .ref r0), (2, .int i2), (3, .int i3), (4, .long l4), (6, .int i6), (7, .int i7)], [], lay, σ, 0, 0) = zb_276_179 lay σ r0 i2 i3 l4 i6 i7 := rfl
theorem zg_276_179 {lay : zm_Lay} {σ : zm_Sig} {r0 : Nat} {i2 : Int32} {i3 : Int32} {l4 : Int64} {i6 : Int32} {i7 : Int32} {out : zm_Out} {r : zm_St ⊕ zm_Out} (h : zb_276_179 lay σ r0 i2 i3 l4 i6 i7 = some r) (hg : zm_end zp_P 276 out r) : zm_go zp_P 276 (179, [(0, .ref r0), (2, .int i2), (3, .int i3), (4, .long l4), (6, .int i6), (7, .int i7)], [], lay, σ, 0, 0) out :=
  zm_blk_go (M := zd_276) rfl zs_276 125 (zp_276.drop 100) _ r (fun _ h => List.mem_of_mem_drop h) ((zr_276_179 lay σ r0 i2 i3 l4 i6 i7).trans h) hg
/-! SubgroupWriterModel.mid(II)I -/
theorem zs_277 : zm_srt zp_277 = true := by decide +kernel
noncomputable def zb_277_0 (lay : zm_Lay) (σ : zm_Sig) (r0 : Nat) (i1 : Int32) (i2 : Int32) : Option (zm_St ⊕ zm_Out) :=
  (zm_is lay r0 10).bind fun _ => (zm_ai (zM 216 [.ref r0, .int i1] lay σ)).bind fun q1 =>
  if q1.1 = 0 then (some (.inr (some (.int (-1)), q1.2.1, q1.2.2)))
  else ((zm_ai (zM 176 [.int i2, .int 0, .int (nI 4)] q1.2.1 q1.2.2)).bind fun q2 =>
   if ¬ q2.1 = 0 then (some (.inl (24, [(0, .ref r0), (1, .int i1), (2, .int i2), (3, .int 1), (4, .int 0)], [], q2.2.1, q2.2.2, 0, 0)))
   else (some (.inr (some (.int (-1)), q2.2.1, q2.2.2))))
set_option maxRecDepth 100000 in
theorem zr_277_0 (lay : zm_Lay) (σ : zm_Sig) (r0 : Nat) (i1 : Int32) (i2 : Int32) : zm_blk zM zp_277 (some .int) 0 0 zc_277 89 (zp_277.drop 0) (0, [(0, .ref r0), (1, .int i1), (2, .int i2)], [], lay, σ, 0, 0) = zb_277_0 lay σ r0 i1 i2 := rfl
theorem ze_277 {lay : zm_Lay} {σ : zm_Sig} {r0 : Nat} {i1 : Int32} {i2 : Int32} {out : zm_Out} {r : zm_St ⊕ zm_Out} (h : zb_277_0 lay σ r0 i1 i2 = some r) (hg : zm_end zp_P 277 out r) : zM 277 [.ref r0, .int i1, .int i2] lay σ = some out :=
  zm_mean_go (M := zd_277) rfl (Nat.le_of_ble_eq_true rfl) (zm_blk_go (M := zd_277) rfl zs_277 89 (zp_277.drop 0) _ r (fun _ h => List.mem_of_mem_drop h) ((zr_277_0 lay σ r0 i1 i2).trans h) hg)
noncomputable def zb_277_24 (lay : zm_Lay) (σ : zm_Sig) (r0 : Nat) (i1 : Int32) (i2 : Int32) (i3 : Int32) (i4 : Int32) : Option (zm_St ⊕ zm_Out) :=
  if i2 ≤ i4 then (some (.inl (51, [(0, .ref r0), (1, .int i1), (2, .int i2), (3, .int i3), (4, .long (Int64.ofNat 0)), (6, .int 0)], [], lay, σ, 0, 0)))
  else ((zm_is lay r0 10).bind fun _ =>
   some (.inl (24, [(0, .ref r0), (1, .int i1), (2, .int i2), (3, .int (i3 * (((nI 2) : Int32) * (σ.1 r0 5)))), (4, .int (i4 + 1))], [], lay, σ, 0, 0)))
set_option maxRecDepth 100000 in
theorem zr_277_24 (lay : zm_Lay) (σ : zm_Sig) (r0 : Nat) (i1 : Int32) (i2 : Int32) (i3 : Int32) (i4 : Int32) : zm_blk zM zp_277 (some .int) 0 0 zc_277 89 (zp_277.drop 15) (24, [(0, .ref r0), (1, .int i1), (2, .int i2), (3, .int i3), (4, .int i4)], [], lay, σ, 0, 0) = zb_277_24 lay σ r0 i1 i2 i3 i4 := rfl
theorem zg_277_24 {lay : zm_Lay} {σ : zm_Sig} {r0 : Nat} {i1 : Int32} {i2 : Int32} {i3 : Int32} {i4 : Int32} {out : zm_Out} {r : zm_St ⊕ zm_Out} (h : zb_277_24 lay σ r0 i1 i2 i3 i4 = some r) (hg : zm_end zp_P 277 out r) : zm_go zp_P 277 (24, [(0, .ref r0), (1, .int i1), (2, .int i2), (3, .int i3), (4, .int i4)], [], lay, σ, 0, 0) out :=
  zm_blk_go (M := zd_277) rfl zs_277 89 (zp_277.drop 15) _ r (fun _ h => List.mem_of_mem_drop h) ((zr_277_24 lay σ r0 i1 i2 i3 i4).trans h) hg
noncomputable def zb_277_51 (lay : zm_Lay) (σ : zm_Sig) (r0 : Nat) (i1 : Int32) (i2 : Int32) (i3 : Int32) (l4 : Int64) (i6 : Int32) : Option (zm_St ⊕ zm_Out) :=
  if i3 ≤ i6 then ((zm_is lay r0 10).bind fun _ => (zm_ai (zM 275 [.ref r0, .long l4, .long (i3 : Int32).toInt64] lay σ)).bind fun q1 =>
   some (.inr (some (.int q1.1), q1.2.1, q1.2.2)))
  else ((zm_is lay r0 10).bind fun _ => (zm_fw σ r0 40 0 (.int 0)).bind fun s2 =>
   some (.inl (72, [(0, .ref r0), (1, .int i1), (2, .int i2), (3, .int i3), (4, .long l4), (6, .int i6), (7, .int i6), (8, .int i1), (9, .int 0)], [], lay, s2, 0, 0)))
set_option maxRecDepth 100000 in
theorem zr_277_51 (lay : zm_Lay) (σ : zm_Sig) (r0 : Nat) (i1 : Int32) (i2 : Int32) (i3 : Int32) (l4 : Int64) (i6 : Int32) : zm_blk zM zp_277 (some .int) 0 0 zc_277 89 (zp_277.drop 31) (51, [(0, .ref r0), (1, .int i1), (2, .int i2), (3, .int i3), (4, .long l4), (6, .int i6)], [], lay, σ, 0, 0) = zb_277_51 lay σ r0 i1 i2 i3 l4 i6 := rfl
theorem zg_277_51 {lay : zm_Lay} {σ : zm_Sig} {r0 : Nat} {i1 : Int32} {i2 : Int32} {i3 : Int32} {l4 : Int64} {i6 : Int32} {out : zm_Out} {r : zm_St ⊕ zm_Out} (h : zb_277_51 lay σ r0 i1 i2 i3 l4 i6 = some r) (hg : zm_end zp_P 277 out r) : zm_go zp_P 277 (51, [(0, .ref r0), (1, .int i1), (2, .int i2), (3, .int i3), (4, .long l4), (6, .int i6)], [], lay, σ, 0, 0) out :=
  zm_blk_go (M := zd_277) rfl zs_277 89 (zp_277.drop 31) _ r (fun _ h => List.mem_of_mem_drop h) ((zr_277_51 lay σ r0 i1 i2 i3 l4 i6).trans h) hg
noncomputable def zb_277_72 (lay : zm_Lay) (σ : zm_Sig) (r0 : Nat) (i1 : Int32) (i2 : Int32) (i3 : Int32) (l4 : Int64) (i6 : Int32) (i7 : Int32) (i8 : Int32) (i9 : Int32) : Option (zm_St ⊕ zm_Out) :=
  if i2 ≤ i9 then ((zm_is lay r0 10).bind fun _ =>
   some (.inl (51, [(0, .ref r0), (1, .int i1), (2, .int i2), (3, .int i3), (4, .long (l4 + ((σ.1 r0 40) : Int32).toInt64)), (6, .int (i6 + 1))], [], lay, σ, 0, 0)))
  else ((zm_is lay r0 10).bind fun _ =>
   if (((nI 2) : Int32) * (σ.1 r0 5)) = 0 then none
   else ((zm_is lay r0 10).bind fun _ => (zm_ai (zM 204 [.ref r0, .int (i7 - i7 / (((nI 2) : Int32) * (σ.1 r0 5)) * (((nI 2) : Int32) * (σ.1 r0 5))), .int 0] lay σ)).bind fun q1 =>
   (zm_is q1.2.1 r0 10).bind fun _ =>
   if (((nI 2) : Int32) * (q1.2.2.1 r0 5)) = 0 then none
   else ((zm_is q1.2.1 r0 10).bind fun _ => (zm_av (zM 212 [.ref r0, .int i8, .int q1.1] q1.2.1 q1.2.2)).bind fun q2 =>
   (zm_is q2.1 r0 10).bind fun _ => (zm_ai (zM 205 [.ref r0, .int i8, .int q1.1] q2.1 q2.2)).bind fun q3 =>
   some (.inl (72, [(0, .ref r0), (1, .int i1), (2, .int i2), (3, .int i3), (4, .long l4), (6, .int i6), (7, .int (i7 / (((nI 2) : Int32) * (q1.2.2.1 r0 5)))), (8, .int q3.1), (9, .int (i9 + 1))], [], q3.2.1, q3.2.2, 0, 0)))))
set_option maxRecDepth 100000 in
theorem zr_277_72 (lay : zm_Lay) (σ : zm_Sig) (r0 : Nat) (i1 : Int32) (i2 : Int32) (i3 : Int32) (l4 : Int64) (i6 : Int32) (i7 : Int32) (i8 : Int32) (i9 : Int32) : zm_blk zM zp_277 (some .int) 0 0 zc_277 89 (zp_277.drop 43) (72, [(0, .ref r0), (1, .int i1), (2, .int i2), (3, .int i3), (4, .long l4), (6, .int i6), (7, .int i7), (8, .int i8), (9, .int i9)], [], lay, σ, 0, 0) = zb_277_72 lay σ r0 i1 i2 i3 l4 i6 i7 i8 i9 := rfl
theorem zg_277_72 {lay : zm_Lay} {σ : zm_Sig} {r0 : Nat} {i1 : Int32} {i2 : Int32} {i3 : Int32} {l4 : Int64} {i6 : Int32} {i7 : Int32} {i8 : Int32} {i9 : Int32} {out : zm_Out} {r : zm_St ⊕ zm_Out} (h : zb_277_72 lay σ r0 i1 i2 i3 l4 i6 i7 i8 i9 = some r) (hg : zm_end zp_P 277 out r) : zm_go zp_P 277 (72, [(0, .ref r0), (1, .int i1), (2, .int i2), (3, .int i3), (4, .long l4), (6, .int i6), (7, .int i7), (8, .int i8), (9, .int i9)], [], lay, σ, 0, 0) out :=
  zm_blk_go (M := zd_277) rfl zs_277 89 (zp_277.drop 43) _ r (fun _ h => List.mem_of_mem_drop h) ((zr_277_72 lay σ r0 i1 i2 i3 l4 i6 i7 i8 i9).trans h) hg
/-! SubgroupWriterModel.asked()I -/
theorem zs_278 : zm_srt zp_278 = true := by decide +kernel
noncomputable def zb_278_0 (lay : zm_Lay) (σ : zm_Sig) (r0 : Nat) : Option (zm_St ⊕ zm_Out) :=
  (zm_is lay r0 10).bind fun _ =>
  some (.inr (some (.int (σ.1 r0 26)), lay, σ))
set_option maxRecDepth 100000 in
theorem zr_278_0 (lay : zm_Lay) (σ : zm_Sig) (r0 : Nat) : zm_blk zM zp_278 (some .int) 0 0 zc_278 4 (zp_278.drop 0) (0, [(0, .ref r0)], [], lay, σ, 0, 0) = zb_278_0 lay σ r0 := rfl
theorem ze_278 {lay : zm_Lay} {σ : zm_Sig} {r0 : Nat} {out : zm_Out} {r : zm_St ⊕ zm_Out} (h : zb_278_0 lay σ r0 = some r) (hg : zm_end zp_P 278 out r) : zM 278 [.ref r0] lay σ = some out :=
  zm_mean_go (M := zd_278) rfl (Nat.le_of_ble_eq_true rfl) (zm_blk_go (M := zd_278) rfl zs_278 4 (zp_278.drop 0) _ r (fun _ h => List.mem_of_mem_drop h) ((zr_278_0 lay σ r0).trans h) hg)
/-! SubgroupWriterModel.upper()J -/
theorem zs_279 : zm_srt zp_279 = true := by decide +kernel
noncomputable def zb_279_0 (lay : zm_Lay) (σ : zm_Sig) (r0 : Nat) : Option (zm_St ⊕ zm_Out) :=
  (zm_is lay r0 10).bind fun _ =>
  some (.inr (some (.long (σ.2.1 r0 27)), lay, σ))
set_option maxRecDepth 100000 in
theorem zr_279_0 (lay : zm_Lay) (σ : zm_Sig) (r0 : Nat) : zm_blk zM zp_279 (some .long) 0 0 zc_279 4 (zp_279.drop 0) (0, [(0, .ref r0)], [], lay, σ, 0, 0) = zb_279_0 lay σ r0 := rfl
theorem ze_279 {lay : zm_Lay} {σ : zm_Sig} {r0 : Nat} {out : zm_Out} {r : zm_St ⊕ zm_Out} (h : zb_279_0 lay σ r0 = some r) (hg : zm_end zp_P 279 out r) : zM 279 [.ref r0] lay σ = some out :=
  zm_mean_go (M := zd_279) rfl (Nat.le_of_ble_eq_true rfl) (zm_blk_go (M := zd_279) rfl zs_279 4 (zp_279.drop 0) _ r (fun _ h => List.mem_of_mem_drop h) ((zr_279_0 lay σ r0).trans h) hg)
/-! SubgroupWriterModel.lower()J -/
theorem zs_280 : zm_srt zp_280 = true := by decide +kernel
noncomputable def zb_280_0 (lay : zm_Lay) (σ : zm_Sig) (r0 : Nat) : Option (zm_St ⊕ zm_Out) :=
  (zm_is lay r0 10).bind fun _ =>
  some (.inr (some (.long (σ.2.1 r0 28)), lay, σ))
set_option maxRecDepth 100000 in
theorem zr_280_0 (lay : zm_Lay) (σ : zm_Sig) (r0 : Nat) : zm_blk zM zp_280 (some .long) 0 0 zc_280 4 (zp_280.drop 0) (0, [(0, .ref r0)], [], lay, σ, 0, 0) = zb_280_0 lay σ r0 := rfl
theorem ze_280 {lay : zm_Lay} {σ : zm_Sig} {r0 : Nat} {out : zm_Out} {r : zm_St ⊕ zm_Out} (h : zb_280_0 lay σ r0 = some r) (hg : zm_end zp_P 280 out r) : zM 280 [.ref r0] lay σ = some out :=
  zm_mean_go (M := zd_280) rfl (Nat.le_of_ble_eq_true rfl) (zm_blk_go (M := zd_280) rfl zs_280 4 (zp_280.drop 0) _ r (fun _ h => List.mem_of_mem_drop h) ((zr_280_0 lay σ r0).trans h) hg)
/-! SubgroupWriterModel.count(I)I -/
theorem zs_281 : zm_srt zp_281 = true := by decide +kernel
noncomputable def zb_281_0 (lay : zm_Lay) (σ : zm_Sig) (r0 : Nat) (i1 : Int32) : Option (zm_St ⊕ zm_Out) :=
  if i1 = 0 then ((zm_is lay r0 10).bind fun _ =>
   some (.inr (some (.int (σ.1 r0 4)), lay, σ)))
  else if i1 = 1 then ((zm_is lay r0 10).bind fun _ =>
   some (.inr (some (.int (σ.1 r0 5)), lay, σ)))
  else if i1 = (nI 2) then ((zm_is lay r0 10).bind fun _ =>
   some (.inr (some (.int (σ.1 r0 6)), lay, σ)))
  else if i1 = (nI 3) then ((zm_is lay r0 10).bind fun _ =>
   zm_opt (σ.2.2 r0 21) (fun q1 =>
   (zm_gI lay σ q1 0).bind fun v2 =>
   some (.inr (some (.int v2), lay, σ))) (none))
  else if i1 = (nI 4) then ((zm_is lay r0 10).bind fun _ =>
   some (.inr (some (.int (σ.1 r0 20)), lay, σ)))
  else if i1 = (nI 5) then ((zm_is lay r0 10).bind fun _ =>
   zm_opt (σ.2.2 r0 21) (fun q3 =>
   (zm_gI lay σ q3 (nI 2)).bind fun v4 =>
   some (.inr (some (.int v4), lay, σ))) (none))
  else if i1 = (nI 6) then ((zm_is lay r0 10).bind fun _ =>
   zm_opt (σ.2.2 r0 21) (fun q5 =>
   (zm_gI lay σ q5 1).bind fun v6 =>
   some (.inr (some (.int v6), lay, σ))) (none))
  else if i1 = (nI 7) then ((zm_is lay r0 10).bind fun _ => (zm_ai (zM 282 [.ref r0] lay σ)).bind fun q7 =>
   some (.inr (some (.int q7.1), q7.2.1, q7.2.2)))
  else if i1 = (nI 8) then ((zm_is lay r0 10).bind fun _ =>
   some (.inr (some (.int (σ.1 r0 23)), lay, σ)))
  else if i1 = (nI 9) then ((zm_is lay r0 10).bind fun _ => (zm_ai (zM 283 [.ref r0, .int (nI 3)] lay σ)).bind fun q8 =>
   some (.inr (some (.int q8.1), q8.2.1, q8.2.2)))
  else if i1 = (nI 10) then ((zm_is lay r0 10).bind fun _ => (zm_ai (zM 283 [.ref r0, .int (nI 4)] lay σ)).bind fun q9 =>
   some (.inr (some (.int q9.1), q9.2.1, q9.2.2)))
  else if i1 = (nI 11) then ((zm_is lay r0 10).bind fun _ =>
   zm_opt (σ.2.2 r0 0) (fun q10 =>
   (zm_ai (zM 284 [.ref q10] lay σ)).bind fun q11 =>
   some (.inr (some (.int q11.1), q11.2.1, q11.2.2))) (none))
  else if i1 = (nI 12) then ((zm_is lay r0 10).bind fun _ =>
   zm_opt (σ.2.2 r0 2) (fun q12 =>
   (zm_ai (zM 284 [.ref q12] lay σ)).bind fun q13 =>
   some (.inr (some (.int q13.1), q13.2.1, q13.2.2))) (none))
  else if i1 = (nI 13) then ((zm_is lay r0 10).bind fun _ => (zm_ai (zM 285 [.ref r0] lay σ)).bind fun q14 =>
   some (.inr (some (.int q14.1), q14.2.1, q14.2.2)))
  else (some (.inr (some (.int (-1)), lay, σ)))
set_option maxRecDepth 100000 in
theorem zr_281_0 (lay : zm_Lay) (σ : zm_Sig) (r0 : Nat) (i1 : Int32) : zm_blk zM zp_281 (some .int) 0 0 zc_281 57 (zp_281.drop 0) (0, [(0, .ref r0), (1, .int i1)], [], lay, σ, 0, 0) = zb_281_0 lay σ r0 i1 := rfl
theorem ze_281 {lay : zm_Lay} {σ : zm_Sig} {r0 : Nat} {i1 : Int32} {out : zm_Out} {r : zm_St ⊕ zm_Out} (h : zb_281_0 lay σ r0 i1 = some r) (hg : zm_end zp_P 281 out r) : zM 281 [.ref r0, .int i1] lay σ = some out :=
  zm_mean_go (M := zd_281) rfl (Nat.le_of_ble_eq_true rfl) (zm_blk_go (M := zd_281) rfl zs_281 57 (zp_281.drop 0) _ r (fun _ h => List.mem_of_mem_drop h) ((zr_281_0 lay σ r0 i1).trans h) hg)
/-! SubgroupWriterModel.allSigns()I -/
theorem zs_282 : zm_srt zp_282 = true := by decide +kernel
noncomputable def zb_282_0 (lay : zm_Lay) (σ : zm_Sig) (r0 : Nat) : Option (zm_St ⊕ zm_Out) :=
  some (.inl (4, [(0, .ref r0), (1, .int 0), (2, .int 0)], [], lay, σ, 0, 0))
set_option maxRecDepth 100000 in
theorem zr_282_0 (lay : zm_Lay) (σ : zm_Sig) (r0 : Nat) : zm_blk zM zp_282 (some .int) 0 0 zc_282 24 (zp_282.drop 0) (0, [(0, .ref r0)], [], lay, σ, 0, 0) = zb_282_0 lay σ r0 := rfl
theorem ze_282 {lay : zm_Lay} {σ : zm_Sig} {r0 : Nat} {out : zm_Out} {r : zm_St ⊕ zm_Out} (h : zb_282_0 lay σ r0 = some r) (hg : zm_end zp_P 282 out r) : zM 282 [.ref r0] lay σ = some out :=
  zm_mean_go (M := zd_282) rfl (Nat.le_of_ble_eq_true rfl) (zm_blk_go (M := zd_282) rfl zs_282 24 (zp_282.drop 0) _ r (fun _ h => List.mem_of_mem_drop h) ((zr_282_0 lay σ r0).trans h) hg)
noncomputable def zb_282_4 (lay : zm_Lay) (σ : zm_Sig) (r0 : Nat) (i1 : Int32) (i2 : Int32) : Option (zm_St ⊕ zm_Out) :=
  (zm_is lay r0 10).bind fun _ =>
  zm_opt (σ.2.2 r0 21) (fun q1 =>
  (zm_gI lay σ q1 1).bind fun v2 =>
  if v2 ≤ i2 then (some (.inr (some (.int i1), lay, σ)))
  else ((zm_is lay r0 10).bind fun _ =>
   zm_opt (σ.2.2 r0 21) (fun q3 =>
   (zm_gI lay σ q3 (((nI 3) : Int32) + i2)).bind fun v4 =>
   some (.inl (4, [(0, .ref r0), (1, .int (i1 + v4)), (2, .int (i2 + 1))], [], lay, σ, 0, 0))) (none))) (none)
set_option maxRecDepth 100000 in
theorem zr_282_4 (lay : zm_Lay) (σ : zm_Sig) (r0 : Nat) (i1 : Int32) (i2 : Int32) : zm_blk zM zp_282 (some .int) 0 0 zc_282 24 (zp_282.drop 4) (4, [(0, .ref r0), (1, .int i1), (2, .int i2)], [], lay, σ, 0, 0) = zb_282_4 lay σ r0 i1 i2 := rfl
theorem zg_282_4 {lay : zm_Lay} {σ : zm_Sig} {r0 : Nat} {i1 : Int32} {i2 : Int32} {out : zm_Out} {r : zm_St ⊕ zm_Out} (h : zb_282_4 lay σ r0 i1 i2 = some r) (hg : zm_end zp_P 282 out r) : zm_go zp_P 282 (4, [(0, .ref r0), (1, .int i1), (2, .int i2)], [], lay, σ, 0, 0) out :=
  zm_blk_go (M := zd_282) rfl zs_282 24 (zp_282.drop 4) _ r (fun _ h => List.mem_of_mem_drop h) ((zr_282_4 lay σ r0 i1 i2).trans h) hg
/-! SubgroupWriterModel.those(I)I -/
theorem zs_283 : zm_srt zp_283 = true := by decide +kernel
noncomputable def zb_283_0 (lay : zm_Lay) (σ : zm_Sig) (r0 : Nat) (i1 : Int32) : Option (zm_St ⊕ zm_Out) :=
  some (.inl (4, [(0, .ref r0), (1, .int i1), (2, .int 0), (3, .int 0)], [], lay, σ, 0, 0))
set_option maxRecDepth 100000 in
theorem zr_283_0 (lay : zm_Lay) (σ : zm_Sig) (r0 : Nat) (i1 : Int32) : zm_blk zM zp_283 (some .int) 0 0 zc_283 28 (zp_283.drop 0) (0, [(0, .ref r0), (1, .int i1)], [], lay, σ, 0, 0) = zb_283_0 lay σ r0 i1 := rfl
theorem ze_283 {lay : zm_Lay} {σ : zm_Sig} {r0 : Nat} {i1 : Int32} {out : zm_Out} {r : zm_St ⊕ zm_Out} (h : zb_283_0 lay σ r0 i1 = some r) (hg : zm_end zp_P 283 out r) : zM 283 [.ref r0, .int i1] lay σ = some out :=
  zm_mean_go (M := zd_283) rfl (Nat.le_of_ble_eq_true rfl) (zm_blk_go (M := zd_283) rfl zs_283 28 (zp_283.drop 0) _ r (fun _ h => List.mem_of_mem_drop h) ((zr_283_0 lay σ r0 i1).trans h) hg)
noncomputable def zb_283_4 (lay : zm_Lay) (σ : zm_Sig) (r0 : Nat) (i1 : Int32) (i2 : Int32) (i3 : Int32) : Option (zm_St ⊕ zm_Out) :=
  (zm_is lay r0 10).bind fun _ =>
  (zm_is lay r0 10).bind fun _ =>
  if ((σ.1 r0 4) * (σ.1 r0 5)) ≤ i3 then (some (.inr (some (.int i2), lay, σ)))
  else ((zm_is lay r0 10).bind fun _ =>
   zm_opt (σ.2.2 r0 17) (fun q1 =>
   (zm_gI lay σ q1 i3).bind fun v2 =>
   if ¬ v2 = i1 then (some (.inl (4, [(0, .ref r0), (1, .int i1), (2, .int (i2 + 0)), (3, .int (i3 + 1))], [], lay, σ, 0, 0)))
   else (some (.inl (4, [(0, .ref r0), (1, .int i1), (2, .int (i2 + 1)), (3, .int (i3 + 1))], [], lay, σ, 0, 0)))) (none))
set_option maxRecDepth 100000 in
theorem zr_283_4 (lay : zm_Lay) (σ : zm_Sig) (r0 : Nat) (i1 : Int32) (i2 : Int32) (i3 : Int32) : zm_blk zM zp_283 (some .int) 0 0 zc_283 28 (zp_283.drop 4) (4, [(0, .ref r0), (1, .int i1), (2, .int i2), (3, .int i3)], [], lay, σ, 0, 0) = zb_283_4 lay σ r0 i1 i2 i3 := rfl
theorem zg_283_4 {lay : zm_Lay} {σ : zm_Sig} {r0 : Nat} {i1 : Int32} {i2 : Int32} {i3 : Int32} {out : zm_Out} {r : zm_St ⊕ zm_Out} (h : zb_283_4 lay σ r0 i1 i2 i3 = some r) (hg : zm_end zp_P 283 out r) : zm_go zp_P 283 (4, [(0, .ref r0), (1, .int i1), (2, .int i2), (3, .int i3)], [], lay, σ, 0, 0) out :=
  zm_blk_go (M := zd_283) rfl zs_283 28 (zp_283.drop 4) _ r (fun _ h => List.mem_of_mem_drop h) ((zr_283_4 lay σ r0 i1 i2 i3).trans h) hg
/-! SubgroupWriterModel.there([I)I -/
theorem zs_284 : zm_srt zp_284 = true := by decide +kernel
noncomputable def zb_284_0 (lay : zm_Lay) (σ : zm_Sig) (r0 : Nat) : Option (zm_St ⊕ zm_Out) :=
  some (.inl (4, [(0, .ref r0), (1, .int 0), (2, .int 0)], [], lay, σ, 0, 0))
set_option maxRecDepth 100000 in
theorem zr_284_0 (lay : zm_Lay) (σ : zm_Sig) (r0 : Nat) : zm_blk zM zp_284 (some .int) 0 0 zc_284 23 (zp_284.drop 0) (0, [(0, .ref r0)], [], lay, σ, 0, 0) = zb_284_0 lay σ r0 := rfl
theorem ze_284 {lay : zm_Lay} {σ : zm_Sig} {r0 : Nat} {out : zm_Out} {r : zm_St ⊕ zm_Out} (h : zb_284_0 lay σ r0 = some r) (hg : zm_end zp_P 284 out r) : zM 284 [.ref r0] lay σ = some out :=
  zm_mean_go (M := zd_284) rfl (Nat.le_of_ble_eq_true rfl) (zm_blk_go (M := zd_284) rfl zs_284 23 (zp_284.drop 0) _ r (fun _ h => List.mem_of_mem_drop h) ((zr_284_0 lay σ r0).trans h) hg)
noncomputable def zb_284_4 (lay : zm_Lay) (σ : zm_Sig) (r0 : Nat) (i1 : Int32) (i2 : Int32) : Option (zm_St ⊕ zm_Out) :=
  (zm_len lay r0).bind fun v1 =>
  if v1 ≤ i2 then (some (.inr (some (.int i1), lay, σ)))
  else ((zm_gI lay σ r0 i2).bind fun v2 =>
   if (0 : Int32) ≤ v2 then (some (.inl (4, [(0, .ref r0), (1, .int (i1 + 1)), (2, .int (i2 + 1))], [], lay, σ, 0, 0)))
   else (some (.inl (4, [(0, .ref r0), (1, .int (i1 + 0)), (2, .int (i2 + 1))], [], lay, σ, 0, 0))))
set_option maxRecDepth 100000 in
theorem zr_284_4 (lay : zm_Lay) (σ : zm_Sig) (r0 : Nat) (i1 : Int32) (i2 : Int32) : zm_blk zM zp_284 (some .int) 0 0 zc_284 23 (zp_284.drop 4) (4, [(0, .ref r0), (1, .int i1), (2, .int i2)], [], lay, σ, 0, 0) = zb_284_4 lay σ r0 i1 i2 := rfl
theorem zg_284_4 {lay : zm_Lay} {σ : zm_Sig} {r0 : Nat} {i1 : Int32} {i2 : Int32} {out : zm_Out} {r : zm_St ⊕ zm_Out} (h : zb_284_4 lay σ r0 i1 i2 = some r) (hg : zm_end zp_P 284 out r) : zm_go zp_P 284 (4, [(0, .ref r0), (1, .int i1), (2, .int i2)], [], lay, σ, 0, 0) out :=
  zm_blk_go (M := zd_284) rfl zs_284 23 (zp_284.drop 4) _ r (fun _ h => List.mem_of_mem_drop h) ((zr_284_4 lay σ r0 i1 i2).trans h) hg
/-! SubgroupWriterModel.keptMany()I -/
theorem zs_285 : zm_srt zp_285 = true := by decide +kernel
noncomputable def zb_285_0 (lay : zm_Lay) (σ : zm_Sig) (r0 : Nat) : Option (zm_St ⊕ zm_Out) :=
  some (.inl (4, [(0, .ref r0), (1, .int 0), (2, .int 0)], [], lay, σ, 0, 0))
set_option maxRecDepth 100000 in
theorem zr_285_0 (lay : zm_Lay) (σ : zm_Sig) (r0 : Nat) : zm_blk zM zp_285 (some .int) 0 0 zc_285 23 (zp_285.drop 0) (0, [(0, .ref r0)], [], lay, σ, 0, 0) = zb_285_0 lay σ r0 := rfl
theorem ze_285 {lay : zm_Lay} {σ : zm_Sig} {r0 : Nat} {out : zm_Out} {r : zm_St ⊕ zm_Out} (h : zb_285_0 lay σ r0 = some r) (hg : zm_end zp_P 285 out r) : zM 285 [.ref r0] lay σ = some out :=
  zm_mean_go (M := zd_285) rfl (Nat.le_of_ble_eq_true rfl) (zm_blk_go (M := zd_285) rfl zs_285 23 (zp_285.drop 0) _ r (fun _ h => List.mem_of_mem_drop h) ((zr_285_0 lay σ r0).trans h) hg)
noncomputable def zb_285_4 (lay : zm_Lay) (σ : zm_Sig) (r0 : Nat) (i1 : Int32) (i2 : Int32) : Option (zm_St ⊕ zm_Out) :=
  if ((nI 3) : Int32) ≤ i2 then (some (.inr (some (.int i1), lay, σ)))
  else ((zm_is lay r0 10).bind fun _ =>
   zm_opt (σ.2.2 r0 25) (fun q1 =>
   (zm_gZ lay σ q1 i2).bind fun v2 =>
   if v2 = 0 then (some (.inl (4, [(0, .ref r0), (1, .int (i1 + 0)), (2, .int (i2 + 1))], [], lay, σ, 0, 0)))
   else (some (.inl (4, [(0, .ref r0), (1, .int (i1 + 1)), (2, .int (i2 + 1))], [], lay, σ, 0, 0)))) (none))
set_option maxRecDepth 100000 in
theorem zr_285_4 (lay : zm_Lay) (σ : zm_Sig) (r0 : Nat) (i1 : Int32) (i2 : Int32) : zm_blk zM zp_285 (some .int) 0 0 zc_285 23 (zp_285.drop 4) (4, [(0, .ref r0), (1, .int i1), (2, .int i2)], [], lay, σ, 0, 0) = zb_285_4 lay σ r0 i1 i2 := rfl
theorem zg_285_4 {lay : zm_Lay} {σ : zm_Sig} {r0 : Nat} {i1 : Int32} {i2 : Int32} {out : zm_Out} {r : zm_St ⊕ zm_Out} (h : zb_285_4 lay σ r0 i1 i2 = some r) (hg : zm_end zp_P 285 out r) : zm_go zp_P 285 (4, [(0, .ref r0), (1, .int i1), (2, .int i2)], [], lay, σ, 0, 0) out :=
  zm_blk_go (M := zd_285) rfl zs_285 23 (zp_285.drop 4) _ r (fun _ h => List.mem_of_mem_drop h) ((zr_285_4 lay σ r0 i1 i2).trans h) hg
/-! SubgroupWriterModel.finding()I -/
theorem zs_286 : zm_srt zp_286 = true := by decide +kernel
noncomputable def zb_286_0 (lay : zm_Lay) (σ : zm_Sig) (r0 : Nat) : Option (zm_St ⊕ zm_Out) :=
  (zm_is lay r0 10).bind fun _ =>
  some (.inr (some (.int (σ.1 r0 29)), lay, σ))
set_option maxRecDepth 100000 in
theorem zr_286_0 (lay : zm_Lay) (σ : zm_Sig) (r0 : Nat) : zm_blk zM zp_286 (some .int) 0 0 zc_286 4 (zp_286.drop 0) (0, [(0, .ref r0)], [], lay, σ, 0, 0) = zb_286_0 lay σ r0 := rfl
theorem ze_286 {lay : zm_Lay} {σ : zm_Sig} {r0 : Nat} {out : zm_Out} {r : zm_St ⊕ zm_Out} (h : zb_286_0 lay σ r0 = some r) (hg : zm_end zp_P 286 out r) : zM 286 [.ref r0] lay σ = some out :=
  zm_mean_go (M := zd_286) rfl (Nat.le_of_ble_eq_true rfl) (zm_blk_go (M := zd_286) rfl zs_286 4 (zp_286.drop 0) _ r (fun _ h => List.mem_of_mem_drop h) ((zr_286_0 lay σ r0).trans h) hg)
/-! SubgroupWriterModel.findings(I)I -/
theorem zs_287 : zm_srt zp_287 = true := by decide +kernel
noncomputable def zb_287_0 (lay : zm_Lay) (σ : zm_Sig) (r0 : Nat) (i1 : Int32) : Option (zm_St ⊕ zm_Out) :=
  (zm_ai (zM 176 [.int i1, .int 1, .int (nI 5)] lay σ)).bind fun q1 =>
  if q1.1 = 0 then (some (.inr (some (.int (-1)), q1.2.1, q1.2.2)))
  else ((zm_is q1.2.1 r0 10).bind fun _ =>
   zm_opt (q1.2.2.2.2 r0 30) (fun q2 =>
   (zm_gI q1.2.1 q1.2.2 q2 i1).bind fun v3 =>
   some (.inr (some (.int v3), q1.2.1, q1.2.2))) (none))
set_option maxRecDepth 100000 in
theorem zr_287_0 (lay : zm_Lay) (σ : zm_Sig) (r0 : Nat) (i1 : Int32) : zm_blk zM zp_287 (some .int) 0 0 zc_287 13 (zp_287.drop 0) (0, [(0, .ref r0), (1, .int i1)], [], lay, σ, 0, 0) = zb_287_0 lay σ r0 i1 := rfl
theorem ze_287 {lay : zm_Lay} {σ : zm_Sig} {r0 : Nat} {i1 : Int32} {out : zm_Out} {r : zm_St ⊕ zm_Out} (h : zb_287_0 lay σ r0 i1 = some r) (hg : zm_end zp_P 287 out r) : zM 287 [.ref r0, .int i1] lay σ = some out :=
  zm_mean_go (M := zd_287) rfl (Nat.le_of_ble_eq_true rfl) (zm_blk_go (M := zd_287) rfl zs_287 13 (zp_287.drop 0) _ r (fun _ h => List.mem_of_mem_drop h) ((zr_287_0 lay σ r0 i1).trans h) hg)
