/-! SubgroupWriter.rule(II)I -/
theorem zs_93 : zm_srt zp_93 = true := by decide +kernel
noncomputable def zb_93_0 (lay : zm_Lay) (σ : zm_Sig) (r0 : Nat) (i1 : Int32) (i2 : Int32) : Option (zm_St ⊕ zm_Out) :=
  (zm_is lay r0 9).bind fun _ =>
  zm_opt (σ.2.2 r0 3) (fun q1 =>
  (zm_is lay q1 0).bind fun _ =>
  zm_opt (σ.2.2 q1 1) (fun q2 =>
  (zm_is lay q2 4).bind fun _ => (zm_ai (zM 94 [.ref q2, .int i1] lay σ)).bind fun q3 =>
  if q3.1 = 0 then (some (.inr (some (.int (-1)), q3.2.1, q3.2.2)))
  else (if i2 < 0 then (some (.inr (some (.int (-1)), q3.2.1, q3.2.2)))
   else ((zm_is q3.2.1 r0 9).bind fun _ =>
    zm_opt (q3.2.2.2.2 r0 3) (fun q4 =>
    (zm_is q3.2.1 q4 0).bind fun _ =>
    zm_opt (q3.2.2.2.2 q4 1) (fun q5 =>
    (zm_is q3.2.1 q5 4).bind fun _ =>
    zm_opt (q3.2.2.2.2 q5 1) (fun q6 =>
    (zm_gI q3.2.1 q3.2.2 q6 i1).bind fun v7 =>
    if i2 < v7 then ((zm_is q3.2.1 r0 9).bind fun _ =>
     zm_opt (q3.2.2.2.2 r0 3) (fun q8 =>
     (zm_is q3.2.1 q8 0).bind fun _ =>
     zm_opt (q3.2.2.2.2 q8 1) (fun q9 =>
     (zm_is q3.2.1 q9 4).bind fun _ =>
     zm_opt (q3.2.2.2.2 q9 0) (fun q10 =>
     (zm_gR q3.2.1 q3.2.2 q10 i1).bind fun o11 => zm_opt o11 (fun q12 =>
     (zm_gI q3.2.1 q3.2.2 q12 i2).bind fun v13 =>
     (zm_is q3.2.1 r0 9).bind fun _ => (zm_ai (zM 20 [.ref r0, .int v13] q3.2.1 q3.2.2)).bind fun q14 =>
     (zm_is q14.2.1 r0 9).bind fun _ =>
     zm_opt (q14.2.2.2.2 r0 3) (fun q15 =>
     (zm_is q14.2.1 q15 0).bind fun _ =>
     zm_opt (q14.2.2.2.2 q15 1) (fun q16 =>
     (zm_is q14.2.1 q16 4).bind fun _ =>
     zm_opt (q14.2.2.2.2 q16 1) (fun q17 =>
     (zm_gI q14.2.1 q14.2.2 q17 i1).bind fun v18 =>
     some (.inr (some (.int v18), q14.2.1, q14.2.2))) (none)) (none)) (none)) none) (none)) (none)) (none))
    else (some (.inr (some (.int (-1)), q3.2.1, q3.2.2)))) (none)) (none)) (none)))) (none)) (none)
set_option maxRecDepth 100000 in
theorem zr_93_0 (lay : zm_Lay) (σ : zm_Sig) (r0 : Nat) (i1 : Int32) (i2 : Int32) : zm_blk zM zp_93 (some .int) 0 0 zc_93 37 (zp_93.drop 0) (0, [(0, .ref r0), (1, .int i1), (2, .int i2)], [], lay, σ, 0, 0) = zb_93_0 lay σ r0 i1 i2 := rfl
theorem ze_93 {lay : zm_Lay} {σ : zm_Sig} {r0 : Nat} {i1 : Int32} {i2 : Int32} {out : zm_Out} {r : zm_St ⊕ zm_Out} (h : zb_93_0 lay σ r0 i1 i2 = some r) (hg : zm_end zp_P 93 out r) : zM 93 [.ref r0, .int i1, .int i2] lay σ = some out :=
  zm_mean_go (M := zd_93) rfl (Nat.le_of_ble_eq_true rfl) (zm_blk_go (M := zd_93) rfl zs_93 37 (zp_93.drop 0) _ r (fun _ h => List.mem_of_mem_drop h) ((zr_93_0 lay σ r0 i1 i2).trans h) hg)
/-! SubgroupWriter$Rules.isRule(I)Z -/
theorem zs_94 : zm_srt zp_94 = true := by decide +kernel
noncomputable def zb_94_0 (lay : zm_Lay) (σ : zm_Sig) (r0 : Nat) (i1 : Int32) : Option (zm_St ⊕ zm_Out) :=
  if i1 < 0 then (some (.inr (some (.int 0), lay, σ)))
  else ((zm_is lay r0 4).bind fun _ =>
   if (σ.1 r0 2) ≤ i1 then (some (.inr (some (.int 0), lay, σ)))
   else (some (.inr (some (.int 1), lay, σ))))
set_option maxRecDepth 100000 in
theorem zr_94_0 (lay : zm_Lay) (σ : zm_Sig) (r0 : Nat) (i1 : Int32) : zm_blk zM zp_94 (some .boolean) 0 0 zc_94 11 (zp_94.drop 0) (0, [(0, .ref r0), (1, .int i1)], [], lay, σ, 0, 0) = zb_94_0 lay σ r0 i1 := rfl
theorem ze_94 {lay : zm_Lay} {σ : zm_Sig} {r0 : Nat} {i1 : Int32} {out : zm_Out} {r : zm_St ⊕ zm_Out} (h : zb_94_0 lay σ r0 i1 = some r) (hg : zm_end zp_P 94 out r) : zM 94 [.ref r0, .int i1] lay σ = some out :=
  zm_mean_go (M := zd_94) rfl (Nat.le_of_ble_eq_true rfl) (zm_blk_go (M := zd_94) rfl zs_94 11 (zp_94.drop 0) _ r (fun _ h => List.mem_of_mem_drop h) ((zr_94_0 lay σ r0 i1).trans h) hg)
/-! SubgroupWriter.often(II)I -/
theorem zs_95 : zm_srt zp_95 = true := by decide +kernel
noncomputable def zb_95_0 (lay : zm_Lay) (σ : zm_Sig) (r0 : Nat) (i1 : Int32) (i2 : Int32) : Option (zm_St ⊕ zm_Out) :=
  (zm_is lay r0 9).bind fun _ =>
  zm_opt (σ.2.2 r0 3) (fun q1 =>
  (zm_is lay q1 0).bind fun _ =>
  zm_opt (σ.2.2 q1 1) (fun q2 =>
  (zm_is lay q2 4).bind fun _ => (zm_ai (zM 94 [.ref q2, .int i1] lay σ)).bind fun q3 =>
  if q3.1 = 0 then (some (.inr (some (.int (-1)), q3.2.1, q3.2.2)))
  else ((zm_is q3.2.1 r0 9).bind fun _ =>
   zm_opt (q3.2.2.2.2 r0 3) (fun q4 =>
   (zm_is q3.2.1 q4 0).bind fun _ =>
   zm_opt (q3.2.2.2.2 q4 1) (fun q5 =>
   (zm_is q3.2.1 q5 4).bind fun _ => (zm_ai (zM 83 [.ref q5, .int i2] q3.2.1 q3.2.2)).bind fun q6 =>
   if ¬ q6.1 = 0 then ((zm_is q6.2.1 r0 9).bind fun _ =>
    zm_opt (q6.2.2.2.2 r0 3) (fun q7 =>
    (zm_is q6.2.1 q7 0).bind fun _ =>
    zm_opt (q6.2.2.2.2 q7 1) (fun q8 =>
    (zm_is q6.2.1 q8 4).bind fun _ => (zm_ai (zM 96 [.ref q8, .int i1, .int i2] q6.2.1 q6.2.2)).bind fun q9 =>
    (zm_is q9.2.1 r0 9).bind fun _ => (zm_ai (zM 20 [.ref r0, .int q9.1] q9.2.1 q9.2.2)).bind fun q10 =>
    (zm_is q10.2.1 r0 9).bind fun _ =>
    zm_opt (q10.2.2.2.2 r0 3) (fun q11 =>
    (zm_is q10.2.1 q11 0).bind fun _ =>
    zm_opt (q10.2.2.2.2 q11 1) (fun q12 =>
    (zm_is q10.2.1 q12 4).bind fun _ => (zm_ai (zM 97 [.ref q12, .int i1, .int i2] q10.2.1 q10.2.2)).bind fun q13 =>
    some (.inr (some (.int q13.1), q13.2.1, q13.2.2))) (none)) (none)) (none)) (none))
   else (some (.inr (some (.int (-1)), q6.2.1, q6.2.2)))) (none)) (none))) (none)) (none)
set_option maxRecDepth 100000 in
theorem zr_95_0 (lay : zm_Lay) (σ : zm_Sig) (r0 : Nat) (i1 : Int32) (i2 : Int32) : zm_blk zM zp_95 (some .int) 0 0 zc_95 31 (zp_95.drop 0) (0, [(0, .ref r0), (1, .int i1), (2, .int i2)], [], lay, σ, 0, 0) = zb_95_0 lay σ r0 i1 i2 := rfl
theorem ze_95 {lay : zm_Lay} {σ : zm_Sig} {r0 : Nat} {i1 : Int32} {i2 : Int32} {out : zm_Out} {r : zm_St ⊕ zm_Out} (h : zb_95_0 lay σ r0 i1 i2 = some r) (hg : zm_end zp_P 95 out r) : zM 95 [.ref r0, .int i1, .int i2] lay σ = some out :=
  zm_mean_go (M := zd_95) rfl (Nat.le_of_ble_eq_true rfl) (zm_blk_go (M := zd_95) rfl zs_95 31 (zp_95.drop 0) _ r (fun _ h => List.mem_of_mem_drop h) ((zr_95_0 lay σ r0 i1 i2).trans h) hg)
/-! SubgroupWriter$Rules.sumOf(II)I -/
theorem zs_96 : zm_srt zp_96 = true := by decide +kernel
noncomputable def zb_96_0 (lay : zm_Lay) (σ : zm_Sig) (r0 : Nat) (i1 : Int32) (i2 : Int32) : Option (zm_St ⊕ zm_Out) :=
  some (.inl (5, [(0, .ref r0), (1, .int i1), (2, .int i2), (3, .int 0), (4, .int 0)], [], lay, σ, 0, 0))
set_option maxRecDepth 100000 in
theorem zr_96_0 (lay : zm_Lay) (σ : zm_Sig) (r0 : Nat) (i1 : Int32) (i2 : Int32) : zm_blk zM zp_96 (some .int) 0 0 zc_96 34 (zp_96.drop 0) (0, [(0, .ref r0), (1, .int i1), (2, .int i2)], [], lay, σ, 0, 0) = zb_96_0 lay σ r0 i1 i2 := rfl
theorem ze_96 {lay : zm_Lay} {σ : zm_Sig} {r0 : Nat} {i1 : Int32} {i2 : Int32} {out : zm_Out} {r : zm_St ⊕ zm_Out} (h : zb_96_0 lay σ r0 i1 i2 = some r) (hg : zm_end zp_P 96 out r) : zM 96 [.ref r0, .int i1, .int i2] lay σ = some out :=
  zm_mean_go (M := zd_96) rfl (Nat.le_of_ble_eq_true rfl) (zm_blk_go (M := zd_96) rfl zs_96 34 (zp_96.drop 0) _ r (fun _ h => List.mem_of_mem_drop h) ((zr_96_0 lay σ r0 i1 i2).trans h) hg)
noncomputable def zb_96_5 (lay : zm_Lay) (σ : zm_Sig) (r0 : Nat) (i1 : Int32) (i2 : Int32) (i3 : Int32) (i4 : Int32) : Option (zm_St ⊕ zm_Out) :=
  (zm_is lay r0 4).bind fun _ =>
  zm_opt (σ.2.2 r0 1) (fun q1 =>
  (zm_gI lay σ q1 i1).bind fun v2 =>
  if v2 ≤ i4 then (some (.inr (some (.int i3), lay, σ)))
  else ((zm_is lay r0 4).bind fun _ =>
   zm_opt (σ.2.2 r0 0) (fun q3 =>
   (zm_gR lay σ q3 i1).bind fun o4 => zm_opt o4 (fun q5 =>
   (zm_gI lay σ q5 i4).bind fun v6 =>
   if ¬ v6 = i2 then ((zm_is lay r0 4).bind fun _ =>
    zm_opt (σ.2.2 r0 0) (fun q7 =>
    (zm_gR lay σ q7 i1).bind fun o8 => zm_opt o8 (fun q9 =>
    (zm_gI lay σ q9 i4).bind fun v10 =>
    if ¬ v10 = (-i2) then (some (.inl (5, [(0, .ref r0), (1, .int i1), (2, .int i2), (3, .int i3), (4, .int (i4 + 1))], [], lay, σ, 0, 0)))
    else (some (.inl (5, [(0, .ref r0), (1, .int i1), (2, .int i2), (3, .int (i3 + (-1))), (4, .int (i4 + 1))], [], lay, σ, 0, 0)))) none) (none))
   else ((zm_is lay r0 4).bind fun _ =>
    zm_opt (σ.2.2 r0 0) (fun q11 =>
    (zm_gR lay σ q11 i1).bind fun o12 => zm_opt o12 (fun q13 =>
    (zm_gI lay σ q13 i4).bind fun v14 =>
    if ¬ v14 = (-i2) then (some (.inl (5, [(0, .ref r0), (1, .int i1), (2, .int i2), (3, .int (i3 + 1)), (4, .int (i4 + 1))], [], lay, σ, 0, 0)))
    else (some (.inl (5, [(0, .ref r0), (1, .int i1), (2, .int i2), (3, .int ((i3 + 1) + (-1))), (4, .int (i4 + 1))], [], lay, σ, 0, 0)))) none) (none))) none) (none))) (none)
set_option maxRecDepth 100000 in
theorem zr_96_5 (lay : zm_Lay) (σ : zm_Sig) (r0 : Nat) (i1 : Int32) (i2 : Int32) (i3 : Int32) (i4 : Int32) : zm_blk zM zp_96 (some .int) 0 0 zc_96 34 (zp_96.drop 4) (5, [(0, .ref r0), (1, .int i1), (2, .int i2), (3, .int i3), (4, .int i4)], [], lay, σ, 0, 0) = zb_96_5 lay σ r0 i1 i2 i3 i4 := rfl
theorem zg_96_5 {lay : zm_Lay} {σ : zm_Sig} {r0 : Nat} {i1 : Int32} {i2 : Int32} {i3 : Int32} {i4 : Int32} {out : zm_Out} {r : zm_St ⊕ zm_Out} (h : zb_96_5 lay σ r0 i1 i2 i3 i4 = some r) (hg : zm_end zp_P 96 out r) : zm_go zp_P 96 (5, [(0, .ref r0), (1, .int i1), (2, .int i2), (3, .int i3), (4, .int i4)], [], lay, σ, 0, 0) out :=
  zm_blk_go (M := zd_96) rfl zs_96 34 (zp_96.drop 4) _ r (fun _ h => List.mem_of_mem_drop h) ((zr_96_5 lay σ r0 i1 i2 i3 i4).trans h) hg
/-! SubgroupWriter$Rules.timesOf(II)I -/
theorem zs_97 : zm_srt zp_97 = true := by decide +kernel
noncomputable def zb_97_0 (lay : zm_Lay) (σ : zm_Sig) (r0 : Nat) (i1 : Int32) (i2 : Int32) : Option (zm_St ⊕ zm_Out) :=
  some (.inl (5, [(0, .ref r0), (1, .int i1), (2, .int i2), (3, .int 0), (4, .int 0)], [], lay, σ, 0, 0))
set_option maxRecDepth 100000 in
theorem zr_97_0 (lay : zm_Lay) (σ : zm_Sig) (r0 : Nat) (i1 : Int32) (i2 : Int32) : zm_blk zM zp_97 (some .int) 0 0 zc_97 33 (zp_97.drop 0) (0, [(0, .ref r0), (1, .int i1), (2, .int i2)], [], lay, σ, 0, 0) = zb_97_0 lay σ r0 i1 i2 := rfl
theorem ze_97 {lay : zm_Lay} {σ : zm_Sig} {r0 : Nat} {i1 : Int32} {i2 : Int32} {out : zm_Out} {r : zm_St ⊕ zm_Out} (h : zb_97_0 lay σ r0 i1 i2 = some r) (hg : zm_end zp_P 97 out r) : zM 97 [.ref r0, .int i1, .int i2] lay σ = some out :=
  zm_mean_go (M := zd_97) rfl (Nat.le_of_ble_eq_true rfl) (zm_blk_go (M := zd_97) rfl zs_97 33 (zp_97.drop 0) _ r (fun _ h => List.mem_of_mem_drop h) ((zr_97_0 lay σ r0 i1 i2).trans h) hg)
noncomputable def zb_97_5 (lay : zm_Lay) (σ : zm_Sig) (r0 : Nat) (i1 : Int32) (i2 : Int32) (i3 : Int32) (i4 : Int32) : Option (zm_St ⊕ zm_Out) :=
  (zm_is lay r0 4).bind fun _ =>
  zm_opt (σ.2.2 r0 1) (fun q1 =>
  (zm_gI lay σ q1 i1).bind fun v2 =>
  if v2 ≤ i4 then (some (.inr (some (.int i3), lay, σ)))
  else ((zm_is lay r0 4).bind fun _ =>
   zm_opt (σ.2.2 r0 0) (fun q3 =>
   (zm_gR lay σ q3 i1).bind fun o4 => zm_opt o4 (fun q5 =>
   (zm_gI lay σ q5 i4).bind fun v6 =>
   if v6 = i2 then (some (.inl (5, [(0, .ref r0), (1, .int i1), (2, .int i2), (3, .int (i3 + 1)), (4, .int (i4 + 1))], [], lay, σ, 0, 0)))
   else ((zm_is lay r0 4).bind fun _ =>
    zm_opt (σ.2.2 r0 0) (fun q7 =>
    (zm_gR lay σ q7 i1).bind fun o8 => zm_opt o8 (fun q9 =>
    (zm_gI lay σ q9 i4).bind fun v10 =>
    if ¬ v10 = (-i2) then (some (.inl (5, [(0, .ref r0), (1, .int i1), (2, .int i2), (3, .int i3), (4, .int (i4 + 1))], [], lay, σ, 0, 0)))
    else (some (.inl (5, [(0, .ref r0), (1, .int i1), (2, .int i2), (3, .int (i3 + 1)), (4, .int (i4 + 1))], [], lay, σ, 0, 0)))) none) (none))) none) (none))) (none)
set_option maxRecDepth 100000 in
theorem zr_97_5 (lay : zm_Lay) (σ : zm_Sig) (r0 : Nat) (i1 : Int32) (i2 : Int32) (i3 : Int32) (i4 : Int32) : zm_blk zM zp_97 (some .int) 0 0 zc_97 33 (zp_97.drop 4) (5, [(0, .ref r0), (1, .int i1), (2, .int i2), (3, .int i3), (4, .int i4)], [], lay, σ, 0, 0) = zb_97_5 lay σ r0 i1 i2 i3 i4 := rfl
theorem zg_97_5 {lay : zm_Lay} {σ : zm_Sig} {r0 : Nat} {i1 : Int32} {i2 : Int32} {i3 : Int32} {i4 : Int32} {out : zm_Out} {r : zm_St ⊕ zm_Out} (h : zb_97_5 lay σ r0 i1 i2 i3 i4 = some r) (hg : zm_end zp_P 97 out r) : zm_go zp_P 97 (5, [(0, .ref r0), (1, .int i1), (2, .int i2), (3, .int i3), (4, .int i4)], [], lay, σ, 0, 0) out :=
  zm_blk_go (M := zd_97) rfl zs_97 33 (zp_97.drop 4) _ r (fun _ h => List.mem_of_mem_drop h) ((zr_97_5 lay σ r0 i1 i2 i3 i4).trans h) hg
/-! SubgroupWriter.alike(II)I -/
theorem zs_98 : zm_srt zp_98 = true := by decide +kernel
noncomputable def zb_98_0 (lay : zm_Lay) (σ : zm_Sig) (r0 : Nat) (i1 : Int32) (i2 : Int32) : Option (zm_St ⊕ zm_Out) :=
  (zm_is lay r0 9).bind fun _ =>
  zm_opt (σ.2.2 r0 3) (fun q1 =>
  (zm_is lay q1 0).bind fun _ =>
  zm_opt (σ.2.2 q1 1) (fun q2 =>
  (zm_is lay q2 4).bind fun _ => (zm_ai (zM 94 [.ref q2, .int i1] lay σ)).bind fun q3 =>
  if q3.1 = 0 then (some (.inr (some (.int (-1)), q3.2.1, q3.2.2)))
  else ((zm_is q3.2.1 r0 9).bind fun _ =>
   zm_opt (q3.2.2.2.2 r0 3) (fun q4 =>
   (zm_is q3.2.1 q4 0).bind fun _ =>
   zm_opt (q3.2.2.2.2 q4 1) (fun q5 =>
   (zm_is q3.2.1 q5 4).bind fun _ => (zm_ai (zM 94 [.ref q5, .int i2] q3.2.1 q3.2.2)).bind fun q6 =>
   if q6.1 = 0 then (some (.inr (some (.int (-1)), q6.2.1, q6.2.2)))
   else (if ¬ i1 = i2 then ((zm_is q6.2.1 r0 9).bind fun _ =>
     zm_opt (q6.2.2.2.2 r0 3) (fun q7 =>
     (zm_is q6.2.1 q7 0).bind fun _ =>
     zm_opt (q6.2.2.2.2 q7 1) (fun q8 =>
     (zm_is q6.2.1 q8 4).bind fun _ => (zm_ai (zM 99 [.ref q8, .int i1, .int i2] q6.2.1 q6.2.2)).bind fun q9 =>
     if q9.1 = 0 then (some (.inr (some (.int 0), q9.2.1, q9.2.2)))
     else (some (.inr (some (.int 1), q9.2.1, q9.2.2)))) (none)) (none))
    else (some (.inr (some (.int (-1)), q6.2.1, q6.2.2))))) (none)) (none))) (none)) (none)
set_option maxRecDepth 100000 in
theorem zr_98_0 (lay : zm_Lay) (σ : zm_Sig) (r0 : Nat) (i1 : Int32) (i2 : Int32) : zm_blk zM zp_98 (some .int) 0 0 zc_98 29 (zp_98.drop 0) (0, [(0, .ref r0), (1, .int i1), (2, .int i2)], [], lay, σ, 0, 0) = zb_98_0 lay σ r0 i1 i2 := rfl
theorem ze_98 {lay : zm_Lay} {σ : zm_Sig} {r0 : Nat} {i1 : Int32} {i2 : Int32} {out : zm_Out} {r : zm_St ⊕ zm_Out} (h : zb_98_0 lay σ r0 i1 i2 = some r) (hg : zm_end zp_P 98 out r) : zM 98 [.ref r0, .int i1, .int i2] lay σ = some out :=
  zm_mean_go (M := zd_98) rfl (Nat.le_of_ble_eq_true rfl) (zm_blk_go (M := zd_98) rfl zs_98 29 (zp_98.drop 0) _ r (fun _ h => List.mem_of_mem_drop h) ((zr_98_0 lay σ r0 i1 i2).trans h) hg)
/-! SubgroupWriter$Rules.areAlike(II)Z -/
theorem zs_99 : zm_srt zp_99 = true := by decide +kernel
noncomputable def zb_99_0 (lay : zm_Lay) (σ : zm_Sig) (r0 : Nat) (i1 : Int32) (i2 : Int32) : Option (zm_St ⊕ zm_Out) :=
  (zm_is lay r0 4).bind fun _ =>
  zm_opt (σ.2.2 r0 1) (fun q1 =>
  (zm_gI lay σ q1 i1).bind fun v2 =>
  (zm_is lay r0 4).bind fun _ =>
  zm_opt (σ.2.2 r0 1) (fun q3 =>
  (zm_gI lay σ q3 i2).bind fun v4 =>
  if v2 = v4 then (if ¬ v2 = 0 then (some (.inl (28, [(0, .ref r0), (1, .int i1), (2, .int i2), (3, .int v2), (4, .int 0)], [], lay, σ, 0, 0)))
   else (some (.inr (some (.int 1), lay, σ))))
  else (some (.inr (some (.int 0), lay, σ)))) (none)) (none)
set_option maxRecDepth 100000 in
theorem zr_99_0 (lay : zm_Lay) (σ : zm_Sig) (r0 : Nat) (i1 : Int32) (i2 : Int32) : zm_blk zM zp_99 (some .boolean) 0 0 zc_99 41 (zp_99.drop 0) (0, [(0, .ref r0), (1, .int i1), (2, .int i2)], [], lay, σ, 0, 0) = zb_99_0 lay σ r0 i1 i2 := rfl
theorem ze_99 {lay : zm_Lay} {σ : zm_Sig} {r0 : Nat} {i1 : Int32} {i2 : Int32} {out : zm_Out} {r : zm_St ⊕ zm_Out} (h : zb_99_0 lay σ r0 i1 i2 = some r) (hg : zm_end zp_P 99 out r) : zM 99 [.ref r0, .int i1, .int i2] lay σ = some out :=
  zm_mean_go (M := zd_99) rfl (Nat.le_of_ble_eq_true rfl) (zm_blk_go (M := zd_99) rfl zs_99 41 (zp_99.drop 0) _ r (fun _ h => List.mem_of_mem_drop h) ((zr_99_0 lay σ r0 i1 i2).trans h) hg)
noncomputable def zb_99_28 (lay : zm_Lay) (σ : zm_Sig) (r0 : Nat) (i1 : Int32) (i2 : Int32) (i3 : Int32) (i4 : Int32) : Option (zm_St ⊕ zm_Out) :=
  if i3 ≤ i4 then (some (.inr (some (.int 0), lay, σ)))
  else ((zm_is lay r0 4).bind fun _ => (zm_ai (zM 100 [.ref r0, .int i1, .int i2, .int i4] lay σ)).bind fun q1 =>
   if ¬ q1.1 = 0 then (some (.inr (some (.int 1), q1.2.1, q1.2.2)))
   else ((zm_is q1.2.1 r0 4).bind fun _ => (zm_ai (zM 101 [.ref r0, .int i1, .int i2, .int i4] q1.2.1 q1.2.2)).bind fun q2 =>
    if q2.1 = 0 then (some (.inl (28, [(0, .ref r0), (1, .int i1), (2, .int i2), (3, .int i3), (4, .int (i4 + 1))], [], q2.2.1, q2.2.2, 0, 0)))
    else (some (.inr (some (.int 1), q2.2.1, q2.2.2)))))
set_option maxRecDepth 100000 in
theorem zr_99_28 (lay : zm_Lay) (σ : zm_Sig) (r0 : Nat) (i1 : Int32) (i2 : Int32) (i3 : Int32) (i4 : Int32) : zm_blk zM zp_99 (some .boolean) 0 0 zc_99 41 (zp_99.drop 19) (28, [(0, .ref r0), (1, .int i1), (2, .int i2), (3, .int i3), (4, .int i4)], [], lay, σ, 0, 0) = zb_99_28 lay σ r0 i1 i2 i3 i4 := rfl
theorem zg_99_28 {lay : zm_Lay} {σ : zm_Sig} {r0 : Nat} {i1 : Int32} {i2 : Int32} {i3 : Int32} {i4 : Int32} {out : zm_Out} {r : zm_St ⊕ zm_Out} (h : zb_99_28 lay σ r0 i1 i2 i3 i4 = some r) (hg : zm_end zp_P 99 out r) : zm_go zp_P 99 (28, [(0, .ref r0), (1, .int i1), (2, .int i2), (3, .int i3), (4, .int i4)], [], lay, σ, 0, 0) out :=
  zm_blk_go (M := zd_99) rfl zs_99 41 (zp_99.drop 19) _ r (fun _ h => List.mem_of_mem_drop h) ((zr_99_28 lay σ r0 i1 i2 i3 i4).trans h) hg
/-! SubgroupWriter$Rules.isShifted(III)Z -/
theorem zs_100 : zm_srt zp_100 = true := by decide +kernel
noncomputable def zb_100_0 (lay : zm_Lay) (σ : zm_Sig) (r0 : Nat) (i1 : Int32) (i2 : Int32) (i3 : Int32) : Option (zm_St ⊕ zm_Out) :=
  (zm_is lay r0 4).bind fun _ =>
  zm_opt (σ.2.2 r0 1) (fun q1 =>
  (zm_gI lay σ q1 i1).bind fun v2 =>
  some (.inl (11, [(0, .ref r0), (1, .int i1), (2, .int i2), (3, .int i3), (4, .int v2), (5, .int 0)], [], lay, σ, 0, 0))) (none)
set_option maxRecDepth 100000 in
theorem zr_100_0 (lay : zm_Lay) (σ : zm_Sig) (r0 : Nat) (i1 : Int32) (i2 : Int32) (i3 : Int32) : zm_blk zM zp_100 (some .boolean) 0 0 zc_100 34 (zp_100.drop 0) (0, [(0, .ref r0), (1, .int i1), (2, .int i2), (3, .int i3)], [], lay, σ, 0, 0) = zb_100_0 lay σ r0 i1 i2 i3 := rfl
theorem ze_100 {lay : zm_Lay} {σ : zm_Sig} {r0 : Nat} {i1 : Int32} {i2 : Int32} {i3 : Int32} {out : zm_Out} {r : zm_St ⊕ zm_Out} (h : zb_100_0 lay σ r0 i1 i2 i3 = some r) (hg : zm_end zp_P 100 out r) : zM 100 [.ref r0, .int i1, .int i2, .int i3] lay σ = some out :=
  zm_mean_go (M := zd_100) rfl (Nat.le_of_ble_eq_true rfl) (zm_blk_go (M := zd_100) rfl zs_100 34 (zp_100.drop 0) _ r (fun _ h => List.mem_of_mem_drop h) ((zr_100_0 lay σ r0 i1 i2 i3).trans h) hg)
noncomputable def zb_100_11 (lay : zm_Lay) (σ : zm_Sig) (r0 : Nat) (i1 : Int32) (i2 : Int32) (i3 : Int32) (i4 : Int32) (i5 : Int32) : Option (zm_St ⊕ zm_Out) :=
  if i4 ≤ i5 then (some (.inr (some (.int 1), lay, σ)))
  else ((zm_is lay r0 4).bind fun _ =>
   zm_opt (σ.2.2 r0 0) (fun q1 =>
   (zm_gR lay σ q1 i1).bind fun o2 => zm_opt o2 (fun q3 =>
   if i4 = 0 then none
   else ((zm_gI lay σ q3 ((i5 + i3) - (i5 + i3) / i4 * i4)).bind fun v4 =>
   (zm_is lay r0 4).bind fun _ =>
   zm_opt (σ.2.2 r0 0) (fun q5 =>
   (zm_gR lay σ q5 i2).bind fun o6 => zm_opt o6 (fun q7 =>
   (zm_gI lay σ q7 i5).bind fun v8 =>
   if v4 = v8 then (some (.inl (11, [(0, .ref r0), (1, .int i1), (2, .int i2), (3, .int i3), (4, .int i4), (5, .int (i5 + 1))], [], lay, σ, 0, 0)))
   else (some (.inr (some (.int 0), lay, σ)))) none) (none))) none) (none))
set_option maxRecDepth 100000 in
theorem zr_100_11 (lay : zm_Lay) (σ : zm_Sig) (r0 : Nat) (i1 : Int32) (i2 : Int32) (i3 : Int32) (i4 : Int32) (i5 : Int32) : zm_blk zM zp_100 (some .boolean) 0 0 zc_100 34 (zp_100.drop 7) (11, [(0, .ref r0), (1, .int i1), (2, .int i2), (3, .int i3), (4, .int i4), (5, .int i5)], [], lay, σ, 0, 0) = zb_100_11 lay σ r0 i1 i2 i3 i4 i5 := rfl
theorem zg_100_11 {lay : zm_Lay} {σ : zm_Sig} {r0 : Nat} {i1 : Int32} {i2 : Int32} {i3 : Int32} {i4 : Int32} {i5 : Int32} {out : zm_Out} {r : zm_St ⊕ zm_Out} (h : zb_100_11 lay σ r0 i1 i2 i3 i4 i5 = some r) (hg : zm_end zp_P 100 out r) : zm_go zp_P 100 (11, [(0, .ref r0), (1, .int i1), (2, .int i2), (3, .int i3), (4, .int i4), (5, .int i5)], [], lay, σ, 0, 0) out :=
  zm_blk_go (M := zd_100) rfl zs_100 34 (zp_100.drop 7) _ r (fun _ h => List.mem_of_mem_drop h) ((zr_100_11 lay σ r0 i1 i2 i3 i4 i5).trans h) hg
/-! SubgroupWriter$Rules.isShiftedOver(III)Z -/
theorem zs_101 : zm_srt zp_101 = true := by decide +kernel
noncomputable def zb_101_0 (lay : zm_Lay) (σ : zm_Sig) (r0 : Nat) (i1 : Int32) (i2 : Int32) (i3 : Int32) : Option (zm_St ⊕ zm_Out) :=
  (zm_is lay r0 4).bind fun _ =>
  zm_opt (σ.2.2 r0 1) (fun q1 =>
  (zm_gI lay σ q1 i1).bind fun v2 =>
  some (.inl (11, [(0, .ref r0), (1, .int i1), (2, .int i2), (3, .int i3), (4, .int v2), (5, .int 0)], [], lay, σ, 0, 0))) (none)
set_option maxRecDepth 100000 in
theorem zr_101_0 (lay : zm_Lay) (σ : zm_Sig) (r0 : Nat) (i1 : Int32) (i2 : Int32) (i3 : Int32) : zm_blk zM zp_101 (some .boolean) 0 0 zc_101 39 (zp_101.drop 0) (0, [(0, .ref r0), (1, .int i1), (2, .int i2), (3, .int i3)], [], lay, σ, 0, 0) = zb_101_0 lay σ r0 i1 i2 i3 := rfl
theorem ze_101 {lay : zm_Lay} {σ : zm_Sig} {r0 : Nat} {i1 : Int32} {i2 : Int32} {i3 : Int32} {out : zm_Out} {r : zm_St ⊕ zm_Out} (h : zb_101_0 lay σ r0 i1 i2 i3 = some r) (hg : zm_end zp_P 101 out r) : zM 101 [.ref r0, .int i1, .int i2, .int i3] lay σ = some out :=
  zm_mean_go (M := zd_101) rfl (Nat.le_of_ble_eq_true rfl) (zm_blk_go (M := zd_101) rfl zs_101 39 (zp_101.drop 0) _ r (fun _ h => List.mem_of_mem_drop h) ((zr_101_0 lay σ r0 i1 i2 i3).trans h) hg)
noncomputable def zb_101_11 (lay : zm_Lay) (σ : zm_Sig) (r0 : Nat) (i1 : Int32) (i2 : Int32) (i3 : Int32) (i4 : Int32) (i5 : Int32) : Option (zm_St ⊕ zm_Out) :=
  if i4 ≤ i5 then (some (.inr (some (.int 1), lay, σ)))
  else ((zm_is lay r0 4).bind fun _ =>
   zm_opt (σ.2.2 r0 0) (fun q1 =>
   (zm_gR lay σ q1 i1).bind fun o2 => zm_opt o2 (fun q3 =>
   if i4 = 0 then none
   else ((zm_gI lay σ q3 ((i4 - 1) - ((i5 + i3) - (i5 + i3) / i4 * i4))).bind fun v4 =>
   (zm_is lay r0 4).bind fun _ =>
   zm_opt (σ.2.2 r0 0) (fun q5 =>
   (zm_gR lay σ q5 i2).bind fun o6 => zm_opt o6 (fun q7 =>
   (zm_gI lay σ q7 i5).bind fun v8 =>
   if (-v4) = v8 then (some (.inl (11, [(0, .ref r0), (1, .int i1), (2, .int i2), (3, .int i3), (4, .int i4), (5, .int (i5 + 1))], [], lay, σ, 0, 0)))
   else (some (.inr (some (.int 0), lay, σ)))) none) (none))) none) (none))
set_option maxRecDepth 100000 in
theorem zr_101_11 (lay : zm_Lay) (σ : zm_Sig) (r0 : Nat) (i1 : Int32) (i2 : Int32) (i3 : Int32) (i4 : Int32) (i5 : Int32) : zm_blk zM zp_101 (some .boolean) 0 0 zc_101 39 (zp_101.drop 7) (11, [(0, .ref r0), (1, .int i1), (2, .int i2), (3, .int i3), (4, .int i4), (5, .int i5)], [], lay, σ, 0, 0) = zb_101_11 lay σ r0 i1 i2 i3 i4 i5 := rfl
theorem zg_101_11 {lay : zm_Lay} {σ : zm_Sig} {r0 : Nat} {i1 : Int32} {i2 : Int32} {i3 : Int32} {i4 : Int32} {i5 : Int32} {out : zm_Out} {r : zm_St ⊕ zm_Out} (h : zb_101_11 lay σ r0 i1 i2 i3 i4 i5 = some r) (hg : zm_end zp_P 101 out r) : zm_go zp_P 101 (11, [(0, .ref r0), (1, .int i1), (2, .int i2), (3, .int i3), (4, .int i4), (5, .int i5)], [], lay, σ, 0, 0) out :=
  zm_blk_go (M := zd_101) rfl zs_101 39 (zp_101.drop 7) _ r (fun _ h => List.mem_of_mem_drop h) ((zr_101_11 lay σ r0 i1 i2 i3 i4 i5).trans h) hg
/-! SubgroupWriter.order(I)I -/
theorem zs_102 : zm_srt zp_102 = true := by decide +kernel
noncomputable def zb_102_0 (lay : zm_Lay) (σ : zm_Sig) (r0 : Nat) (i1 : Int32) : Option (zm_St ⊕ zm_Out) :=
  if i1 < 0 then (some (.inr (some (.int (-1)), lay, σ)))
  else (if i1 < (nI 3) then ((zm_is lay r0 9).bind fun _ =>
    zm_opt (σ.2.2 r0 11) (fun q1 =>
    (zm_is lay q1 1).bind fun _ =>
    if (σ.1 q1 0) = 0 then (some (.inr (some (.int (-4)), lay, σ)))
    else ((zm_is lay r0 9).bind fun _ =>
     zm_opt (σ.2.2 r0 3) (fun q2 =>
     (zm_is lay q2 0).bind fun _ =>
     if ¬ i1 = (σ.1 q2 3) then ((zm_is lay r0 9).bind fun _ =>
      zm_opt (σ.2.2 r0 3) (fun q3 =>
      (zm_is lay q3 0).bind fun _ => (zm_ai (zM 103 [.ref q3, .int 1] lay σ)).bind fun q4 =>
      if q4.1 = 0 then ((zm_is q4.2.1 r0 9).bind fun _ =>
       zm_opt (q4.2.2.2.2 r0 3) (fun q5 =>
       (zm_is q4.2.1 q5 0).bind fun _ => (zm_av (zM 104 [.ref q5, .int (nI 5), .int i1, .int 0] q4.2.1 q4.2.2)).bind fun q6 =>
       (zm_is q6.1 r0 9).bind fun _ =>
       zm_opt (q6.2.2.2 r0 3) (fun q7 =>
       (zm_is q6.1 q7 0).bind fun _ =>
       zm_opt (q6.2.2.2 q7 1) (fun q8 =>
       (zm_is q6.1 q8 4).bind fun _ =>
       some (.inr (some (.int (q6.2.1 q8 2)), q6.1, q6.2))) (none)) (none)) (none))
      else (some (.inr (some (.int (-2)), q4.2.1, q4.2.2)))) (none))
     else (some (.inr (some (.int (-4)), lay, σ)))) (none))) (none))
   else (some (.inr (some (.int (-1)), lay, σ))))
set_option maxRecDepth 100000 in
theorem zr_102_0 (lay : zm_Lay) (σ : zm_Sig) (r0 : Nat) (i1 : Int32) : zm_blk zM zp_102 (some .int) 0 0 zc_102 37 (zp_102.drop 0) (0, [(0, .ref r0), (1, .int i1)], [], lay, σ, 0, 0) = zb_102_0 lay σ r0 i1 := rfl
theorem ze_102 {lay : zm_Lay} {σ : zm_Sig} {r0 : Nat} {i1 : Int32} {out : zm_Out} {r : zm_St ⊕ zm_Out} (h : zb_102_0 lay σ r0 i1 = some r) (hg : zm_end zp_P 102 out r) : zM 102 [.ref r0, .int i1] lay σ = some out :=
  zm_mean_go (M := zd_102) rfl (Nat.le_of_ble_eq_true rfl) (zm_blk_go (M := zd_102) rfl zs_102 37 (zp_102.drop 0) _ r (fun _ h => List.mem_of_mem_drop h) ((zr_102_0 lay σ r0 i1).trans h) hg)
/-! SubgroupWriter$Book.isFull(I)Z -/
theorem zs_103 : zm_srt zp_103 = true := by decide +kernel
noncomputable def zb_103_0 (lay : zm_Lay) (σ : zm_Sig) (r0 : Nat) (i1 : Int32) : Option (zm_St ⊕ zm_Out) :=
  (zm_is lay r0 0).bind fun _ =>
  zm_opt (σ.2.2 r0 2) (fun q1 =>
  (zm_is lay q1 6).bind fun _ =>
  if ((σ.1 q1 3) + i1) ≤ (nI 20) then (some (.inr (some (.int 0), lay, σ)))
  else (some (.inr (some (.int 1), lay, σ)))) (none)
set_option maxRecDepth 100000 in
theorem zr_103_0 (lay : zm_Lay) (σ : zm_Sig) (r0 : Nat) (i1 : Int32) : zm_blk zM zp_103 (some .boolean) 0 0 zc_103 12 (zp_103.drop 0) (0, [(0, .ref r0), (1, .int i1)], [], lay, σ, 0, 0) = zb_103_0 lay σ r0 i1 := rfl
theorem ze_103 {lay : zm_Lay} {σ : zm_Sig} {r0 : Nat} {i1 : Int32} {out : zm_Out} {r : zm_St ⊕ zm_Out} (h : zb_103_0 lay σ r0 i1 = some r) (hg : zm_end zp_P 103 out r) : zM 103 [.ref r0, .int i1] lay σ = some out :=
  zm_mean_go (M := zd_103) rfl (Nat.le_of_ble_eq_true rfl) (zm_blk_go (M := zd_103) rfl zs_103 12 (zp_103.drop 0) _ r (fun _ h => List.mem_of_mem_drop h) ((zr_103_0 lay σ r0 i1).trans h) hg)
/-! SubgroupWriter$Book.perform(III)V -/
theorem zs_104 : zm_srt zp_104 = true := by decide +kernel
noncomputable def zb_104_0 (lay : zm_Lay) (σ : zm_Sig) (r0 : Nat) (i1 : Int32) (i2 : Int32) (i3 : Int32) : Option (zm_St ⊕ zm_Out) :=
  (zm_is lay r0 0).bind fun _ =>
  zm_opt (σ.2.2 r0 2) (fun q1 =>
  (zm_is lay q1 6).bind fun _ => (zm_av (zM 105 [.ref q1, .int i1, .int i2, .int i3] lay σ)).bind fun q2 =>
  (zm_is q2.1 r0 0).bind fun _ => (zm_av (zM 106 [.ref r0, .int i1, .int i2, .int i3] q2.1 q2.2)).bind fun q3 =>
  some (.inr (none, q3.1, q3.2))) (none)
set_option maxRecDepth 100000 in
theorem zr_104_0 (lay : zm_Lay) (σ : zm_Sig) (r0 : Nat) (i1 : Int32) (i2 : Int32) (i3 : Int32) : zm_blk zM zp_104 none 0 0 zc_104 13 (zp_104.drop 0) (0, [(0, .ref r0), (1, .int i1), (2, .int i2), (3, .int i3)], [], lay, σ, 0, 0) = zb_104_0 lay σ r0 i1 i2 i3 := rfl
theorem ze_104 {lay : zm_Lay} {σ : zm_Sig} {r0 : Nat} {i1 : Int32} {i2 : Int32} {i3 : Int32} {out : zm_Out} {r : zm_St ⊕ zm_Out} (h : zb_104_0 lay σ r0 i1 i2 i3 = some r) (hg : zm_end zp_P 104 out r) : zM 104 [.ref r0, .int i1, .int i2, .int i3] lay σ = some out :=
  zm_mean_go (M := zd_104) rfl (Nat.le_of_ble_eq_true rfl) (zm_blk_go (M := zd_104) rfl zs_104 13 (zp_104.drop 0) _ r (fun _ h => List.mem_of_mem_drop h) ((zr_104_0 lay σ r0 i1 i2 i3).trans h) hg)
/-! SubgroupWriter$Trail.add(III)V -/
theorem zs_105 : zm_srt zp_105 = true := by decide +kernel
noncomputable def zb_105_0 (lay : zm_Lay) (σ : zm_Sig) (r0 : Nat) (i1 : Int32) (i2 : Int32) (i3 : Int32) : Option (zm_St ⊕ zm_Out) :=
  (zm_is lay r0 6).bind fun _ =>
  if (σ.1 r0 3) < 0 then (some (.inr (none, lay, σ)))
  else ((zm_is lay r0 6).bind fun _ =>
   if (σ.1 r0 3) < (nI 20) then ((zm_is lay r0 6).bind fun _ =>
    zm_opt (σ.2.2 r0 0) (fun q1 =>
    (zm_is lay r0 6).bind fun _ =>
    (zm_sI lay σ q1 (σ.1 r0 3) i1).bind fun s2 =>
    (zm_is lay r0 6).bind fun _ =>
    zm_opt (s2.2.2 r0 1) (fun q3 =>
    (zm_is lay r0 6).bind fun _ =>
    (zm_sI lay s2 q3 (s2.1 r0 3) i2).bind fun s4 =>
    (zm_is lay r0 6).bind fun _ =>
    zm_opt (s4.2.2 r0 2) (fun q5 =>
    (zm_is lay r0 6).bind fun _ =>
    (zm_sI lay s4 q5 (s4.1 r0 3) i3).bind fun s6 =>
    (zm_is lay r0 6).bind fun _ =>
    (zm_is lay r0 6).bind fun _ => (zm_fw s6 r0 3 0 (.int ((s6.1 r0 3) + 1))).bind fun s7 =>
    some (.inr (none, lay, s7))) (none)) (none)) (none))
   else (some (.inr (none, lay, σ))))
set_option maxRecDepth 100000 in
theorem zr_105_0 (lay : zm_Lay) (σ : zm_Sig) (r0 : Nat) (i1 : Int32) (i2 : Int32) (i3 : Int32) : zm_blk zM zp_105 none 0 0 zc_105 34 (zp_105.drop 0) (0, [(0, .ref r0), (1, .int i1), (2, .int i2), (3, .int i3)], [], lay, σ, 0, 0) = zb_105_0 lay σ r0 i1 i2 i3 := rfl
theorem ze_105 {lay : zm_Lay} {σ : zm_Sig} {r0 : Nat} {i1 : Int32} {i2 : Int32} {i3 : Int32} {out : zm_Out} {r : zm_St ⊕ zm_Out} (h : zb_105_0 lay σ r0 i1 i2 i3 = some r) (hg : zm_end zp_P 105 out r) : zM 105 [.ref r0, .int i1, .int i2, .int i3] lay σ = some out :=
  zm_mean_go (M := zd_105) rfl (Nat.le_of_ble_eq_true rfl) (zm_blk_go (M := zd_105) rfl zs_105 34 (zp_105.drop 0) _ r (fun _ h => List.mem_of_mem_drop h) ((zr_105_0 lay σ r0 i1 i2 i3).trans h) hg)
/-! SubgroupWriter$Book.enact(III)V -/
theorem zs_106 : zm_srt zp_106 = true := by decide +kernel
noncomputable def zb_106_0 (lay : zm_Lay) (σ : zm_Sig) (r0 : Nat) (i1 : Int32) (i2 : Int32) (i3 : Int32) : Option (zm_St ⊕ zm_Out) :=
  if i1 = 0 then ((zm_is lay r0 0).bind fun _ =>
   zm_opt (σ.2.2 r0 1) (fun q1 =>
   (zm_is lay q1 4).bind fun _ => (zm_av (zM 107 [.ref q1, .int i2] lay σ)).bind fun q2 =>
   some (.inr (none, q2.1, q2.2))) (none))
  else if i1 = 1 then ((zm_is lay r0 0).bind fun _ =>
   zm_opt (σ.2.2 r0 1) (fun q3 =>
   (zm_is lay q3 4).bind fun _ => (zm_av (zM 108 [.ref q3, .int i2] lay σ)).bind fun q4 =>
   some (.inr (none, q4.1, q4.2))) (none))
  else if i1 = (nI 2) then ((zm_is lay r0 0).bind fun _ =>
   zm_opt (σ.2.2 r0 1) (fun q5 =>
   (zm_is lay q5 4).bind fun _ => (zm_av (zM 109 [.ref q5, .int i2, .int i3] lay σ)).bind fun q6 =>
   some (.inr (none, q6.1, q6.2))) (none))
  else if i1 = (nI 3) then ((zm_is lay r0 0).bind fun _ =>
   zm_opt (σ.2.2 r0 1) (fun q7 =>
   (zm_is lay q7 4).bind fun _ => (zm_av (zM 111 [.ref q7, .int i2] lay σ)).bind fun q8 =>
   some (.inr (none, q8.1, q8.2))) (none))
  else if i1 = (nI 4) then ((zm_is lay r0 0).bind fun _ =>
   zm_opt (σ.2.2 r0 1) (fun q9 =>
   (zm_is lay q9 4).bind fun _ => (zm_av (zM 112 [.ref q9, .int i2, .int i3] lay σ)).bind fun q10 =>
   some (.inr (none, q10.1, q10.2))) (none))
  else if i1 = (nI 5) then ((zm_is lay r0 0).bind fun _ => (zm_av (zM 51 [.ref r0, .int i2] lay σ)).bind fun q11 =>
   some (.inr (none, q11.1, q11.2)))
  else if i1 = (nI 6) then ((zm_is lay r0 0).bind fun _ =>
   zm_opt (σ.2.2 r0 1) (fun q12 =>
   (zm_is lay q12 4).bind fun _ => (zm_av (zM 115 [.ref q12] lay σ)).bind fun q13 =>
   some (.inr (none, q13.1, q13.2))) (none))
  else (some (.inr (none, lay, σ)))
set_option maxRecDepth 100000 in
theorem zr_106_0 (lay : zm_Lay) (σ : zm_Sig) (r0 : Nat) (i1 : Int32) (i2 : Int32) (i3 : Int32) : zm_blk zM zp_106 none 0 0 zc_106 39 (zp_106.drop 0) (0, [(0, .ref r0), (1, .int i1), (2, .int i2), (3, .int i3)], [], lay, σ, 0, 0) = zb_106_0 lay σ r0 i1 i2 i3 := rfl
theorem ze_106 {lay : zm_Lay} {σ : zm_Sig} {r0 : Nat} {i1 : Int32} {i2 : Int32} {i3 : Int32} {out : zm_Out} {r : zm_St ⊕ zm_Out} (h : zb_106_0 lay σ r0 i1 i2 i3 = some r) (hg : zm_end zp_P 106 out r) : zM 106 [.ref r0, .int i1, .int i2, .int i3] lay σ = some out :=
  zm_mean_go (M := zd_106) rfl (Nat.le_of_ble_eq_true rfl) (zm_blk_go (M := zd_106) rfl zs_106 39 (zp_106.drop 0) _ r (fun _ h => List.mem_of_mem_drop h) ((zr_106_0 lay σ r0 i1 i2 i3).trans h) hg)
/-! SubgroupWriter$Rules.turnFirst(I)V -/
theorem zs_107 : zm_srt zp_107 = true := by decide +kernel
noncomputable def zb_107_0 (lay : zm_Lay) (σ : zm_Sig) (r0 : Nat) (i1 : Int32) : Option (zm_St ⊕ zm_Out) :=
  (zm_is lay r0 4).bind fun _ => (zm_ai (zM 94 [.ref r0, .int i1] lay σ)).bind fun q1 =>
  if q1.1 = 0 then (some (.inr (none, q1.2.1, q1.2.2)))
  else ((zm_is q1.2.1 r0 4).bind fun _ =>
   zm_opt (q1.2.2.2.2 r0 1) (fun q2 =>
   (zm_gI q1.2.1 q1.2.2 q2 i1).bind fun v3 =>
   if ¬ v3 = 0 then ((zm_is q1.2.1 r0 4).bind fun _ =>
    zm_opt (q1.2.2.2.2 r0 4) (fun q4 =>
    (zm_is q1.2.1 q4 8).bind fun _ => (zm_av (zM 65 [.ref q4] q1.2.1 q1.2.2)).bind fun q5 =>
    some (.inl (27, [(0, .ref r0), (1, .int i1), (2, .int 1)], [], q5.1, q5.2, 0, 0))) (none))
   else (some (.inr (none, q1.2.1, q1.2.2)))) (none))
set_option maxRecDepth 100000 in
theorem zr_107_0 (lay : zm_Lay) (σ : zm_Sig) (r0 : Nat) (i1 : Int32) : zm_blk zM zp_107 none 0 0 zc_107 46 (zp_107.drop 0) (0, [(0, .ref r0), (1, .int i1)], [], lay, σ, 0, 0) = zb_107_0 lay σ r0 i1 := rfl
theorem ze_107 {lay : zm_Lay} {σ : zm_Sig} {r0 : Nat} {i1 : Int32} {out : zm_Out} {r : zm_St ⊕ zm_Out} (h : zb_107_0 lay σ r0 i1 = some r) (hg : zm_end zp_P 107 out r) : zM 107 [.ref r0, .int i1] lay σ = some out :=
  zm_mean_go (M := zd_107) rfl (Nat.le_of_ble_eq_true rfl) (zm_blk_go (M := zd_107) rfl zs_107 46 (zp_107.drop 0) _ r (fun _ h => List.mem_of_mem_drop h) ((zr_107_0 lay σ r0 i1).trans h) hg)
noncomputable def zb_107_27 (lay : zm_Lay) (σ : zm_Sig) (r0 : Nat) (i1 : Int32) (i2 : Int32) : Option (zm_St ⊕ zm_Out) :=
  (zm_is lay r0 4).bind fun _ =>
  zm_opt (σ.2.2 r0 1) (fun q1 =>
  (zm_gI lay σ q1 i1).bind fun v2 =>
  if v2 ≤ i2 then ((zm_is lay r0 4).bind fun _ =>
   zm_opt (σ.2.2 r0 4) (fun q3 =>
   (zm_is lay r0 4).bind fun _ =>
   zm_opt (σ.2.2 r0 0) (fun q4 =>
   (zm_gR lay σ q4 i1).bind fun o5 => zm_opt o5 (fun q6 =>
   (zm_gI lay σ q6 0).bind fun v7 =>
   (zm_is lay q3 8).bind fun _ => (zm_av (zM 66 [.ref q3, .int v7] lay σ)).bind fun q8 =>
   (zm_is q8.1 r0 4).bind fun _ => (zm_av (zM 67 [.ref r0, .int i1] q8.1 q8.2)).bind fun q9 =>
   some (.inr (none, q9.1, q9.2))) none) (none)) (none))
  else ((zm_is lay r0 4).bind fun _ =>
   zm_opt (σ.2.2 r0 4) (fun q10 =>
   (zm_is lay r0 4).bind fun _ =>
   zm_opt (σ.2.2 r0 0) (fun q11 =>
   (zm_gR lay σ q11 i1).bind fun o12 => zm_opt o12 (fun q13 =>
   (zm_gI lay σ q13 i2).bind fun v14 =>
   (zm_is lay q10 8).bind fun _ => (zm_av (zM 66 [.ref q10, .int v14] lay σ)).bind fun q15 =>
   some (.inl (27, [(0, .ref r0), (1, .int i1), (2, .int (i2 + 1))], [], q15.1, q15.2, 0, 0))) none) (none)) (none))) (none)
set_option maxRecDepth 100000 in
theorem zr_107_27 (lay : zm_Lay) (σ : zm_Sig) (r0 : Nat) (i1 : Int32) (i2 : Int32) : zm_blk zM zp_107 none 0 0 zc_107 46 (zp_107.drop 15) (27, [(0, .ref r0), (1, .int i1), (2, .int i2)], [], lay, σ, 0, 0) = zb_107_27 lay σ r0 i1 i2 := rfl
theorem zg_107_27 {lay : zm_Lay} {σ : zm_Sig} {r0 : Nat} {i1 : Int32} {i2 : Int32} {out : zm_Out} {r : zm_St ⊕ zm_Out} (h : zb_107_27 lay σ r0 i1 i2 = some r) (hg : zm_end zp_P 107 out r) : zm_go zp_P 107 (27, [(0, .ref r0), (1, .int i1), (2, .int i2)], [], lay, σ, 0, 0) out :=
  zm_blk_go (M := zd_107) rfl zs_107 46 (zp_107.drop 15) _ r (fun _ h => List.mem_of_mem_drop h) ((zr_107_27 lay σ r0 i1 i2).trans h) hg
/-! SubgroupWriter$Rules.turnAll(I)V -/
theorem zs_108 : zm_srt zp_108 = true := by decide +kernel
noncomputable def zb_108_0 (lay : zm_Lay) (σ : zm_Sig) (r0 : Nat) (i1 : Int32) : Option (zm_St ⊕ zm_Out) :=
  (zm_is lay r0 4).bind fun _ => (zm_ai (zM 94 [.ref r0, .int i1] lay σ)).bind fun q1 =>
  if ¬ q1.1 = 0 then ((zm_is q1.2.1 r0 4).bind fun _ =>
   zm_opt (q1.2.2.2.2 r0 4) (fun q2 =>
   (zm_is q1.2.1 q2 8).bind fun _ => (zm_av (zM 65 [.ref q2] q1.2.1 q1.2.2)).bind fun q3 =>
   (zm_is q3.1 r0 4).bind fun _ =>
   zm_opt (q3.2.2.2 r0 1) (fun q4 =>
   (zm_gI q3.1 q3.2 q4 i1).bind fun v5 =>
   some (.inl (25, [(0, .ref r0), (1, .int i1), (2, .int (v5 - 1))], [], q3.1, q3.2, 0, 0))) (none)) (none))
  else (some (.inr (none, q1.2.1, q1.2.2)))
set_option maxRecDepth 100000 in
theorem zr_108_0 (lay : zm_Lay) (σ : zm_Sig) (r0 : Nat) (i1 : Int32) : zm_blk zM zp_108 none 0 0 zc_108 34 (zp_108.drop 0) (0, [(0, .ref r0), (1, .int i1)], [], lay, σ, 0, 0) = zb_108_0 lay σ r0 i1 := rfl
theorem ze_108 {lay : zm_Lay} {σ : zm_Sig} {r0 : Nat} {i1 : Int32} {out : zm_Out} {r : zm_St ⊕ zm_Out} (h : zb_108_0 lay σ r0 i1 = some r) (hg : zm_end zp_P 108 out r) : zM 108 [.ref r0, .int i1] lay σ = some out :=
  zm_mean_go (M := zd_108) rfl (Nat.le_of_ble_eq_true rfl) (zm_blk_go (M := zd_108) rfl zs_108 34 (zp_108.drop 0) _ r (fun _ h => List.mem_of_mem_drop h) ((zr_108_0 lay σ r0 i1).trans h) hg)
noncomputable def zb_108_25 (lay : zm_Lay) (σ : zm_Sig) (r0 : Nat) (i1 : Int32) (i2 : Int32) : Option (zm_St ⊕ zm_Out) :=
  if i2 < 0 then ((zm_is lay r0 4).bind fun _ => (zm_av (zM 67 [.ref r0, .int i1] lay σ)).bind fun q1 =>
   some (.inr (none, q1.1, q1.2)))
  else ((zm_is lay r0 4).bind fun _ =>
   zm_opt (σ.2.2 r0 4) (fun q2 =>
   (zm_is lay r0 4).bind fun _ =>
   zm_opt (σ.2.2 r0 0) (fun q3 =>
   (zm_gR lay σ q3 i1).bind fun o4 => zm_opt o4 (fun q5 =>
   (zm_gI lay σ q5 i2).bind fun v6 =>
   (zm_is lay q2 8).bind fun _ => (zm_av (zM 66 [.ref q2, .int (-v6)] lay σ)).bind fun q7 =>
   some (.inl (25, [(0, .ref r0), (1, .int i1), (2, .int (i2 + (-1)))], [], q7.1, q7.2, 0, 0))) none) (none)) (none))
set_option maxRecDepth 100000 in
theorem zr_108_25 (lay : zm_Lay) (σ : zm_Sig) (r0 : Nat) (i1 : Int32) (i2 : Int32) : zm_blk zM zp_108 none 0 0 zc_108 34 (zp_108.drop 15) (25, [(0, .ref r0), (1, .int i1), (2, .int i2)], [], lay, σ, 0, 0) = zb_108_25 lay σ r0 i1 i2 := rfl
theorem zg_108_25 {lay : zm_Lay} {σ : zm_Sig} {r0 : Nat} {i1 : Int32} {i2 : Int32} {out : zm_Out} {r : zm_St ⊕ zm_Out} (h : zb_108_25 lay σ r0 i1 i2 = some r) (hg : zm_end zp_P 108 out r) : zm_go zp_P 108 (25, [(0, .ref r0), (1, .int i1), (2, .int i2)], [], lay, σ, 0, 0) out :=
  zm_blk_go (M := zd_108) rfl zs_108 34 (zp_108.drop 15) _ r (fun _ h => List.mem_of_mem_drop h) ((zr_108_25 lay σ r0 i1 i2).trans h) hg
/-! SubgroupWriter$Rules.joinBoth(II)V -/
theorem zs_109 : zm_srt zp_109 = true := by decide +kernel
noncomputable def zb_109_0 (lay : zm_Lay) (σ : zm_Sig) (r0 : Nat) (i1 : Int32) (i2 : Int32) : Option (zm_St ⊕ zm_Out) :=
  (zm_is lay r0 4).bind fun _ => (zm_ai (zM 110 [.ref r0, .int i1, .int i2] lay σ)).bind fun q1 =>
  if q1.1 = 0 then (some (.inr (none, q1.2.1, q1.2.2)))
  else ((zm_is q1.2.1 r0 4).bind fun _ => (zm_av (zM 67 [.ref r0, .int i1] q1.2.1 q1.2.2)).bind fun q2 =>
   some (.inr (none, q2.1, q2.2)))
set_option maxRecDepth 100000 in
theorem zr_109_0 (lay : zm_Lay) (σ : zm_Sig) (r0 : Nat) (i1 : Int32) (i2 : Int32) : zm_blk zM zp_109 none 0 0 zc_109 10 (zp_109.drop 0) (0, [(0, .ref r0), (1, .int i1), (2, .int i2)], [], lay, σ, 0, 0) = zb_109_0 lay σ r0 i1 i2 := rfl
theorem ze_109 {lay : zm_Lay} {σ : zm_Sig} {r0 : Nat} {i1 : Int32} {i2 : Int32} {out : zm_Out} {r : zm_St ⊕ zm_Out} (h : zb_109_0 lay σ r0 i1 i2 = some r) (hg : zm_end zp_P 109 out r) : zM 109 [.ref r0, .int i1, .int i2] lay σ = some out :=
  zm_mean_go (M := zd_109) rfl (Nat.le_of_ble_eq_true rfl) (zm_blk_go (M := zd_109) rfl zs_109 10 (zp_109.drop 0) _ r (fun _ h => List.mem_of_mem_drop h) ((zr_109_0 lay σ r0 i1 i2).trans h) hg)
/-! SubgroupWriter$Rules.canJoin(II)Z -/
theorem zs_110 : zm_srt zp_110 = true := by decide +kernel
noncomputable def zb_110_0 (lay : zm_Lay) (σ : zm_Sig) (r0 : Nat) (i1 : Int32) (i2 : Int32) : Option (zm_St ⊕ zm_Out) :=
  (zm_is lay r0 4).bind fun _ => (zm_ai (zM 94 [.ref r0, .int i1] lay σ)).bind fun q1 =>
  if q1.1 = 0 then (some (.inr (some (.int 0), q1.2.1, q1.2.2)))
  else ((zm_is q1.2.1 r0 4).bind fun _ => (zm_ai (zM 94 [.ref r0, .int i2] q1.2.1 q1.2.2)).bind fun q2 =>
   if q2.1 = 0 then (some (.inr (some (.int 0), q2.2.1, q2.2.2)))
   else (if ¬ i1 = i2 then ((zm_is q2.2.1 r0 4).bind fun _ =>
     zm_opt (q2.2.2.2.2 r0 4) (fun q3 =>
     (zm_is q2.2.1 q3 8).bind fun _ => (zm_av (zM 65 [.ref q3] q2.2.1 q2.2.2)).bind fun q4 =>
     some (.inl (32, [(0, .ref r0), (1, .int i1), (2, .int i2), (3, .int 0)], [], q4.1, q4.2, 0, 0))) (none))
    else (some (.inr (some (.int 0), q2.2.1, q2.2.2)))))
set_option maxRecDepth 100000 in
theorem zr_110_0 (lay : zm_Lay) (σ : zm_Sig) (r0 : Nat) (i1 : Int32) (i2 : Int32) : zm_blk zM zp_110 (some .boolean) 0 0 zc_110 64 (zp_110.drop 0) (0, [(0, .ref r0), (1, .int i1), (2, .int i2)], [], lay, σ, 0, 0) = zb_110_0 lay σ r0 i1 i2 := rfl
theorem ze_110 {lay : zm_Lay} {σ : zm_Sig} {r0 : Nat} {i1 : Int32} {i2 : Int32} {out : zm_Out} {r : zm_St ⊕ zm_Out} (h : zb_110_0 lay σ r0 i1 i2 = some r) (hg : zm_end zp_P 110 out r) : zM 110 [.ref r0, .int i1, .int i2] lay σ = some out :=
  zm_mean_go (M := zd_110) rfl (Nat.le_of_ble_eq_true rfl) (zm_blk_go (M := zd_110) rfl zs_110 64 (zp_110.drop 0) _ r (fun _ h => List.mem_of_mem_drop h) ((zr_110_0 lay σ r0 i1 i2).trans h) hg)
noncomputable def zb_110_32 (lay : zm_Lay) (σ : zm_Sig) (r0 : Nat) (i1 : Int32) (i2 : Int32) (i3 : Int32) : Option (zm_St ⊕ zm_Out) :=
  (zm_is lay r0 4).bind fun _ =>
  zm_opt (σ.2.2 r0 1) (fun q1 =>
  (zm_gI lay σ q1 i1).bind fun v2 =>
  if v2 ≤ i3 then (some (.inl (65, [(0, .ref r0), (2, .int i2), (3, .int 0)], [], lay, σ, 0, 0)))
  else ((zm_is lay r0 4).bind fun _ =>
   zm_opt (σ.2.2 r0 4) (fun q3 =>
   (zm_is lay r0 4).bind fun _ =>
   zm_opt (σ.2.2 r0 0) (fun q4 =>
   (zm_gR lay σ q4 i1).bind fun o5 => zm_opt o5 (fun q6 =>
   (zm_gI lay σ q6 i3).bind fun v7 =>
   (zm_is lay q3 8).bind fun _ => (zm_av (zM 66 [.ref q3, .int v7] lay σ)).bind fun q8 =>
   some (.inl (32, [(0, .ref r0), (1, .int i1), (2, .int i2), (3, .int (i3 + 1))], [], q8.1, q8.2, 0, 0))) none) (none)) (none))) (none)
set_option maxRecDepth 100000 in
theorem zr_110_32 (lay : zm_Lay) (σ : zm_Sig) (r0 : Nat) (i1 : Int32) (i2 : Int32) (i3 : Int32) : zm_blk zM zp_110 (some .boolean) 0 0 zc_110 64 (zp_110.drop 18) (32, [(0, .ref r0), (1, .int i1), (2, .int i2), (3, .int i3)], [], lay, σ, 0, 0) = zb_110_32 lay σ r0 i1 i2 i3 := rfl
theorem zg_110_32 {lay : zm_Lay} {σ : zm_Sig} {r0 : Nat} {i1 : Int32} {i2 : Int32} {i3 : Int32} {out : zm_Out} {r : zm_St ⊕ zm_Out} (h : zb_110_32 lay σ r0 i1 i2 i3 = some r) (hg : zm_end zp_P 110 out r) : zm_go zp_P 110 (32, [(0, .ref r0), (1, .int i1), (2, .int i2), (3, .int i3)], [], lay, σ, 0, 0) out :=
  zm_blk_go (M := zd_110) rfl zs_110 64 (zp_110.drop 18) _ r (fun _ h => List.mem_of_mem_drop h) ((zr_110_32 lay σ r0 i1 i2 i3).trans h) hg
noncomputable def zb_110_65 (lay : zm_Lay) (σ : zm_Sig) (r0 : Nat) (i2 : Int32) (i3 : Int32) : Option (zm_St ⊕ zm_Out) :=
  (zm_is lay r0 4).bind fun _ =>
  zm_opt (σ.2.2 r0 1) (fun q1 =>
  (zm_gI lay σ q1 i2).bind fun v2 =>
  if v2 ≤ i3 then ((zm_is lay r0 4).bind fun _ =>
   zm_opt (σ.2.2 r0 4) (fun q3 =>
   (zm_is lay q3 8).bind fun _ =>
   if ((nI 16) : Int32) < (σ.1 q3 1) then (some (.inr (some (.int 0), lay, σ)))
   else (some (.inr (some (.int 1), lay, σ)))) (none))
  else ((zm_is lay r0 4).bind fun _ =>
   zm_opt (σ.2.2 r0 4) (fun q4 =>
   (zm_is lay r0 4).bind fun _ =>
   zm_opt (σ.2.2 r0 0) (fun q5 =>
   (zm_gR lay σ q5 i2).bind fun o6 => zm_opt o6 (fun q7 =>
   (zm_gI lay σ q7 i3).bind fun v8 =>
   (zm_is lay q4 8).bind fun _ => (zm_av (zM 66 [.ref q4, .int v8] lay σ)).bind fun q9 =>
   some (.inl (65, [(0, .ref r0), (2, .int i2), (3, .int (i3 + 1))], [], q9.1, q9.2, 0, 0))) none) (none)) (none))) (none)
set_option maxRecDepth 100000 in
theorem zr_110_65 (lay : zm_Lay) (σ : zm_Sig) (r0 : Nat) (i2 : Int32) (i3 : Int32) : zm_blk zM zp_110 (some .boolean) 0 0 zc_110 64 (zp_110.drop 37) (65, [(0, .ref r0), (2, .int i2), (3, .int i3)], [], lay, σ, 0, 0) = zb_110_65 lay σ r0 i2 i3 := rfl
theorem zg_110_65 {lay : zm_Lay} {σ : zm_Sig} {r0 : Nat} {i2 : Int32} {i3 : Int32} {out : zm_Out} {r : zm_St ⊕ zm_Out} (h : zb_110_65 lay σ r0 i2 i3 = some r) (hg : zm_end zp_P 110 out r) : zm_go zp_P 110 (65, [(0, .ref r0), (2, .int i2), (3, .int i3)], [], lay, σ, 0, 0) out :=
  zm_blk_go (M := zd_110) rfl zs_110 64 (zp_110.drop 37) _ r (fun _ h => List.mem_of_mem_drop h) ((zr_110_65 lay σ r0 i2 i3).trans h) hg
/-! SubgroupWriter$Rules.remove(I)V -/
theorem zs_111 : zm_srt zp_111 = true := by decide +kernel
noncomputable def zb_111_0 (lay : zm_Lay) (σ : zm_Sig) (r0 : Nat) (i1 : Int32) : Option (zm_St ⊕ zm_Out) :=
  (zm_is lay r0 4).bind fun _ => (zm_ai (zM 94 [.ref r0, .int i1] lay σ)).bind fun q1 =>
  if ¬ q1.1 = 0 then ((zm_is q1.2.1 r0 4).bind fun _ =>
   zm_opt (q1.2.2.2.2 r0 0) (fun q2 =>
   (zm_gR q1.2.1 q1.2.2 q2 i1).bind fun o3 => zm_opt o3 (fun q4 =>
   some (.inl (18, [(0, .ref r0), (2, .ref q4), (3, .int i1)], [], q1.2.1, q1.2.2, 0, 0))) none) (none))
  else (some (.inr (none, q1.2.1, q1.2.2)))
set_option maxRecDepth 100000 in
theorem zr_111_0 (lay : zm_Lay) (σ : zm_Sig) (r0 : Nat) (i1 : Int32) : zm_blk zM zp_111 none 0 0 zc_111 56 (zp_111.drop 0) (0, [(0, .ref r0), (1, .int i1)], [], lay, σ, 0, 0) = zb_111_0 lay σ r0 i1 := rfl
theorem ze_111 {lay : zm_Lay} {σ : zm_Sig} {r0 : Nat} {i1 : Int32} {out : zm_Out} {r : zm_St ⊕ zm_Out} (h : zb_111_0 lay σ r0 i1 = some r) (hg : zm_end zp_P 111 out r) : zM 111 [.ref r0, .int i1] lay σ = some out :=
  zm_mean_go (M := zd_111) rfl (Nat.le_of_ble_eq_true rfl) (zm_blk_go (M := zd_111) rfl zs_111 56 (zp_111.drop 0) _ r (fun _ h => List.mem_of_mem_drop h) ((zr_111_0 lay σ r0 i1).trans h) hg)
noncomputable def zb_111_18 (lay : zm_Lay) (σ : zm_Sig) (r0 : Nat) (r2 : Nat) (i3 : Int32) : Option (zm_St ⊕ zm_Out) :=
  (zm_is lay r0 4).bind fun _ =>
  if ((σ.1 r0 2) - 1) ≤ i3 then ((zm_is lay r0 4).bind fun _ =>
   zm_opt (σ.2.2 r0 0) (fun q1 =>
   (zm_is lay r0 4).bind fun _ =>
   (zm_sR lay σ q1 ((σ.1 r0 2) - 1) r2).bind fun s2 =>
   (zm_is lay r0 4).bind fun _ =>
   (zm_is lay r0 4).bind fun _ => (zm_fw s2 r0 2 0 (.int ((s2.1 r0 2) - 1))).bind fun s3 =>
   some (.inr (none, lay, s3))) (none))
  else ((zm_is lay r0 4).bind fun _ =>
   zm_opt (σ.2.2 r0 0) (fun q4 =>
   (zm_is lay r0 4).bind fun _ =>
   zm_opt (σ.2.2 r0 0) (fun q5 =>
   (zm_gR lay σ q5 (i3 + 1)).bind fun o6 => zm_opt o6 (fun q7 =>
   (zm_sR lay σ q4 i3 q7).bind fun s8 =>
   (zm_is lay r0 4).bind fun _ =>
   zm_opt (s8.2.2 r0 1) (fun q9 =>
   (zm_is lay r0 4).bind fun _ =>
   zm_opt (s8.2.2 r0 1) (fun q10 =>
   (zm_gI lay s8 q10 (i3 + 1)).bind fun v11 =>
   (zm_sI lay s8 q9 i3 v11).bind fun s12 =>
   some (.inl (18, [(0, .ref r0), (2, .ref r2), (3, .int (i3 + 1))], [], lay, s12, 0, 0))) (none)) (none)) none) (none)) (none))
set_option maxRecDepth 100000 in
theorem zr_111_18 (lay : zm_Lay) (σ : zm_Sig) (r0 : Nat) (r2 : Nat) (i3 : Int32) : zm_blk zM zp_111 none 0 0 zc_111 56 (zp_111.drop 12) (18, [(0, .ref r0), (2, .ref r2), (3, .int i3)], [], lay, σ, 0, 0) = zb_111_18 lay σ r0 r2 i3 := rfl
theorem zg_111_18 {lay : zm_Lay} {σ : zm_Sig} {r0 : Nat} {r2 : Nat} {i3 : Int32} {out : zm_Out} {r : zm_St ⊕ zm_Out} (h : zb_111_18 lay σ r0 r2 i3 = some r) (hg : zm_end zp_P 111 out r) : zm_go zp_P 111 (18, [(0, .ref r0), (2, .ref r2), (3, .int i3)], [], lay, σ, 0, 0) out :=
  zm_blk_go (M := zd_111) rfl zs_111 56 (zp_111.drop 12) _ r (fun _ h => List.mem_of_mem_drop h) ((zr_111_18 lay σ r0 r2 i3).trans h) hg
/-! SubgroupWriter$Rules.solveFor(II)V -/
theorem zs_112 : zm_srt zp_112 = true := by decide +kernel
noncomputable def zb_112_0 (lay : zm_Lay) (σ : zm_Sig) (r0 : Nat) (i1 : Int32) (i2 : Int32) : Option (zm_St ⊕ zm_Out) :=
  (zm_is lay r0 4).bind fun _ => (zm_ai (zM 94 [.ref r0, .int i1] lay σ)).bind fun q1 =>
  if q1.1 = 0 then (some (.inr (none, q1.2.1, q1.2.2)))
  else ((zm_is q1.2.1 r0 4).bind fun _ => (zm_ai (zM 83 [.ref r0, .int i2] q1.2.1 q1.2.2)).bind fun q2 =>
   if ¬ q2.1 = 0 then ((zm_is q2.2.1 r0 4).bind fun _ => (zm_av (zM 113 [.ref r0, .int i1, .int i2] q2.2.1 q2.2.2)).bind fun q3 =>
    some (.inl (25, [(0, .ref r0), (1, .int i1), (2, .int i2), (3, .int 0)], [], q3.1, q3.2, 0, 0)))
   else (some (.inr (none, q2.2.1, q2.2.2))))
set_option maxRecDepth 100000 in
theorem zr_112_0 (lay : zm_Lay) (σ : zm_Sig) (r0 : Nat) (i1 : Int32) (i2 : Int32) : zm_blk zM zp_112 none 0 0 zc_112 54 (zp_112.drop 0) (0, [(0, .ref r0), (1, .int i1), (2, .int i2)], [], lay, σ, 0, 0) = zb_112_0 lay σ r0 i1 i2 := rfl
theorem ze_112 {lay : zm_Lay} {σ : zm_Sig} {r0 : Nat} {i1 : Int32} {i2 : Int32} {out : zm_Out} {r : zm_St ⊕ zm_Out} (h : zb_112_0 lay σ r0 i1 i2 = some r) (hg : zm_end zp_P 112 out r) : zM 112 [.ref r0, .int i1, .int i2] lay σ = some out :=
  zm_mean_go (M := zd_112) rfl (Nat.le_of_ble_eq_true rfl) (zm_blk_go (M := zd_112) rfl zs_112 54 (zp_112.drop 0) _ r (fun _ h => List.mem_of_mem_drop h) ((zr_112_0 lay σ r0 i1 i2).trans h) hg)
noncomputable def zb_112_25 (lay : zm_Lay) (σ : zm_Sig) (r0 : Nat) (i1 : Int32) (i2 : Int32) (i3 : Int32) : Option (zm_St ⊕ zm_Out) :=
  (zm_is lay r0 4).bind fun _ =>
  if (σ.1 r0 2) ≤ i3 then ((zm_is lay r0 4).bind fun _ => (zm_av (zM 111 [.ref r0, .int i1] lay σ)).bind fun q1 =>
   (zm_is q1.1 r0 4).bind fun _ =>
   (zm_is q1.1 r0 4).bind fun _ => (zm_fw q1.2 r0 3 0 (.int ((q1.2.1 r0 3) &&& (((1 : Int32) <<< ((i2 - 1) &&& 31)) ^^^ (-1))))).bind fun s2 =>
   some (.inr (none, q1.1, s2)))
  else (if i3 = i1 then (some (.inl (25, [(0, .ref r0), (1, .int i1), (2, .int i2), (3, .int (i3 + 1))], [], lay, σ, 0, 0)))
   else ((zm_is lay r0 4).bind fun _ => (zm_ai (zM 97 [.ref r0, .int i3, .int i2] lay σ)).bind fun q3 =>
    if ¬ q3.1 = 0 then ((zm_is q3.2.1 r0 4).bind fun _ => (zm_av (zM 114 [.ref r0, .int i3, .int i2] q3.2.1 q3.2.2)).bind fun q4 =>
     (zm_is q4.1 r0 4).bind fun _ => (zm_av (zM 67 [.ref r0, .int i3] q4.1 q4.2)).bind fun q5 =>
     some (.inl (25, [(0, .ref r0), (1, .int i1), (2, .int i2), (3, .int (i3 + 1))], [], q5.1, q5.2, 0, 0)))
    else (some (.inl (25, [(0, .ref r0), (1, .int i1), (2, .int i2), (3, .int (i3 + 1))], [], q3.2.1, q3.2.2, 0, 0)))))
set_option maxRecDepth 100000 in
theorem zr_112_25 (lay : zm_Lay) (σ : zm_Sig) (r0 : Nat) (i1 : Int32) (i2 : Int32) (i3 : Int32) : zm_blk zM zp_112 none 0 0 zc_112 54 (zp_112.drop 15) (25, [(0, .ref r0), (1, .int i1), (2, .int i2), (3, .int i3)], [], lay, σ, 0, 0) = zb_112_25 lay σ r0 i1 i2 i3 := rfl
theorem zg_112_25 {lay : zm_Lay} {σ : zm_Sig} {r0 : Nat} {i1 : Int32} {i2 : Int32} {i3 : Int32} {out : zm_Out} {r : zm_St ⊕ zm_Out} (h : zb_112_25 lay σ r0 i1 i2 i3 = some r) (hg : zm_end zp_P 112 out r) : zm_go zp_P 112 (25, [(0, .ref r0), (1, .int i1), (2, .int i2), (3, .int i3)], [], lay, σ, 0, 0) out :=
  zm_blk_go (M := zd_112) rfl zs_112 54 (zp_112.drop 15) _ r (fun _ h => List.mem_of_mem_drop h) ((zr_112_25 lay σ r0 i1 i2 i3).trans h) hg
/-! SubgroupWriter$Rules.solveInto(II)V -/
theorem zs_113 : zm_srt zp_113 = true := by decide +kernel
noncomputable def zb_113_0 (lay : zm_Lay) (σ : zm_Sig) (r0 : Nat) (i1 : Int32) (i2 : Int32) : Option (zm_St ⊕ zm_Out) :=
  (zm_is lay r0 4).bind fun _ =>
  zm_opt (σ.2.2 r0 5) (fun q1 =>
  (zm_is lay q1 8).bind fun _ => (zm_av (zM 65 [.ref q1] lay σ)).bind fun q2 =>
  some (.inl (12, [(0, .ref r0), (1, .int i1), (2, .int i2), (3, .int 0), (4, .int 0)], [], q2.1, q2.2, 0, 0))) (none)
set_option maxRecDepth 100000 in
theorem zr_113_0 (lay : zm_Lay) (σ : zm_Sig) (r0 : Nat) (i1 : Int32) (i2 : Int32) : zm_blk zM zp_113 none 0 0 zc_113 113 (zp_113.drop 0) (0, [(0, .ref r0), (1, .int i1), (2, .int i2)], [], lay, σ, 0, 0) = zb_113_0 lay σ r0 i1 i2 := rfl
theorem ze_113 {lay : zm_Lay} {σ : zm_Sig} {r0 : Nat} {i1 : Int32} {i2 : Int32} {out : zm_Out} {r : zm_St ⊕ zm_Out} (h : zb_113_0 lay σ r0 i1 i2 = some r) (hg : zm_end zp_P 113 out r) : zM 113 [.ref r0, .int i1, .int i2] lay σ = some out :=
  zm_mean_go (M := zd_113) rfl (Nat.le_of_ble_eq_true rfl) (zm_blk_go (M := zd_113) rfl zs_113 113 (zp_113.drop 0) _ r (fun _ h => List.mem_of_mem_drop h) ((zr_113_0 lay σ r0 i1 i2).trans h) hg)
noncomputable def zb_113_12 (lay : zm_Lay) (σ : zm_Sig) (r0 : Nat) (i1 : Int32) (i2 : Int32) (i3 : Int32) (i4 : Int32) : Option (zm_St ⊕ zm_Out) :=
  (zm_is lay r0 4).bind fun _ =>
  zm_opt (σ.2.2 r0 1) (fun q1 =>
  (zm_gI lay σ q1 i1).bind fun v2 =>
  if v2 ≤ i4 then ((zm_is lay r0 4).bind fun _ =>
   zm_opt (σ.2.2 r0 0) (fun q3 =>
   (zm_gR lay σ q3 i1).bind fun o4 => zm_opt o4 (fun q5 =>
   (zm_gI lay σ q5 i3).bind fun v6 =>
   if v6 ≤ 0 then (some (.inl (139, [(0, .ref r0), (1, .int i1), (3, .int i3), (4, .int (i3 + 1))], [], lay, σ, 0, 0)))
   else (some (.inl (64, [(0, .ref r0), (1, .int i1), (3, .int i3), (4, .int (i3 - 1))], [], lay, σ, 0, 0)))) none) (none))
  else ((zm_is lay r0 4).bind fun _ =>
   zm_opt (σ.2.2 r0 0) (fun q7 =>
   (zm_gR lay σ q7 i1).bind fun o8 => zm_opt o8 (fun q9 =>
   (zm_gI lay σ q9 i4).bind fun v10 =>
   (zm_ai (zM 91 [.int v10] lay σ)).bind fun q11 =>
   if ¬ q11.1 = i2 then (some (.inl (12, [(0, .ref r0), (1, .int i1), (2, .int i2), (3, .int i3), (4, .int (i4 + 1))], [], q11.2.1, q11.2.2, 0, 0)))
   else (some (.inl (12, [(0, .ref r0), (1, .int i1), (2, .int i2), (3, .int i4), (4, .int (i4 + 1))], [], q11.2.1, q11.2.2, 0, 0)))) none) (none))) (none)
set_option maxRecDepth 100000 in
theorem zr_113_12 (lay : zm_Lay) (σ : zm_Sig) (r0 : Nat) (i1 : Int32) (i2 : Int32) (i3 : Int32) (i4 : Int32) : zm_blk zM zp_113 none 0 0 zc_113 113 (zp_113.drop 7) (12, [(0, .ref r0), (1, .int i1), (2, .int i2), (3, .int i3), (4, .int i4)], [], lay, σ, 0, 0) = zb_113_12 lay σ r0 i1 i2 i3 i4 := rfl
theorem zg_113_12 {lay : zm_Lay} {σ : zm_Sig} {r0 : Nat} {i1 : Int32} {i2 : Int32} {i3 : Int32} {i4 : Int32} {out : zm_Out} {r : zm_St ⊕ zm_Out} (h : zb_113_12 lay σ r0 i1 i2 i3 i4 = some r) (hg : zm_end zp_P 113 out r) : zm_go zp_P 113 (12, [(0, .ref r0), (1, .int i1), (2, .int i2), (3, .int i3), (4, .int i4)], [], lay, σ, 0, 0) out :=
  zm_blk_go (M := zd_113) rfl zs_113 113 (zp_113.drop 7) _ r (fun _ h => List.mem_of_mem_drop h) ((zr_113_12 lay σ r0 i1 i2 i3 i4).trans h) hg
noncomputable def zb_113_64 (lay : zm_Lay) (σ : zm_Sig) (r0 : Nat) (i1 : Int32) (i3 : Int32) (i4 : Int32) : Option (zm_St ⊕ zm_Out) :=
  if i4 < 0 then ((zm_is lay r0 4).bind fun _ =>
   zm_opt (σ.2.2 r0 1) (fun q1 =>
   (zm_gI lay σ q1 i1).bind fun v2 =>
   some (.inl (102, [(0, .ref r0), (1, .int i1), (3, .int i3), (4, .int (v2 - 1))], [], lay, σ, 0, 0))) (none))
  else ((zm_is lay r0 4).bind fun _ =>
   zm_opt (σ.2.2 r0 5) (fun q3 =>
   (zm_is lay r0 4).bind fun _ =>
   zm_opt (σ.2.2 r0 0) (fun q4 =>
   (zm_gR lay σ q4 i1).bind fun o5 => zm_opt o5 (fun q6 =>
   (zm_gI lay σ q6 i4).bind fun v7 =>
   (zm_is lay q3 8).bind fun _ => (zm_av (zM 66 [.ref q3, .int (-v7)] lay σ)).bind fun q8 =>
   some (.inl (64, [(0, .ref r0), (1, .int i1), (3, .int i3), (4, .int (i4 + (-1)))], [], q8.1, q8.2, 0, 0))) none) (none)) (none))
set_option maxRecDepth 100000 in
theorem zr_113_64 (lay : zm_Lay) (σ : zm_Sig) (r0 : Nat) (i1 : Int32) (i3 : Int32) (i4 : Int32) : zm_blk zM zp_113 none 0 0 zc_113 113 (zp_113.drop 37) (64, [(0, .ref r0), (1, .int i1), (3, .int i3), (4, .int i4)], [], lay, σ, 0, 0) = zb_113_64 lay σ r0 i1 i3 i4 := rfl
theorem zg_113_64 {lay : zm_Lay} {σ : zm_Sig} {r0 : Nat} {i1 : Int32} {i3 : Int32} {i4 : Int32} {out : zm_Out} {r : zm_St ⊕ zm_Out} (h : zb_113_64 lay σ r0 i1 i3 i4 = some r) (hg : zm_end zp_P 113 out r) : zm_go zp_P 113 (64, [(0, .ref r0), (1, .int i1), (3, .int i3), (4, .int i4)], [], lay, σ, 0, 0) out :=
  zm_blk_go (M := zd_113) rfl zs_113 113 (zp_113.drop 37) _ r (fun _ h => List.mem_of_mem_drop h) ((zr_113_64 lay σ r0 i1 i3 i4).trans h) hg
noncomputable def zb_113_139 (lay : zm_Lay) (σ : zm_Sig) (r0 : Nat) (i1 : Int32) (i3 : Int32) (i4 : Int32) : Option (zm_St ⊕ zm_Out) :=
  (zm_is lay r0 4).bind fun _ =>
  zm_opt (σ.2.2 r0 1) (fun q1 =>
  (zm_gI lay σ q1 i1).bind fun v2 =>
  if v2 ≤ i4 then (some (.inl (175, [(0, .ref r0), (1, .int i1), (3, .int i3), (4, .int 0)], [], lay, σ, 0, 0)))
  else ((zm_is lay r0 4).bind fun _ =>
   zm_opt (σ.2.2 r0 5) (fun q3 =>
   (zm_is lay r0 4).bind fun _ =>
   zm_opt (σ.2.2 r0 0) (fun q4 =>
   (zm_gR lay σ q4 i1).bind fun o5 => zm_opt o5 (fun q6 =>
   (zm_gI lay σ q6 i4).bind fun v7 =>
   (zm_is lay q3 8).bind fun _ => (zm_av (zM 66 [.ref q3, .int v7] lay σ)).bind fun q8 =>
   some (.inl (139, [(0, .ref r0), (1, .int i1), (3, .int i3), (4, .int (i4 + 1))], [], q8.1, q8.2, 0, 0))) none) (none)) (none))) (none)
set_option maxRecDepth 100000 in
theorem zr_113_139 (lay : zm_Lay) (σ : zm_Sig) (r0 : Nat) (i1 : Int32) (i3 : Int32) (i4 : Int32) : zm_blk zM zp_113 none 0 0 zc_113 113 (zp_113.drop 78) (139, [(0, .ref r0), (1, .int i1), (3, .int i3), (4, .int i4)], [], lay, σ, 0, 0) = zb_113_139 lay σ r0 i1 i3 i4 := rfl
theorem zg_113_139 {lay : zm_Lay} {σ : zm_Sig} {r0 : Nat} {i1 : Int32} {i3 : Int32} {i4 : Int32} {out : zm_Out} {r : zm_St ⊕ zm_Out} (h : zb_113_139 lay σ r0 i1 i3 i4 = some r) (hg : zm_end zp_P 113 out r) : zm_go zp_P 113 (139, [(0, .ref r0), (1, .int i1), (3, .int i3), (4, .int i4)], [], lay, σ, 0, 0) out :=
  zm_blk_go (M := zd_113) rfl zs_113 113 (zp_113.drop 78) _ r (fun _ h => List.mem_of_mem_drop h) ((zr_113_139 lay σ r0 i1 i3 i4).trans h) hg
noncomputable def zb_113_102 (lay : zm_Lay) (σ : zm_Sig) (r0 : Nat) (i1 : Int32) (i3 : Int32) (i4 : Int32) : Option (zm_St ⊕ zm_Out) :=
  if i4 ≤ i3 then (some (.inr (none, lay, σ)))
  else ((zm_is lay r0 4).bind fun _ =>
   zm_opt (σ.2.2 r0 5) (fun q1 =>
   (zm_is lay r0 4).bind fun _ =>
   zm_opt (σ.2.2 r0 0) (fun q2 =>
   (zm_gR lay σ q2 i1).bind fun o3 => zm_opt o3 (fun q4 =>
   (zm_gI lay σ q4 i4).bind fun v5 =>
   (zm_is lay q1 8).bind fun _ => (zm_av (zM 66 [.ref q1, .int (-v5)] lay σ)).bind fun q6 =>
   some (.inl (102, [(0, .ref r0), (1, .int i1), (3, .int i3), (4, .int (i4 + (-1)))], [], q6.1, q6.2, 0, 0))) none) (none)) (none))
set_option maxRecDepth 100000 in
theorem zr_113_102 (lay : zm_Lay) (σ : zm_Sig) (r0 : Nat) (i1 : Int32) (i3 : Int32) (i4 : Int32) : zm_blk zM zp_113 none 0 0 zc_113 113 (zp_113.drop 58) (102, [(0, .ref r0), (1, .int i1), (3, .int i3), (4, .int i4)], [], lay, σ, 0, 0) = zb_113_102 lay σ r0 i1 i3 i4 := rfl
theorem zg_113_102 {lay : zm_Lay} {σ : zm_Sig} {r0 : Nat} {i1 : Int32} {i3 : Int32} {i4 : Int32} {out : zm_Out} {r : zm_St ⊕ zm_Out} (h : zb_113_102 lay σ r0 i1 i3 i4 = some r) (hg : zm_end zp_P 113 out r) : zm_go zp_P 113 (102, [(0, .ref r0), (1, .int i1), (3, .int i3), (4, .int i4)], [], lay, σ, 0, 0) out :=
  zm_blk_go (M := zd_113) rfl zs_113 113 (zp_113.drop 58) _ r (fun _ h => List.mem_of_mem_drop h) ((zr_113_102 lay σ r0 i1 i3 i4).trans h) hg
noncomputable def zb_113_175 (lay : zm_Lay) (σ : zm_Sig) (r0 : Nat) (i1 : Int32) (i3 : Int32) (i4 : Int32) : Option (zm_St ⊕ zm_Out) :=
  if i3 ≤ i4 then (some (.inr (none, lay, σ)))
  else ((zm_is lay r0 4).bind fun _ =>
   zm_opt (σ.2.2 r0 5) (fun q1 =>
   (zm_is lay r0 4).bind fun _ =>
   zm_opt (σ.2.2 r0 0) (fun q2 =>
   (zm_gR lay σ q2 i1).bind fun o3 => zm_opt o3 (fun q4 =>
   (zm_gI lay σ q4 i4).bind fun v5 =>
   (zm_is lay q1 8).bind fun _ => (zm_av (zM 66 [.ref q1, .int v5] lay σ)).bind fun q6 =>
   some (.inl (175, [(0, .ref r0), (1, .int i1), (3, .int i3), (4, .int (i4 + 1))], [], q6.1, q6.2, 0, 0))) none) (none)) (none))
set_option maxRecDepth 100000 in
theorem zr_113_175 (lay : zm_Lay) (σ : zm_Sig) (r0 : Nat) (i1 : Int32) (i3 : Int32) (i4 : Int32) : zm_blk zM zp_113 none 0 0 zc_113 113 (zp_113.drop 97) (175, [(0, .ref r0), (1, .int i1), (3, .int i3), (4, .int i4)], [], lay, σ, 0, 0) = zb_113_175 lay σ r0 i1 i3 i4 := rfl
theorem zg_113_175 {lay : zm_Lay} {σ : zm_Sig} {r0 : Nat} {i1 : Int32} {i3 : Int32} {i4 : Int32} {out : zm_Out} {r : zm_St ⊕ zm_Out} (h : zb_113_175 lay σ r0 i1 i3 i4 = some r) (hg : zm_end zp_P 113 out r) : zm_go zp_P 113 (175, [(0, .ref r0), (1, .int i1), (3, .int i3), (4, .int i4)], [], lay, σ, 0, 0) out :=
  zm_blk_go (M := zd_113) rfl zs_113 113 (zp_113.drop 97) _ r (fun _ h => List.mem_of_mem_drop h) ((zr_113_175 lay σ r0 i1 i3 i4).trans h) hg
/-! SubgroupWriter$Rules.draftWithout(II)V -/
theorem zs_114 : zm_srt zp_114 = true := by decide +kernel
noncomputable def zb_114_0 (lay : zm_Lay) (σ : zm_Sig) (r0 : Nat) (i1 : Int32) (i2 : Int32) : Option (zm_St ⊕ zm_Out) :=
  (zm_is lay r0 4).bind fun _ =>
  zm_opt (σ.2.2 r0 4) (fun q1 =>
  (zm_is lay q1 8).bind fun _ => (zm_av (zM 65 [.ref q1] lay σ)).bind fun q2 =>
  some (.inl (9, [(0, .ref r0), (1, .int i1), (2, .int i2), (3, .int 0)], [], q2.1, q2.2, 0, 0))) (none)
set_option maxRecDepth 100000 in
theorem zr_114_0 (lay : zm_Lay) (σ : zm_Sig) (r0 : Nat) (i1 : Int32) (i2 : Int32) : zm_blk zM zp_114 none 0 0 zc_114 71 (zp_114.drop 0) (0, [(0, .ref r0), (1, .int i1), (2, .int i2)], [], lay, σ, 0, 0) = zb_114_0 lay σ r0 i1 i2 := rfl
theorem ze_114 {lay : zm_Lay} {σ : zm_Sig} {r0 : Nat} {i1 : Int32} {i2 : Int32} {out : zm_Out} {r : zm_St ⊕ zm_Out} (h : zb_114_0 lay σ r0 i1 i2 = some r) (hg : zm_end zp_P 114 out r) : zM 114 [.ref r0, .int i1, .int i2] lay σ = some out :=
  zm_mean_go (M := zd_114) rfl (Nat.le_of_ble_eq_true rfl) (zm_blk_go (M := zd_114) rfl zs_114 71 (zp_114.drop 0) _ r (fun _ h => List.mem_of_mem_drop h) ((zr_114_0 lay σ r0 i1 i2).trans h) hg)
noncomputable def zb_114_9 (lay : zm_Lay) (σ : zm_Sig) (r0 : Nat) (i1 : Int32) (i2 : Int32) (i3 : Int32) : Option (zm_St ⊕ zm_Out) :=
  (zm_is lay r0 4).bind fun _ =>
  zm_opt (σ.2.2 r0 1) (fun q1 =>
  (zm_gI lay σ q1 i1).bind fun v2 =>
  if v2 ≤ i3 then (some (.inr (none, lay, σ)))
  else ((zm_is lay r0 4).bind fun _ =>
   zm_opt (σ.2.2 r0 0) (fun q3 =>
   (zm_gR lay σ q3 i1).bind fun o4 => zm_opt o4 (fun q5 =>
   (zm_gI lay σ q5 i3).bind fun v6 =>
   if ¬ v6 = i2 then (if ¬ v6 = (-i2) then ((zm_is lay r0 4).bind fun _ =>
     zm_opt (σ.2.2 r0 4) (fun q7 =>
     (zm_is lay q7 8).bind fun _ => (zm_av (zM 66 [.ref q7, .int v6] lay σ)).bind fun q8 =>
     some (.inl (9, [(0, .ref r0), (1, .int i1), (2, .int i2), (3, .int (i3 + 1))], [], q8.1, q8.2, 0, 0))) (none))
    else ((zm_is lay r0 4).bind fun _ =>
     zm_opt (σ.2.2 r0 5) (fun q9 =>
     (zm_is lay q9 8).bind fun _ =>
     some (.inl (94, [(0, .ref r0), (1, .int i1), (2, .int i2), (3, .int i3), (5, .int ((σ.1 q9 1) - 1))], [], lay, σ, 0, 0))) (none)))
   else (some (.inl (38, [(0, .ref r0), (1, .int i1), (2, .int i2), (3, .int i3), (5, .int 0)], [], lay, σ, 0, 0)))) none) (none))) (none)
set_option maxRecDepth 100000 in
theorem zr_114_9 (lay : zm_Lay) (σ : zm_Sig) (r0 : Nat) (i1 : Int32) (i2 : Int32) (i3 : Int32) : zm_blk zM zp_114 none 0 0 zc_114 71 (zp_114.drop 5) (9, [(0, .ref r0), (1, .int i1), (2, .int i2), (3, .int i3)], [], lay, σ, 0, 0) = zb_114_9 lay σ r0 i1 i2 i3 := rfl
theorem zg_114_9 {lay : zm_Lay} {σ : zm_Sig} {r0 : Nat} {i1 : Int32} {i2 : Int32} {i3 : Int32} {out : zm_Out} {r : zm_St ⊕ zm_Out} (h : zb_114_9 lay σ r0 i1 i2 i3 = some r) (hg : zm_end zp_P 114 out r) : zm_go zp_P 114 (9, [(0, .ref r0), (1, .int i1), (2, .int i2), (3, .int i3)], [], lay, σ, 0, 0) out :=
  zm_blk_go (M := zd_114) rfl zs_114 71 (zp_114.drop 5) _ r (fun _ h => List.mem_of_mem_drop h) ((zr_114_9 lay σ r0 i1 i2 i3).trans h) hg
noncomputable def zb_114_38 (lay : zm_Lay) (σ : zm_Sig) (r0 : Nat) (i1 : Int32) (i2 : Int32) (i3 : Int32) (i5 : Int32) : Option (zm_St ⊕ zm_Out) :=
  (zm_is lay r0 4).bind fun _ =>
  zm_opt (σ.2.2 r0 5) (fun q1 =>
  (zm_is lay q1 8).bind fun _ =>
  if (σ.1 q1 1) ≤ i5 then (some (.inl (9, [(0, .ref r0), (1, .int i1), (2, .int i2), (3, .int (i3 + 1))], [], lay, σ, 0, 0)))
  else ((zm_is lay r0 4).bind fun _ =>
   zm_opt (σ.2.2 r0 4) (fun q2 =>
   (zm_is lay r0 4).bind fun _ =>
   zm_opt (σ.2.2 r0 5) (fun q3 =>
   (zm_is lay q3 8).bind fun _ =>
   zm_opt (σ.2.2 q3 0) (fun q4 =>
   (zm_gI lay σ q4 i5).bind fun v5 =>
   (zm_is lay q2 8).bind fun _ => (zm_av (zM 66 [.ref q2, .int v5] lay σ)).bind fun q6 =>
   some (.inl (38, [(0, .ref r0), (1, .int i1), (2, .int i2), (3, .int i3), (5, .int (i5 + 1))], [], q6.1, q6.2, 0, 0))) (none)) (none)) (none))) (none)
set_option maxRecDepth 100000 in
theorem zr_114_38 (lay : zm_Lay) (σ : zm_Sig) (r0 : Nat) (i1 : Int32) (i2 : Int32) (i3 : Int32) (i5 : Int32) : zm_blk zM zp_114 none 0 0 zc_114 71 (zp_114.drop 23) (38, [(0, .ref r0), (1, .int i1), (2, .int i2), (3, .int i3), (5, .int i5)], [], lay, σ, 0, 0) = zb_114_38 lay σ r0 i1 i2 i3 i5 := rfl
theorem zg_114_38 {lay : zm_Lay} {σ : zm_Sig} {r0 : Nat} {i1 : Int32} {i2 : Int32} {i3 : Int32} {i5 : Int32} {out : zm_Out} {r : zm_St ⊕ zm_Out} (h : zb_114_38 lay σ r0 i1 i2 i3 i5 = some r) (hg : zm_end zp_P 114 out r) : zm_go zp_P 114 (38, [(0, .ref r0), (1, .int i1), (2, .int i2), (3, .int i3), (5, .int i5)], [], lay, σ, 0, 0) out :=
  zm_blk_go (M := zd_114) rfl zs_114 71 (zp_114.drop 23) _ r (fun _ h => List.mem_of_mem_drop h) ((zr_114_38 lay σ r0 i1 i2 i3 i5).trans h) hg
noncomputable def zb_114_94 (lay : zm_Lay) (σ : zm_Sig) (r0 : Nat) (i1 : Int32) (i2 : Int32) (i3 : Int32) (i5 : Int32) : Option (zm_St ⊕ zm_Out) :=
  if i5 < 0 then (some (.inl (9, [(0, .ref r0), (1, .int i1), (2, .int i2), (3, .int (i3 + 1))], [], lay, σ, 0, 0)))
  else ((zm_is lay r0 4).bind fun _ =>
   zm_opt (σ.2.2 r0 4) (fun q1 =>
   (zm_is lay r0 4).bind fun _ =>
   zm_opt (σ.2.2 r0 5) (fun q2 =>
   (zm_is lay q2 8).bind fun _ =>
   zm_opt (σ.2.2 q2 0) (fun q3 =>
   (zm_gI lay σ q3 i5).bind fun v4 =>
   (zm_is lay q1 8).bind fun _ => (zm_av (zM 66 [.ref q1, .int (-v4)] lay σ)).bind fun q5 =>
   some (.inl (94, [(0, .ref r0), (1, .int i1), (2, .int i2), (3, .int i3), (5, .int (i5 + (-1)))], [], q5.1, q5.2, 0, 0))) (none)) (none)) (none))
set_option maxRecDepth 100000 in
theorem zr_114_94 (lay : zm_Lay) (σ : zm_Sig) (r0 : Nat) (i1 : Int32) (i2 : Int32) (i3 : Int32) (i5 : Int32) : zm_blk zM zp_114 none 0 0 zc_114 71 (zp_114.drop 49) (94, [(0, .ref r0), (1, .int i1), (2, .int i2), (3, .int i3), (5, .int i5)], [], lay, σ, 0, 0) = zb_114_94 lay σ r0 i1 i2 i3 i5 := rfl
theorem zg_114_94 {lay : zm_Lay} {σ : zm_Sig} {r0 : Nat} {i1 : Int32} {i2 : Int32} {i3 : Int32} {i5 : Int32} {out : zm_Out} {r : zm_St ⊕ zm_Out} (h : zb_114_94 lay σ r0 i1 i2 i3 i5 = some r) (hg : zm_end zp_P 114 out r) : zm_go zp_P 114 (94, [(0, .ref r0), (1, .int i1), (2, .int i2), (3, .int i3), (5, .int i5)], [], lay, σ, 0, 0) out :=
  zm_blk_go (M := zd_114) rfl zs_114 71 (zp_114.drop 49) _ r (fun _ h => List.mem_of_mem_drop h) ((zr_114_94 lay σ r0 i1 i2 i3 i5).trans h) hg
/-! SubgroupWriter$Rules.shortenAll()V -/
theorem zs_115 : zm_srt zp_115 = true := by decide +kernel
noncomputable def zb_115_0 (lay : zm_Lay) (σ : zm_Sig) (r0 : Nat) : Option (zm_St ⊕ zm_Out) :=
  some (.inl (2, [(0, .ref r0), (1, .int 0)], [], lay, σ, 0, 0))
set_option maxRecDepth 100000 in
theorem zr_115_0 (lay : zm_Lay) (σ : zm_Sig) (r0 : Nat) : zm_blk zM zp_115 none 0 0 zc_115 34 (zp_115.drop 0) (0, [(0, .ref r0)], [], lay, σ, 0, 0) = zb_115_0 lay σ r0 := rfl
theorem ze_115 {lay : zm_Lay} {σ : zm_Sig} {r0 : Nat} {out : zm_Out} {r : zm_St ⊕ zm_Out} (h : zb_115_0 lay σ r0 = some r) (hg : zm_end zp_P 115 out r) : zM 115 [.ref r0] lay σ = some out :=
  zm_mean_go (M := zd_115) rfl (Nat.le_of_ble_eq_true rfl) (zm_blk_go (M := zd_115) rfl zs_115 34 (zp_115.drop 0) _ r (fun _ h => List.mem_of_mem_drop h) ((zr_115_0 lay σ r0).trans h) hg)
noncomputable def zb_115_2 (lay : zm_Lay) (σ : zm_Sig) (r0 : Nat) (i1 : Int32) : Option (zm_St ⊕ zm_Out) :=
  if ((nI 20) : Int32) ≤ i1 then (some (.inr (none, lay, σ)))
  else ((zm_is lay r0 4).bind fun _ => (zm_ai (zM 116 [.ref r0] lay σ)).bind fun q1 =>
   if q1.1 = (-1) then ((zm_is q1.2.1 r0 4).bind fun _ => (zm_ai (zM 118 [.ref r0] q1.2.1 q1.2.2)).bind fun q2 =>
    if ¬ q2.1 = (-1) then ((zm_is q2.2.1 r0 4).bind fun _ => (zm_av (zM 112 [.ref r0, .int (q2.1 / (nI 16)), .int (q2.1 - q2.1 / (nI 16) * (nI 16))] q2.2.1 q2.2.2)).bind fun q3 =>
     some (.inl (2, [(0, .ref r0), (1, .int (i1 + 1))], [], q3.1, q3.2, 0, 0)))
    else (some (.inr (none, q2.2.1, q2.2.2))))
   else ((zm_is q1.2.1 r0 4).bind fun _ => (zm_av (zM 111 [.ref r0, .int q1.1] q1.2.1 q1.2.2)).bind fun q4 =>
    some (.inl (2, [(0, .ref r0), (1, .int (i1 + 1))], [], q4.1, q4.2, 0, 0))))
set_option maxRecDepth 100000 in
theorem zr_115_2 (lay : zm_Lay) (σ : zm_Sig) (r0 : Nat) (i1 : Int32) : zm_blk zM zp_115 none 0 0 zc_115 34 (zp_115.drop 2) (2, [(0, .ref r0), (1, .int i1)], [], lay, σ, 0, 0) = zb_115_2 lay σ r0 i1 := rfl
theorem zg_115_2 {lay : zm_Lay} {σ : zm_Sig} {r0 : Nat} {i1 : Int32} {out : zm_Out} {r : zm_St ⊕ zm_Out} (h : zb_115_2 lay σ r0 i1 = some r) (hg : zm_end zp_P 115 out r) : zm_go zp_P 115 (2, [(0, .ref r0), (1, .int i1)], [], lay, σ, 0, 0) out :=
  zm_blk_go (M := zd_115) rfl zs_115 34 (zp_115.drop 2) _ r (fun _ h => List.mem_of_mem_drop h) ((zr_115_2 lay σ r0 i1).trans h) hg
/-! SubgroupWriter$Rules.firstToCut()I -/
theorem zs_116 : zm_srt zp_116 = true := by decide +kernel
noncomputable def zb_116_0 (lay : zm_Lay) (σ : zm_Sig) (r0 : Nat) : Option (zm_St ⊕ zm_Out) :=
  some (.inl (2, [(0, .ref r0), (1, .int 0)], [], lay, σ, 0, 0))
set_option maxRecDepth 100000 in
theorem zr_116_0 (lay : zm_Lay) (σ : zm_Sig) (r0 : Nat) : zm_blk zM zp_116 (some .int) 0 0 zc_116 17 (zp_116.drop 0) (0, [(0, .ref r0)], [], lay, σ, 0, 0) = zb_116_0 lay σ r0 := rfl
theorem ze_116 {lay : zm_Lay} {σ : zm_Sig} {r0 : Nat} {out : zm_Out} {r : zm_St ⊕ zm_Out} (h : zb_116_0 lay σ r0 = some r) (hg : zm_end zp_P 116 out r) : zM 116 [.ref r0] lay σ = some out :=
  zm_mean_go (M := zd_116) rfl (Nat.le_of_ble_eq_true rfl) (zm_blk_go (M := zd_116) rfl zs_116 17 (zp_116.drop 0) _ r (fun _ h => List.mem_of_mem_drop h) ((zr_116_0 lay σ r0).trans h) hg)
noncomputable def zb_116_2 (lay : zm_Lay) (σ : zm_Sig) (r0 : Nat) (i1 : Int32) : Option (zm_St ⊕ zm_Out) :=
  (zm_is lay r0 4).bind fun _ =>
  if (σ.1 r0 2) ≤ i1 then (some (.inr (some (.int (-1)), lay, σ)))
  else ((zm_is lay r0 4).bind fun _ => (zm_ai (zM 117 [.ref r0, .int i1] lay σ)).bind fun q1 =>
   if q1.1 = 0 then (some (.inl (2, [(0, .ref r0), (1, .int (i1 + 1))], [], q1.2.1, q1.2.2, 0, 0)))
   else (some (.inr (some (.int i1), q1.2.1, q1.2.2))))
set_option maxRecDepth 100000 in
theorem zr_116_2 (lay : zm_Lay) (σ : zm_Sig) (r0 : Nat) (i1 : Int32) : zm_blk zM zp_116 (some .int) 0 0 zc_116 17 (zp_116.drop 2) (2, [(0, .ref r0), (1, .int i1)], [], lay, σ, 0, 0) = zb_116_2 lay σ r0 i1 := rfl
theorem zg_116_2 {lay : zm_Lay} {σ : zm_Sig} {r0 : Nat} {i1 : Int32} {out : zm_Out} {r : zm_St ⊕ zm_Out} (h : zb_116_2 lay σ r0 i1 = some r) (hg : zm_end zp_P 116 out r) : zm_go zp_P 116 (2, [(0, .ref r0), (1, .int i1)], [], lay, σ, 0, 0) out :=
  zm_blk_go (M := zd_116) rfl zs_116 17 (zp_116.drop 2) _ r (fun _ h => List.mem_of_mem_drop h) ((zr_116_2 lay σ r0 i1).trans h) hg
/-! SubgroupWriter$Rules.canCut(I)Z -/
theorem zs_117 : zm_srt zp_117 = true := by decide +kernel
noncomputable def zb_117_0 (lay : zm_Lay) (σ : zm_Sig) (r0 : Nat) (i1 : Int32) : Option (zm_St ⊕ zm_Out) :=
  (zm_is lay r0 4).bind fun _ =>
  zm_opt (σ.2.2 r0 1) (fun q1 =>
  (zm_gI lay σ q1 i1).bind fun v2 =>
  if ¬ v2 = 0 then (some (.inl (13, [(0, .ref r0), (1, .int i1), (2, .int 0)], [], lay, σ, 0, 0)))
  else (some (.inr (some (.int 1), lay, σ)))) (none)
set_option maxRecDepth 100000 in
theorem zr_117_0 (lay : zm_Lay) (σ : zm_Sig) (r0 : Nat) (i1 : Int32) : zm_blk zM zp_117 (some .boolean) 0 0 zc_117 24 (zp_117.drop 0) (0, [(0, .ref r0), (1, .int i1)], [], lay, σ, 0, 0) = zb_117_0 lay σ r0 i1 := rfl
theorem ze_117 {lay : zm_Lay} {σ : zm_Sig} {r0 : Nat} {i1 : Int32} {out : zm_Out} {r : zm_St ⊕ zm_Out} (h : zb_117_0 lay σ r0 i1 = some r) (hg : zm_end zp_P 117 out r) : zM 117 [.ref r0, .int i1] lay σ = some out :=
  zm_mean_go (M := zd_117) rfl (Nat.le_of_ble_eq_true rfl) (zm_blk_go (M := zd_117) rfl zs_117 24 (zp_117.drop 0) _ r (fun _ h => List.mem_of_mem_drop h) ((zr_117_0 lay σ r0 i1).trans h) hg)
noncomputable def zb_117_13 (lay : zm_Lay) (σ : zm_Sig) (r0 : Nat) (i1 : Int32) (i2 : Int32) : Option (zm_St ⊕ zm_Out) :=
  if i1 ≤ i2 then (some (.inr (some (.int 0), lay, σ)))
  else ((zm_is lay r0 4).bind fun _ => (zm_ai (zM 99 [.ref r0, .int i1, .int i2] lay σ)).bind fun q1 =>
   if q1.1 = 0 then (some (.inl (13, [(0, .ref r0), (1, .int i1), (2, .int (i2 + 1))], [], q1.2.1, q1.2.2, 0, 0)))
   else (some (.inr (some (.int 1), q1.2.1, q1.2.2))))
set_option maxRecDepth 100000 in
theorem zr_117_13 (lay : zm_Lay) (σ : zm_Sig) (r0 : Nat) (i1 : Int32) (i2 : Int32) : zm_blk zM zp_117 (some .boolean) 0 0 zc_117 24 (zp_117.drop 9) (13, [(0, .ref r0), (1, .int i1), (2, .int i2)], [], lay, σ, 0, 0) = zb_117_13 lay σ r0 i1 i2 := rfl
theorem zg_117_13 {lay : zm_Lay} {σ : zm_Sig} {r0 : Nat} {i1 : Int32} {i2 : Int32} {out : zm_Out} {r : zm_St ⊕ zm_Out} (h : zb_117_13 lay σ r0 i1 i2 = some r) (hg : zm_end zp_P 117 out r) : zm_go zp_P 117 (13, [(0, .ref r0), (1, .int i1), (2, .int i2)], [], lay, σ, 0, 0) out :=
  zm_blk_go (M := zd_117) rfl zs_117 24 (zp_117.drop 9) _ r (fun _ h => List.mem_of_mem_drop h) ((zr_117_13 lay σ r0 i1 i2).trans h) hg
/-! SubgroupWriter$Rules.nextToSolve()I -/
theorem zs_118 : zm_srt zp_118 = true := by decide +kernel
noncomputable def zb_118_0 (lay : zm_Lay) (σ : zm_Sig) (r0 : Nat) : Option (zm_St ⊕ zm_Out) :=
  some (.inl (2, [(0, .ref r0), (1, .int 1)], [], lay, σ, 0, 0))
set_option maxRecDepth 100000 in
theorem zr_118_0 (lay : zm_Lay) (σ : zm_Sig) (r0 : Nat) : zm_blk zM zp_118 (some .int) 0 0 zc_118 49 (zp_118.drop 0) (0, [(0, .ref r0)], [], lay, σ, 0, 0) = zb_118_0 lay σ r0 := rfl
theorem ze_118 {lay : zm_Lay} {σ : zm_Sig} {r0 : Nat} {out : zm_Out} {r : zm_St ⊕ zm_Out} (h : zb_118_0 lay σ r0 = some r) (hg : zm_end zp_P 118 out r) : zM 118 [.ref r0] lay σ = some out :=
  zm_mean_go (M := zd_118) rfl (Nat.le_of_ble_eq_true rfl) (zm_blk_go (M := zd_118) rfl zs_118 49 (zp_118.drop 0) _ r (fun _ h => List.mem_of_mem_drop h) ((zr_118_0 lay σ r0).trans h) hg)
noncomputable def zb_118_2 (lay : zm_Lay) (σ : zm_Sig) (r0 : Nat) (i1 : Int32) : Option (zm_St ⊕ zm_Out) :=
  if ((nI 16) : Int32) < i1 then (some (.inr (some (.int (-1)), lay, σ)))
  else (some (.inl (10, [(0, .ref r0), (1, .int i1), (2, .int 0)], [], lay, σ, 0, 0)))
set_option maxRecDepth 100000 in
theorem zr_118_2 (lay : zm_Lay) (σ : zm_Sig) (r0 : Nat) (i1 : Int32) : zm_blk zM zp_118 (some .int) 0 0 zc_118 49 (zp_118.drop 2) (2, [(0, .ref r0), (1, .int i1)], [], lay, σ, 0, 0) = zb_118_2 lay σ r0 i1 := rfl
theorem zg_118_2 {lay : zm_Lay} {σ : zm_Sig} {r0 : Nat} {i1 : Int32} {out : zm_Out} {r : zm_St ⊕ zm_Out} (h : zb_118_2 lay σ r0 i1 = some r) (hg : zm_end zp_P 118 out r) : zm_go zp_P 118 (2, [(0, .ref r0), (1, .int i1)], [], lay, σ, 0, 0) out :=
  zm_blk_go (M := zd_118) rfl zs_118 49 (zp_118.drop 2) _ r (fun _ h => List.mem_of_mem_drop h) ((zr_118_2 lay σ r0 i1).trans h) hg
noncomputable def zb_118_10 (lay : zm_Lay) (σ : zm_Sig) (r0 : Nat) (i1 : Int32) (i2 : Int32) : Option (zm_St ⊕ zm_Out) :=
  (zm_is lay r0 4).bind fun _ =>
  if (σ.1 r0 2) ≤ i2 then (some (.inl (2, [(0, .ref r0), (1, .int (i1 + 1))], [], lay, σ, 0, 0)))
  else ((zm_is lay r0 4).bind fun _ =>
   zm_opt (σ.2.2 r0 1) (fun q1 =>
   (zm_gI lay σ q1 i2).bind fun v2 =>
   if v2 = i1 then (some (.inl (33, [(0, .ref r0), (1, .int i1), (2, .int i2), (3, .int 1)], [], lay, σ, 0, 0)))
   else (some (.inl (10, [(0, .ref r0), (1, .int i1), (2, .int (i2 + 1))], [], lay, σ, 0, 0)))) (none))
set_option maxRecDepth 100000 in
theorem zr_118_10 (lay : zm_Lay) (σ : zm_Sig) (r0 : Nat) (i1 : Int32) (i2 : Int32) : zm_blk zM zp_118 (some .int) 0 0 zc_118 49 (zp_118.drop 7) (10, [(0, .ref r0), (1, .int i1), (2, .int i2)], [], lay, σ, 0, 0) = zb_118_10 lay σ r0 i1 i2 := rfl
theorem zg_118_10 {lay : zm_Lay} {σ : zm_Sig} {r0 : Nat} {i1 : Int32} {i2 : Int32} {out : zm_Out} {r : zm_St ⊕ zm_Out} (h : zb_118_10 lay σ r0 i1 i2 = some r) (hg : zm_end zp_P 118 out r) : zm_go zp_P 118 (10, [(0, .ref r0), (1, .int i1), (2, .int i2)], [], lay, σ, 0, 0) out :=
  zm_blk_go (M := zd_118) rfl zs_118 49 (zp_118.drop 7) _ r (fun _ h => List.mem_of_mem_drop h) ((zr_118_10 lay σ r0 i1 i2).trans h) hg
noncomputable def zb_118_33 (lay : zm_Lay) (σ : zm_Sig) (r0 : Nat) (i1 : Int32) (i2 : Int32) (i3 : Int32) : Option (zm_St ⊕ zm_Out) :=
  if ((nI 15) : Int32) < i3 then (some (.inl (10, [(0, .ref r0), (1, .int i1), (2, .int (i2 + 1))], [], lay, σ, 0, 0)))
  else ((zm_is lay r0 4).bind fun _ => (zm_ai (zM 97 [.ref r0, .int i2, .int i3] lay σ)).bind fun q1 =>
   if ¬ q1.1 = 1 then (some (.inl (33, [(0, .ref r0), (1, .int i1), (2, .int i2), (3, .int (i3 + 1))], [], q1.2.1, q1.2.2, 0, 0)))
   else ((zm_is q1.2.1 r0 4).bind fun _ => (zm_ai (zM 119 [.ref r0, .int i2, .int i3] q1.2.1 q1.2.2)).bind fun q2 =>
    if q2.1 = 0 then (some (.inl (33, [(0, .ref r0), (1, .int i1), (2, .int i2), (3, .int (i3 + 1))], [], q2.2.1, q2.2.2, 0, 0)))
    else (some (.inr (some (.int ((i2 * (nI 16)) + i3)), q2.2.1, q2.2.2)))))
set_option maxRecDepth 100000 in
theorem zr_118_33 (lay : zm_Lay) (σ : zm_Sig) (r0 : Nat) (i1 : Int32) (i2 : Int32) (i3 : Int32) : zm_blk zM zp_118 (some .int) 0 0 zc_118 49 (zp_118.drop 20) (33, [(0, .ref r0), (1, .int i1), (2, .int i2), (3, .int i3)], [], lay, σ, 0, 0) = zb_118_33 lay σ r0 i1 i2 i3 := rfl
theorem zg_118_33 {lay : zm_Lay} {σ : zm_Sig} {r0 : Nat} {i1 : Int32} {i2 : Int32} {i3 : Int32} {out : zm_Out} {r : zm_St ⊕ zm_Out} (h : zb_118_33 lay σ r0 i1 i2 i3 = some r) (hg : zm_end zp_P 118 out r) : zm_go zp_P 118 (33, [(0, .ref r0), (1, .int i1), (2, .int i2), (3, .int i3)], [], lay, σ, 0, 0) out :=
  zm_blk_go (M := zd_118) rfl zs_118 49 (zp_118.drop 20) _ r (fun _ h => List.mem_of_mem_drop h) ((zr_118_33 lay σ r0 i1 i2 i3).trans h) hg
/-! SubgroupWriter$Rules.fits(II)Z -/
theorem zs_119 : zm_srt zp_119 = true := by decide +kernel
noncomputable def zb_119_0 (lay : zm_Lay) (σ : zm_Sig) (r0 : Nat) (i1 : Int32) (i2 : Int32) : Option (zm_St ⊕ zm_Out) :=
  (zm_is lay r0 4).bind fun _ => (zm_av (zM 113 [.ref r0, .int i1, .int i2] lay σ)).bind fun q1 =>
  some (.inl (8, [(0, .ref r0), (1, .int i1), (2, .int i2), (3, .int 0)], [], q1.1, q1.2, 0, 0))
set_option maxRecDepth 100000 in
theorem zr_119_0 (lay : zm_Lay) (σ : zm_Sig) (r0 : Nat) (i1 : Int32) (i2 : Int32) : zm_blk zM zp_119 (some .boolean) 0 0 zc_119 35 (zp_119.drop 0) (0, [(0, .ref r0), (1, .int i1), (2, .int i2)], [], lay, σ, 0, 0) = zb_119_0 lay σ r0 i1 i2 := rfl
theorem ze_119 {lay : zm_Lay} {σ : zm_Sig} {r0 : Nat} {i1 : Int32} {i2 : Int32} {out : zm_Out} {r : zm_St ⊕ zm_Out} (h : zb_119_0 lay σ r0 i1 i2 = some r) (hg : zm_end zp_P 119 out r) : zM 119 [.ref r0, .int i1, .int i2] lay σ = some out :=
  zm_mean_go (M := zd_119) rfl (Nat.le_of_ble_eq_true rfl) (zm_blk_go (M := zd_119) rfl zs_119 35 (zp_119.drop 0) _ r (fun _ h => List.mem_of_mem_drop h) ((zr_119_0 lay σ r0 i1 i2).trans h) hg)
noncomputable def zb_119_8 (lay : zm_Lay) (σ : zm_Sig) (r0 : Nat) (i1 : Int32) (i2 : Int32) (i3 : Int32) : Option (zm_St ⊕ zm_Out) :=
  (zm_is lay r0 4).bind fun _ =>
  if (σ.1 r0 2) ≤ i3 then (some (.inr (some (.int 1), lay, σ)))
  else (if i3 = i1 then (some (.inl (8, [(0, .ref r0), (1, .int i1), (2, .int i2), (3, .int (i3 + 1))], [], lay, σ, 0, 0)))
   else ((zm_is lay r0 4).bind fun _ => (zm_ai (zM 97 [.ref r0, .int i3, .int i2] lay σ)).bind fun q1 =>
    if ¬ q1.1 = 0 then ((zm_is q1.2.1 r0 4).bind fun _ => (zm_av (zM 114 [.ref r0, .int i3, .int i2] q1.2.1 q1.2.2)).bind fun q2 =>
     (zm_is q2.1 r0 4).bind fun _ =>
     zm_opt (q2.2.2.2 r0 4) (fun q3 =>
     (zm_is q2.1 q3 8).bind fun _ =>
     if (q2.2.1 q3 1) ≤ (nI 16) then (some (.inl (8, [(0, .ref r0), (1, .int i1), (2, .int i2), (3, .int (i3 + 1))], [], q2.1, q2.2, 0, 0)))
     else (some (.inr (some (.int 0), q2.1, q2.2)))) (none))
    else (some (.inl (8, [(0, .ref r0), (1, .int i1), (2, .int i2), (3, .int (i3 + 1))], [], q1.2.1, q1.2.2, 0, 0)))))
set_option maxRecDepth 100000 in
theorem zr_119_8 (lay : zm_Lay) (σ : zm_Sig) (r0 : Nat) (i1 : Int32) (i2 : Int32) (i3 : Int32) : zm_blk zM zp_119 (some .boolean) 0 0 zc_119 35 (zp_119.drop 6) (8, [(0, .ref r0), (1, .int i1), (2, .int i2), (3, .int i3)], [], lay, σ, 0, 0) = zb_119_8 lay σ r0 i1 i2 i3 := rfl
theorem zg_119_8 {lay : zm_Lay} {σ : zm_Sig} {r0 : Nat} {i1 : Int32} {i2 : Int32} {i3 : Int32} {out : zm_Out} {r : zm_St ⊕ zm_Out} (h : zb_119_8 lay σ r0 i1 i2 i3 = some r) (hg : zm_end zp_P 119 out r) : zm_go zp_P 119 (8, [(0, .ref r0), (1, .int i1), (2, .int i2), (3, .int i3)], [], lay, σ, 0, 0) out :=
  zm_blk_go (M := zd_119) rfl zs_119 35 (zp_119.drop 6) _ r (fun _ h => List.mem_of_mem_drop h) ((zr_119_8 lay σ r0 i1 i2 i3).trans h) hg
/-! SubgroupWriter.turn(I)I -/
theorem zs_120 : zm_srt zp_120 = true := by decide +kernel
noncomputable def zb_120_0 (lay : zm_Lay) (σ : zm_Sig) (r0 : Nat) (i1 : Int32) : Option (zm_St ⊕ zm_Out) :=
  (zm_is lay r0 9).bind fun _ => (zm_ai (zM 121 [.ref r0, .int i1] lay σ)).bind fun q1 =>
  if q1.1 = 0 then ((zm_is q1.2.1 r0 9).bind fun _ =>
   zm_opt (q1.2.2.2.2 r0 3) (fun q2 =>
   (zm_is q1.2.1 q2 0).bind fun _ => (zm_av (zM 104 [.ref q2, .int 0, .int i1, .int 0] q1.2.1 q1.2.2)).bind fun q3 =>
   (zm_is q3.1 r0 9).bind fun _ =>
   zm_opt (q3.2.2.2 r0 3) (fun q4 =>
   (zm_is q3.1 q4 0).bind fun _ =>
   zm_opt (q3.2.2.2 q4 1) (fun q5 =>
   (zm_is q3.1 q5 4).bind fun _ =>
   zm_opt (q3.2.2.2 q5 1) (fun q6 =>
   (zm_gI q3.1 q3.2 q6 i1).bind fun v7 =>
   some (.inr (some (.int v7), q3.1, q3.2))) (none)) (none)) (none)) (none))
  else (some (.inr (some (.int q1.1), q1.2.1, q1.2.2)))
set_option maxRecDepth 100000 in
theorem zr_120_0 (lay : zm_Lay) (σ : zm_Sig) (r0 : Nat) (i1 : Int32) : zm_blk zM zp_120 (some .int) 0 0 zc_120 22 (zp_120.drop 0) (0, [(0, .ref r0), (1, .int i1)], [], lay, σ, 0, 0) = zb_120_0 lay σ r0 i1 := rfl
theorem ze_120 {lay : zm_Lay} {σ : zm_Sig} {r0 : Nat} {i1 : Int32} {out : zm_Out} {r : zm_St ⊕ zm_Out} (h : zb_120_0 lay σ r0 i1 = some r) (hg : zm_end zp_P 120 out r) : zM 120 [.ref r0, .int i1] lay σ = some out :=
  zm_mean_go (M := zd_120) rfl (Nat.le_of_ble_eq_true rfl) (zm_blk_go (M := zd_120) rfl zs_120 22 (zp_120.drop 0) _ r (fun _ h => List.mem_of_mem_drop h) ((zr_120_0 lay σ r0 i1).trans h) hg)
/-! SubgroupWriter.refusalOfTurn(I)I -/
theorem zs_121 : zm_srt zp_121 = true := by decide +kernel
noncomputable def zb_121_0 (lay : zm_Lay) (σ : zm_Sig) (r0 : Nat) (i1 : Int32) : Option (zm_St ⊕ zm_Out) :=
  (zm_is lay r0 9).bind fun _ =>
  zm_opt (σ.2.2 r0 3) (fun q1 =>
  (zm_is lay q1 0).bind fun _ =>
  zm_opt (σ.2.2 q1 1) (fun q2 =>
  (zm_is lay q2 4).bind fun _ => (zm_ai (zM 94 [.ref q2, .int i1] lay σ)).bind fun q3 =>
  if ¬ q3.1 = 0 then ((zm_is q3.2.1 r0 9).bind fun _ =>
   zm_opt (q3.2.2.2.2 r0 3) (fun q4 =>
   (zm_is q3.2.1 q4 0).bind fun _ =>
   zm_opt (q3.2.2.2.2 q4 1) (fun q5 =>
   (zm_is q3.2.1 q5 4).bind fun _ =>
   zm_opt (q3.2.2.2.2 q5 1) (fun q6 =>
   (zm_gI q3.2.1 q3.2.2 q6 i1).bind fun v7 =>
   if ¬ v7 = 0 then ((zm_is q3.2.1 r0 9).bind fun _ =>
    zm_opt (q3.2.2.2.2 r0 3) (fun q8 =>
    (zm_is q3.2.1 q8 0).bind fun _ => (zm_ai (zM 103 [.ref q8, .int 1] q3.2.1 q3.2.2)).bind fun q9 =>
    if q9.1 = 0 then (some (.inr (some (.int 0), q9.2.1, q9.2.2)))
    else (some (.inr (some (.int (-2)), q9.2.1, q9.2.2)))) (none))
   else (some (.inr (some (.int (-4)), q3.2.1, q3.2.2)))) (none)) (none)) (none))
  else (some (.inr (some (.int (-1)), q3.2.1, q3.2.2)))) (none)) (none)
set_option maxRecDepth 100000 in
theorem zr_121_0 (lay : zm_Lay) (σ : zm_Sig) (r0 : Nat) (i1 : Int32) : zm_blk zM zp_121 (some .int) 0 0 zc_121 27 (zp_121.drop 0) (0, [(0, .ref r0), (1, .int i1)], [], lay, σ, 0, 0) = zb_121_0 lay σ r0 i1 := rfl
theorem ze_121 {lay : zm_Lay} {σ : zm_Sig} {r0 : Nat} {i1 : Int32} {out : zm_Out} {r : zm_St ⊕ zm_Out} (h : zb_121_0 lay σ r0 i1 = some r) (hg : zm_end zp_P 121 out r) : zM 121 [.ref r0, .int i1] lay σ = some out :=
  zm_mean_go (M := zd_121) rfl (Nat.le_of_ble_eq_true rfl) (zm_blk_go (M := zd_121) rfl zs_121 27 (zp_121.drop 0) _ r (fun _ h => List.mem_of_mem_drop h) ((zr_121_0 lay σ r0 i1).trans h) hg)
/-! SubgroupWriter.over(I)I -/
theorem zs_122 : zm_srt zp_122 = true := by decide +kernel
noncomputable def zb_122_0 (lay : zm_Lay) (σ : zm_Sig) (r0 : Nat) (i1 : Int32) : Option (zm_St ⊕ zm_Out) :=
  (zm_is lay r0 9).bind fun _ => (zm_ai (zM 121 [.ref r0, .int i1] lay σ)).bind fun q1 =>
  if q1.1 = 0 then ((zm_is q1.2.1 r0 9).bind fun _ =>
   zm_opt (q1.2.2.2.2 r0 3) (fun q2 =>
   (zm_is q1.2.1 q2 0).bind fun _ => (zm_av (zM 104 [.ref q2, .int 1, .int i1, .int 0] q1.2.1 q1.2.2)).bind fun q3 =>
   (zm_is q3.1 r0 9).bind fun _ =>
   zm_opt (q3.2.2.2 r0 3) (fun q4 =>
   (zm_is q3.1 q4 0).bind fun _ =>
   zm_opt (q3.2.2.2 q4 1) (fun q5 =>
   (zm_is q3.1 q5 4).bind fun _ =>
   zm_opt (q3.2.2.2 q5 1) (fun q6 =>
   (zm_gI q3.1 q3.2 q6 i1).bind fun v7 =>
   some (.inr (some (.int v7), q3.1, q3.2))) (none)) (none)) (none)) (none))
  else (some (.inr (some (.int q1.1), q1.2.1, q1.2.2)))
set_option maxRecDepth 100000 in
theorem zr_122_0 (lay : zm_Lay) (σ : zm_Sig) (r0 : Nat) (i1 : Int32) : zm_blk zM zp_122 (some .int) 0 0 zc_122 22 (zp_122.drop 0) (0, [(0, .ref r0), (1, .int i1)], [], lay, σ, 0, 0) = zb_122_0 lay σ r0 i1 := rfl
theorem ze_122 {lay : zm_Lay} {σ : zm_Sig} {r0 : Nat} {i1 : Int32} {out : zm_Out} {r : zm_St ⊕ zm_Out} (h : zb_122_0 lay σ r0 i1 = some r) (hg : zm_end zp_P 122 out r) : zM 122 [.ref r0, .int i1] lay σ = some out :=
  zm_mean_go (M := zd_122) rfl (Nat.le_of_ble_eq_true rfl) (zm_blk_go (M := zd_122) rfl zs_122 22 (zp_122.drop 0) _ r (fun _ h => List.mem_of_mem_drop h) ((zr_122_0 lay σ r0 i1).trans h) hg)
/-! SubgroupWriter.join(II)I -/
theorem zs_123 : zm_srt zp_123 = true := by decide +kernel
noncomputable def zb_123_0 (lay : zm_Lay) (σ : zm_Sig) (r0 : Nat) (i1 : Int32) (i2 : Int32) : Option (zm_St ⊕ zm_Out) :=
  (zm_is lay r0 9).bind fun _ =>
  zm_opt (σ.2.2 r0 3) (fun q1 =>
  (zm_is lay q1 0).bind fun _ =>
  zm_opt (σ.2.2 q1 1) (fun q2 =>
  (zm_is lay q2 4).bind fun _ => (zm_ai (zM 94 [.ref q2, .int i1] lay σ)).bind fun q3 =>
  if q3.1 = 0 then (some (.inr (some (.int (-1)), q3.2.1, q3.2.2)))
  else ((zm_is q3.2.1 r0 9).bind fun _ =>
   zm_opt (q3.2.2.2.2 r0 3) (fun q4 =>
   (zm_is q3.2.1 q4 0).bind fun _ =>
   zm_opt (q3.2.2.2.2 q4 1) (fun q5 =>
   (zm_is q3.2.1 q5 4).bind fun _ => (zm_ai (zM 94 [.ref q5, .int i2] q3.2.1 q3.2.2)).bind fun q6 =>
   if q6.1 = 0 then (some (.inr (some (.int (-1)), q6.2.1, q6.2.2)))
   else (if ¬ i1 = i2 then ((zm_is q6.2.1 r0 9).bind fun _ =>
     zm_opt (q6.2.2.2.2 r0 3) (fun q7 =>
     (zm_is q6.2.1 q7 0).bind fun _ =>
     zm_opt (q6.2.2.2.2 q7 1) (fun q8 =>
     (zm_is q6.2.1 q8 4).bind fun _ => (zm_ai (zM 110 [.ref q8, .int i1, .int i2] q6.2.1 q6.2.2)).bind fun q9 =>
     if ¬ q9.1 = 0 then ((zm_is q9.2.1 r0 9).bind fun _ =>
      zm_opt (q9.2.2.2.2 r0 3) (fun q10 =>
      (zm_is q9.2.1 q10 0).bind fun _ => (zm_ai (zM 103 [.ref q10, .int 1] q9.2.1 q9.2.2)).bind fun q11 =>
      if q11.1 = 0 then ((zm_is q11.2.1 r0 9).bind fun _ =>
       zm_opt (q11.2.2.2.2 r0 3) (fun q12 =>
       (zm_is q11.2.1 q12 0).bind fun _ => (zm_av (zM 104 [.ref q12, .int (nI 2), .int i1, .int i2] q11.2.1 q11.2.2)).bind fun q13 =>
       (zm_is q13.1 r0 9).bind fun _ =>
       zm_opt (q13.2.2.2 r0 3) (fun q14 =>
       (zm_is q13.1 q14 0).bind fun _ =>
       zm_opt (q13.2.2.2 q14 1) (fun q15 =>
       (zm_is q13.1 q15 4).bind fun _ =>
       zm_opt (q13.2.2.2 q15 1) (fun q16 =>
       (zm_gI q13.1 q13.2 q16 i1).bind fun v17 =>
       some (.inr (some (.int v17), q13.1, q13.2))) (none)) (none)) (none)) (none))
      else (some (.inr (some (.int (-2)), q11.2.1, q11.2.2)))) (none))
     else (some (.inr (some (.int (-6)), q9.2.1, q9.2.2)))) (none)) (none))
    else (some (.inr (some (.int (-1)), q6.2.1, q6.2.2))))) (none)) (none))) (none)) (none)
set_option maxRecDepth 100000 in
theorem zr_123_0 (lay : zm_Lay) (σ : zm_Sig) (r0 : Nat) (i1 : Int32) (i2 : Int32) : zm_blk zM zp_123 (some .int) 0 0 zc_123 47 (zp_123.drop 0) (0, [(0, .ref r0), (1, .int i1), (2, .int i2)], [], lay, σ, 0, 0) = zb_123_0 lay σ r0 i1 i2 := rfl
theorem ze_123 {lay : zm_Lay} {σ : zm_Sig} {r0 : Nat} {i1 : Int32} {i2 : Int32} {out : zm_Out} {r : zm_St ⊕ zm_Out} (h : zb_123_0 lay σ r0 i1 i2 = some r) (hg : zm_end zp_P 123 out r) : zM 123 [.ref r0, .int i1, .int i2] lay σ = some out :=
  zm_mean_go (M := zd_123) rfl (Nat.le_of_ble_eq_true rfl) (zm_blk_go (M := zd_123) rfl zs_123 47 (zp_123.drop 0) _ r (fun _ h => List.mem_of_mem_drop h) ((zr_123_0 lay σ r0 i1 i2).trans h) hg)
/-! SubgroupWriter.cut(I)I -/
theorem zs_124 : zm_srt zp_124 = true := by decide +kernel
noncomputable def zb_124_0 (lay : zm_Lay) (σ : zm_Sig) (r0 : Nat) (i1 : Int32) : Option (zm_St ⊕ zm_Out) :=
  (zm_is lay r0 9).bind fun _ =>
  zm_opt (σ.2.2 r0 3) (fun q1 =>
  (zm_is lay q1 0).bind fun _ =>
  zm_opt (σ.2.2 q1 1) (fun q2 =>
  (zm_is lay q2 4).bind fun _ => (zm_ai (zM 94 [.ref q2, .int i1] lay σ)).bind fun q3 =>
  if ¬ q3.1 = 0 then ((zm_is q3.2.1 r0 9).bind fun _ =>
   zm_opt (q3.2.2.2.2 r0 3) (fun q4 =>
   (zm_is q3.2.1 q4 0).bind fun _ =>
   zm_opt (q3.2.2.2.2 q4 1) (fun q5 =>
   (zm_is q3.2.1 q5 4).bind fun _ => (zm_ai (zM 117 [.ref q5, .int i1] q3.2.1 q3.2.2)).bind fun q6 =>
   if ¬ q6.1 = 0 then ((zm_is q6.2.1 r0 9).bind fun _ =>
    zm_opt (q6.2.2.2.2 r0 3) (fun q7 =>
    (zm_is q6.2.1 q7 0).bind fun _ => (zm_ai (zM 103 [.ref q7, .int 1] q6.2.1 q6.2.2)).bind fun q8 =>
    if q8.1 = 0 then ((zm_is q8.2.1 r0 9).bind fun _ =>
     zm_opt (q8.2.2.2.2 r0 3) (fun q9 =>
     (zm_is q8.2.1 q9 0).bind fun _ => (zm_av (zM 104 [.ref q9, .int (nI 3), .int i1, .int 0] q8.2.1 q8.2.2)).bind fun q10 =>
     (zm_is q10.1 r0 9).bind fun _ =>
     zm_opt (q10.2.2.2 r0 3) (fun q11 =>
     (zm_is q10.1 q11 0).bind fun _ =>
     zm_opt (q10.2.2.2 q11 1) (fun q12 =>
     (zm_is q10.1 q12 4).bind fun _ =>
     some (.inr (some (.int (q10.2.1 q12 2)), q10.1, q10.2))) (none)) (none)) (none))
    else (some (.inr (some (.int (-2)), q8.2.1, q8.2.2)))) (none))
   else (some (.inr (some (.int (-4)), q6.2.1, q6.2.2)))) (none)) (none))
  else (some (.inr (some (.int (-1)), q3.2.1, q3.2.2)))) (none)) (none)
set_option maxRecDepth 100000 in
theorem zr_124_0 (lay : zm_Lay) (σ : zm_Sig) (r0 : Nat) (i1 : Int32) : zm_blk zM zp_124 (some .int) 0 0 zc_124 35 (zp_124.drop 0) (0, [(0, .ref r0), (1, .int i1)], [], lay, σ, 0, 0) = zb_124_0 lay σ r0 i1 := rfl
theorem ze_124 {lay : zm_Lay} {σ : zm_Sig} {r0 : Nat} {i1 : Int32} {out : zm_Out} {r : zm_St ⊕ zm_Out} (h : zb_124_0 lay σ r0 i1 = some r) (hg : zm_end zp_P 124 out r) : zM 124 [.ref r0, .int i1] lay σ = some out :=
  zm_mean_go (M := zd_124) rfl (Nat.le_of_ble_eq_true rfl) (zm_blk_go (M := zd_124) rfl zs_124 35 (zp_124.drop 0) _ r (fun _ h => List.mem_of_mem_drop h) ((zr_124_0 lay σ r0 i1).trans h) hg)
/-! SubgroupWriter.solve(II)I -/
theorem zs_125 : zm_srt zp_125 = true := by decide +kernel
noncomputable def zb_125_0 (lay : zm_Lay) (σ : zm_Sig) (r0 : Nat) (i1 : Int32) (i2 : Int32) : Option (zm_St ⊕ zm_Out) :=
  (zm_is lay r0 9).bind fun _ =>
  zm_opt (σ.2.2 r0 3) (fun q1 =>
  (zm_is lay q1 0).bind fun _ =>
  zm_opt (σ.2.2 q1 1) (fun q2 =>
  (zm_is lay q2 4).bind fun _ => (zm_ai (zM 94 [.ref q2, .int i1] lay σ)).bind fun q3 =>
  if q3.1 = 0 then (some (.inr (some (.int (-1)), q3.2.1, q3.2.2)))
  else ((zm_is q3.2.1 r0 9).bind fun _ =>
   zm_opt (q3.2.2.2.2 r0 3) (fun q4 =>
   (zm_is q3.2.1 q4 0).bind fun _ =>
   zm_opt (q3.2.2.2.2 q4 1) (fun q5 =>
   (zm_is q3.2.1 q5 4).bind fun _ => (zm_ai (zM 83 [.ref q5, .int i2] q3.2.1 q3.2.2)).bind fun q6 =>
   if ¬ q6.1 = 0 then ((zm_is q6.2.1 r0 9).bind fun _ =>
    zm_opt (q6.2.2.2.2 r0 3) (fun q7 =>
    (zm_is q6.2.1 q7 0).bind fun _ =>
    zm_opt (q6.2.2.2.2 q7 1) (fun q8 =>
    (zm_is q6.2.1 q8 4).bind fun _ => (zm_ai (zM 97 [.ref q8, .int i1, .int i2] q6.2.1 q6.2.2)).bind fun q9 =>
    if q9.1 = 1 then ((zm_is q9.2.1 r0 9).bind fun _ =>
     zm_opt (q9.2.2.2.2 r0 3) (fun q10 =>
     (zm_is q9.2.1 q10 0).bind fun _ =>
     zm_opt (q9.2.2.2.2 q10 1) (fun q11 =>
     (zm_is q9.2.1 q11 4).bind fun _ => (zm_ai (zM 119 [.ref q11, .int i1, .int i2] q9.2.1 q9.2.2)).bind fun q12 =>
     if ¬ q12.1 = 0 then ((zm_is q12.2.1 r0 9).bind fun _ =>
      zm_opt (q12.2.2.2.2 r0 3) (fun q13 =>
      (zm_is q12.2.1 q13 0).bind fun _ => (zm_ai (zM 103 [.ref q13, .int 1] q12.2.1 q12.2.2)).bind fun q14 =>
      if q14.1 = 0 then ((zm_is q14.2.1 r0 9).bind fun _ =>
       zm_opt (q14.2.2.2.2 r0 3) (fun q15 =>
       (zm_is q14.2.1 q15 0).bind fun _ => (zm_av (zM 104 [.ref q15, .int (nI 4), .int i1, .int i2] q14.2.1 q14.2.2)).bind fun q16 =>
       (zm_is q16.1 r0 9).bind fun _ =>
       zm_opt (q16.2.2.2 r0 3) (fun q17 =>
       (zm_is q16.1 q17 0).bind fun _ =>
       zm_opt (q16.2.2.2 q17 1) (fun q18 =>
       (zm_is q16.1 q18 4).bind fun _ =>
       some (.inr (some (.int (q16.2.1 q18 2)), q16.1, q16.2))) (none)) (none)) (none))
      else (some (.inr (some (.int (-2)), q14.2.1, q14.2.2)))) (none))
     else (some (.inr (some (.int (-6)), q12.2.1, q12.2.2)))) (none)) (none))
    else (some (.inr (some (.int (-4)), q9.2.1, q9.2.2)))) (none)) (none))
   else (some (.inr (some (.int (-1)), q6.2.1, q6.2.2)))) (none)) (none))) (none)) (none)
set_option maxRecDepth 100000 in
theorem zr_125_0 (lay : zm_Lay) (σ : zm_Sig) (r0 : Nat) (i1 : Int32) (i2 : Int32) : zm_blk zM zp_125 (some .int) 0 0 zc_125 52 (zp_125.drop 0) (0, [(0, .ref r0), (1, .int i1), (2, .int i2)], [], lay, σ, 0, 0) = zb_125_0 lay σ r0 i1 i2 := rfl
theorem ze_125 {lay : zm_Lay} {σ : zm_Sig} {r0 : Nat} {i1 : Int32} {i2 : Int32} {out : zm_Out} {r : zm_St ⊕ zm_Out} (h : zb_125_0 lay σ r0 i1 i2 = some r) (hg : zm_end zp_P 125 out r) : zM 125 [.ref r0, .int i1, .int i2] lay σ = some out :=
  zm_mean_go (M := zd_125) rfl (Nat.le_of_ble_eq_true rfl) (zm_blk_go (M := zd_125) rfl zs_125 52 (zp_125.drop 0) _ r (fun _ h => List.mem_of_mem_drop h) ((zr_125_0 lay σ r0 i1 i2).trans h) hg)
/-! SubgroupWriter.shorten()I -/
theorem zs_126 : zm_srt zp_126 = true := by decide +kernel
noncomputable def zb_126_0 (lay : zm_Lay) (σ : zm_Sig) (r0 : Nat) : Option (zm_St ⊕ zm_Out) :=
  (zm_is lay r0 9).bind fun _ =>
  zm_opt (σ.2.2 r0 11) (fun q1 =>
  (zm_is lay q1 1).bind fun _ =>
  if (σ.1 q1 0) = 0 then (some (.inr (some (.int (-4)), lay, σ)))
  else ((zm_is lay r0 9).bind fun _ =>
   zm_opt (σ.2.2 r0 3) (fun q2 =>
   (zm_is lay q2 0).bind fun _ =>
   zm_opt (σ.2.2 q2 1) (fun q3 =>
   (zm_is lay q3 4).bind fun _ => (zm_ai (zM 127 [.ref q3] lay σ)).bind fun q4 =>
   if ¬ q4.1 = 0 then ((zm_is q4.2.1 r0 9).bind fun _ =>
    zm_opt (q4.2.2.2.2 r0 3) (fun q5 =>
    (zm_is q4.2.1 q5 0).bind fun _ => (zm_ai (zM 103 [.ref q5, .int 1] q4.2.1 q4.2.2)).bind fun q6 =>
    if q6.1 = 0 then ((zm_is q6.2.1 r0 9).bind fun _ =>
     zm_opt (q6.2.2.2.2 r0 3) (fun q7 =>
     (zm_is q6.2.1 q7 0).bind fun _ =>
     zm_opt (q6.2.2.2.2 q7 1) (fun q8 =>
     (zm_is q6.2.1 q8 4).bind fun _ =>
     (zm_is q6.2.1 r0 9).bind fun _ =>
     zm_opt (q6.2.2.2.2 r0 3) (fun q9 =>
     (zm_is q6.2.1 q9 0).bind fun _ => (zm_av (zM 104 [.ref q9, .int (nI 6), .int 0, .int 0] q6.2.1 q6.2.2)).bind fun q10 =>
     (zm_is q10.1 r0 9).bind fun _ =>
     zm_opt (q10.2.2.2 r0 3) (fun q11 =>
     (zm_is q10.1 q11 0).bind fun _ =>
     zm_opt (q10.2.2.2 q11 1) (fun q12 =>
     (zm_is q10.1 q12 4).bind fun _ =>
     some (.inr (some (.int ((q6.2.2.1 q8 2) - (q10.2.1 q12 2))), q10.1, q10.2))) (none)) (none)) (none)) (none)) (none))
    else (some (.inr (some (.int (-2)), q6.2.1, q6.2.2)))) (none))
   else (some (.inr (some (.int (-4)), q4.2.1, q4.2.2)))) (none)) (none))) (none)
set_option maxRecDepth 100000 in
theorem zr_126_0 (lay : zm_Lay) (σ : zm_Sig) (r0 : Nat) : zm_blk zM zp_126 (some .int) 0 0 zc_126 37 (zp_126.drop 0) (0, [(0, .ref r0)], [], lay, σ, 0, 0) = zb_126_0 lay σ r0 := rfl
theorem ze_126 {lay : zm_Lay} {σ : zm_Sig} {r0 : Nat} {out : zm_Out} {r : zm_St ⊕ zm_Out} (h : zb_126_0 lay σ r0 = some r) (hg : zm_end zp_P 126 out r) : zM 126 [.ref r0] lay σ = some out :=
  zm_mean_go (M := zd_126) rfl (Nat.le_of_ble_eq_true rfl) (zm_blk_go (M := zd_126) rfl zs_126 37 (zp_126.drop 0) _ r (fun _ h => List.mem_of_mem_drop h) ((zr_126_0 lay σ r0).trans h) hg)
/-! SubgroupWriter$Rules.canShorten()Z -/
theorem zs_127 : zm_srt zp_127 = true := by decide +kernel
noncomputable def zb_127_0 (lay : zm_Lay) (σ : zm_Sig) (r0 : Nat) : Option (zm_St ⊕ zm_Out) :=
  (zm_is lay r0 4).bind fun _ => (zm_ai (zM 116 [.ref r0] lay σ)).bind fun q1 =>
  if ¬ q1.1 = (-1) then (some (.inr (some (.int 1), q1.2.1, q1.2.2)))
  else ((zm_is q1.2.1 r0 4).bind fun _ => (zm_ai (zM 118 [.ref r0] q1.2.1 q1.2.2)).bind fun q2 =>
   if q2.1 = (-1) then (some (.inr (some (.int 0), q2.2.1, q2.2.2)))
   else (some (.inr (some (.int 1), q2.2.1, q2.2.2))))
set_option maxRecDepth 100000 in
theorem zr_127_0 (lay : zm_Lay) (σ : zm_Sig) (r0 : Nat) : zm_blk zM zp_127 (some .boolean) 0 0 zc_127 13 (zp_127.drop 0) (0, [(0, .ref r0)], [], lay, σ, 0, 0) = zb_127_0 lay σ r0 := rfl
theorem ze_127 {lay : zm_Lay} {σ : zm_Sig} {r0 : Nat} {out : zm_Out} {r : zm_St ⊕ zm_Out} (h : zb_127_0 lay σ r0 = some r) (hg : zm_end zp_P 127 out r) : zM 127 [.ref r0] lay σ = some out :=
  zm_mean_go (M := zd_127) rfl (Nat.le_of_ble_eq_true rfl) (zm_blk_go (M := zd_127) rfl zs_127 13 (zp_127.drop 0) _ r (fun _ h => List.mem_of_mem_drop h) ((zr_127_0 lay σ r0).trans h) hg)
/-! SubgroupWriter.undo(I)I -/
theorem zs_128 : zm_srt zp_128 = true := by decide +kernel
noncomputable def zb_128_0 (lay : zm_Lay) (σ : zm_Sig) (r0 : Nat) (i1 : Int32) : Option (zm_St ⊕ zm_Out) :=
  if i1 < 0 then (some (.inr (some (.int (-1)), lay, σ)))
  else ((zm_is lay r0 9).bind fun _ =>
   zm_opt (σ.2.2 r0 3) (fun q1 =>
   (zm_is lay q1 0).bind fun _ =>
   zm_opt (σ.2.2 q1 2) (fun q2 =>
   (zm_is lay q2 6).bind fun _ =>
   if i1 ≤ (σ.1 q2 3) then ((zm_is lay r0 9).bind fun _ =>
    zm_opt (σ.2.2 r0 3) (fun q3 =>
    (zm_is lay q3 0).bind fun _ =>
    zm_opt (σ.2.2 q3 2) (fun q4 =>
    (zm_is lay q4 6).bind fun _ =>
    (zm_is lay r0 9).bind fun _ =>
    zm_opt (σ.2.2 r0 3) (fun q5 =>
    (zm_is lay q5 0).bind fun _ =>
    zm_opt (σ.2.2 q5 2) (fun q6 =>
    (zm_is lay q6 6).bind fun _ => (zm_fw σ q6 3 0 (.int i1)).bind fun s7 =>
    (zm_is lay r0 9).bind fun _ =>
    zm_opt (s7.2.2 r0 3) (fun q8 =>
    (zm_is lay q8 0).bind fun _ => (zm_av (zM 129 [.ref q8] lay s7)).bind fun q9 =>
    some (.inr (some (.int ((σ.1 q4 3) - i1)), q9.1, q9.2))) (none)) (none)) (none)) (none)) (none))
   else (some (.inr (some (.int (-1)), lay, σ)))) (none)) (none))
set_option maxRecDepth 100000 in
theorem zr_128_0 (lay : zm_Lay) (σ : zm_Sig) (r0 : Nat) (i1 : Int32) : zm_blk zM zp_128 (some .int) 0 0 zc_128 28 (zp_128.drop 0) (0, [(0, .ref r0), (1, .int i1)], [], lay, σ, 0, 0) = zb_128_0 lay σ r0 i1 := rfl
theorem ze_128 {lay : zm_Lay} {σ : zm_Sig} {r0 : Nat} {i1 : Int32} {out : zm_Out} {r : zm_St ⊕ zm_Out} (h : zb_128_0 lay σ r0 i1 = some r) (hg : zm_end zp_P 128 out r) : zM 128 [.ref r0, .int i1] lay σ = some out :=
  zm_mean_go (M := zd_128) rfl (Nat.le_of_ble_eq_true rfl) (zm_blk_go (M := zd_128) rfl zs_128 28 (zp_128.drop 0) _ r (fun _ h => List.mem_of_mem_drop h) ((zr_128_0 lay σ r0 i1).trans h) hg)
/-! SubgroupWriter$Book.replay()V -/
theorem zs_129 : zm_srt zp_129 = true := by decide +kernel
noncomputable def zb_129_0 (lay : zm_Lay) (σ : zm_Sig) (r0 : Nat) : Option (zm_St ⊕ zm_Out) :=
  (zm_is lay r0 0).bind fun _ => (zm_av (zM 51 [.ref r0, .int 0] lay σ)).bind fun q1 =>
  some (.inl (7, [(0, .ref r0), (1, .int 0)], [], q1.1, q1.2, 0, 0))
set_option maxRecDepth 100000 in
theorem zr_129_0 (lay : zm_Lay) (σ : zm_Sig) (r0 : Nat) : zm_blk zM zp_129 none 0 0 zc_129 31 (zp_129.drop 0) (0, [(0, .ref r0)], [], lay, σ, 0, 0) = zb_129_0 lay σ r0 := rfl
theorem ze_129 {lay : zm_Lay} {σ : zm_Sig} {r0 : Nat} {out : zm_Out} {r : zm_St ⊕ zm_Out} (h : zb_129_0 lay σ r0 = some r) (hg : zm_end zp_P 129 out r) : zM 129 [.ref r0] lay σ = some out :=
  zm_mean_go (M := zd_129) rfl (Nat.le_of_ble_eq_true rfl) (zm_blk_go (M := zd_129) rfl zs_129 31 (zp_129.drop 0) _ r (fun _ h => List.mem_of_mem_drop h) ((zr_129_0 lay σ r0).trans h) hg)
noncomputable def zb_129_7 (lay : zm_Lay) (σ : zm_Sig) (r0 : Nat) (i1 : Int32) : Option (zm_St ⊕ zm_Out) :=
  (zm_is lay r0 0).bind fun _ =>
  zm_opt (σ.2.2 r0 2) (fun q1 =>
  (zm_is lay q1 6).bind fun _ =>
  if (σ.1 q1 3) ≤ i1 then (some (.inr (none, lay, σ)))
  else ((zm_is lay r0 0).bind fun _ =>
   zm_opt (σ.2.2 r0 2) (fun q2 =>
   (zm_is lay q2 6).bind fun _ =>
   zm_opt (σ.2.2 q2 0) (fun q3 =>
   (zm_gI lay σ q3 i1).bind fun v4 =>
   (zm_is lay r0 0).bind fun _ =>
   zm_opt (σ.2.2 r0 2) (fun q5 =>
   (zm_is lay q5 6).bind fun _ =>
   zm_opt (σ.2.2 q5 1) (fun q6 =>
   (zm_gI lay σ q6 i1).bind fun v7 =>
   (zm_is lay r0 0).bind fun _ =>
   zm_opt (σ.2.2 r0 2) (fun q8 =>
   (zm_is lay q8 6).bind fun _ =>
   zm_opt (σ.2.2 q8 2) (fun q9 =>
   (zm_gI lay σ q9 i1).bind fun v10 =>
   (zm_is lay r0 0).bind fun _ => (zm_av (zM 106 [.ref r0, .int v4, .int v7, .int v10] lay σ)).bind fun q11 =>
   some (.inl (7, [(0, .ref r0), (1, .int (i1 + 1))], [], q11.1, q11.2, 0, 0))) (none)) (none)) (none)) (none)) (none)) (none))) (none)
set_option maxRecDepth 100000 in
theorem zr_129_7 (lay : zm_Lay) (σ : zm_Sig) (r0 : Nat) (i1 : Int32) : zm_blk zM zp_129 none 0 0 zc_129 31 (zp_129.drop 5) (7, [(0, .ref r0), (1, .int i1)], [], lay, σ, 0, 0) = zb_129_7 lay σ r0 i1 := rfl
theorem zg_129_7 {lay : zm_Lay} {σ : zm_Sig} {r0 : Nat} {i1 : Int32} {out : zm_Out} {r : zm_St ⊕ zm_Out} (h : zb_129_7 lay σ r0 i1 = some r) (hg : zm_end zp_P 129 out r) : zm_go zp_P 129 (7, [(0, .ref r0), (1, .int i1)], [], lay, σ, 0, 0) out :=
  zm_blk_go (M := zd_129) rfl zs_129 31 (zp_129.drop 5) _ r (fun _ h => List.mem_of_mem_drop h) ((zr_129_7 lay σ r0 i1).trans h) hg
/-! SubgroupWriter.keep(I)I -/
theorem zs_130 : zm_srt zp_130 = true := by decide +kernel
noncomputable def zb_130_0 (lay : zm_Lay) (σ : zm_Sig) (r0 : Nat) (i1 : Int32) : Option (zm_St ⊕ zm_Out) :=
  if i1 < 0 then (some (.inr (some (.int (-1)), lay, σ)))
  else (if i1 < (nI 3) then ((zm_is lay r0 9).bind fun _ =>
    zm_opt (σ.2.2 r0 11) (fun q1 =>
    (zm_is lay q1 1).bind fun _ =>
    if ¬ (σ.1 q1 0) = 0 then ((zm_is lay r0 9).bind fun _ =>
     zm_opt (σ.2.2 r0 4) (fun q2 =>
     (zm_gR lay σ q2 i1).bind fun o3 => zm_opt o3 (fun q4 =>
     (zm_is lay r0 9).bind fun _ =>
     zm_opt (σ.2.2 r0 3) (fun q5 =>
     (zm_is lay q5 0).bind fun _ =>
     zm_opt (σ.2.2 q5 2) (fun q6 =>
     (zm_is lay q4 6).bind fun _ => (zm_av (zM 131 [.ref q4, .ref q6] lay σ)).bind fun q7 =>
     (zm_is q7.1 r0 9).bind fun _ =>
     zm_opt (q7.2.2.2 r0 4) (fun q8 =>
     (zm_gR q7.1 q7.2 q8 i1).bind fun o9 => zm_opt o9 (fun q10 =>
     (zm_is q7.1 q10 6).bind fun _ =>
     some (.inr (some (.int (q7.2.1 q10 3)), q7.1, q7.2))) none) (none)) (none)) (none)) none) (none))
    else (some (.inr (some (.int (-4)), lay, σ)))) (none))
   else (some (.inr (some (.int (-1)), lay, σ))))
set_option maxRecDepth 100000 in
theorem zr_130_0 (lay : zm_Lay) (σ : zm_Sig) (r0 : Nat) (i1 : Int32) : zm_blk zM zp_130 (some .int) 0 0 zc_130 28 (zp_130.drop 0) (0, [(0, .ref r0), (1, .int i1)], [], lay, σ, 0, 0) = zb_130_0 lay σ r0 i1 := rfl
theorem ze_130 {lay : zm_Lay} {σ : zm_Sig} {r0 : Nat} {i1 : Int32} {out : zm_Out} {r : zm_St ⊕ zm_Out} (h : zb_130_0 lay σ r0 i1 = some r) (hg : zm_end zp_P 130 out r) : zM 130 [.ref r0, .int i1] lay σ = some out :=
  zm_mean_go (M := zd_130) rfl (Nat.le_of_ble_eq_true rfl) (zm_blk_go (M := zd_130) rfl zs_130 28 (zp_130.drop 0) _ r (fun _ h => List.mem_of_mem_drop h) ((zr_130_0 lay σ r0 i1).trans h) hg)
/-! SubgroupWriter$Trail.takeFrom(LSubgroupWriter$Trail;)V -/
theorem zs_131 : zm_srt zp_131 = true := by decide +kernel
noncomputable def zb_131_0 (lay : zm_Lay) (σ : zm_Sig) (r0 : Nat) (r1 : Nat) : Option (zm_St ⊕ zm_Out) :=
  (zm_is lay r1 6).bind fun _ =>
  zm_opt (σ.2.2 r1 0) (fun q1 =>
  (zm_is lay r0 6).bind fun _ =>
  zm_opt (σ.2.2 r0 0) (fun q2 =>
  (zm_cpy lay σ q1 0 q2 0 (nI 20)).bind fun s3 =>
  (zm_is lay r1 6).bind fun _ =>
  zm_opt (s3.2.2 r1 1) (fun q4 =>
  (zm_is lay r0 6).bind fun _ =>
  zm_opt (s3.2.2 r0 1) (fun q5 =>
  (zm_cpy lay s3 q4 0 q5 0 (nI 20)).bind fun s6 =>
  (zm_is lay r1 6).bind fun _ =>
  zm_opt (s6.2.2 r1 2) (fun q7 =>
  (zm_is lay r0 6).bind fun _ =>
  zm_opt (s6.2.2 r0 2) (fun q8 =>
  (zm_cpy lay s6 q7 0 q8 0 (nI 20)).bind fun s9 =>
  (zm_is lay r1 6).bind fun _ =>
  (zm_is lay r0 6).bind fun _ => (zm_fw s9 r0 3 0 (.int (s9.1 r1 3))).bind fun s10 =>
  some (.inr (none, lay, s10))) (none)) (none)) (none)) (none)) (none)) (none)
set_option maxRecDepth 100000 in
theorem zr_131_0 (lay : zm_Lay) (σ : zm_Sig) (r0 : Nat) (r1 : Nat) : zm_blk zM zp_131 none 0 0 zc_131 30 (zp_131.drop 0) (0, [(0, .ref r0), (1, .ref r1)], [], lay, σ, 0, 0) = zb_131_0 lay σ r0 r1 := rfl
theorem ze_131 {lay : zm_Lay} {σ : zm_Sig} {r0 : Nat} {r1 : Nat} {out : zm_Out} {r : zm_St ⊕ zm_Out} (h : zb_131_0 lay σ r0 r1 = some r) (hg : zm_end zp_P 131 out r) : zM 131 [.ref r0, .ref r1] lay σ = some out :=
  zm_mean_go (M := zd_131) rfl (Nat.le_of_ble_eq_true rfl) (zm_blk_go (M := zd_131) rfl zs_131 30 (zp_131.drop 0) _ r (fun _ h => List.mem_of_mem_drop h) ((zr_131_0 lay σ r0 r1).trans h) hg)
/-! SubgroupWriter.on(I)I -/
theorem zs_132 : zm_srt zp_132 = true := by decide +kernel
noncomputable def zb_132_0 (lay : zm_Lay) (σ : zm_Sig) (r0 : Nat) (i1 : Int32) : Option (zm_St ⊕ zm_Out) :=
  if i1 < 0 then (some (.inr (some (.int (-1)), lay, σ)))
  else (if i1 < (nI 3) then ((zm_is lay r0 9).bind fun _ =>
    zm_opt (σ.2.2 r0 4) (fun q1 =>
    (zm_gR lay σ q1 i1).bind fun o2 => zm_opt o2 (fun q3 =>
    (zm_is lay q3 6).bind fun _ =>
    if ¬ (σ.1 q3 3) = (-1) then ((zm_is lay r0 9).bind fun _ =>
     zm_opt (σ.2.2 r0 3) (fun q4 =>
     (zm_is lay q4 0).bind fun _ =>
     zm_opt (σ.2.2 q4 2) (fun q5 =>
     (zm_is lay r0 9).bind fun _ =>
     zm_opt (σ.2.2 r0 4) (fun q6 =>
     (zm_gR lay σ q6 i1).bind fun o7 => zm_opt o7 (fun q8 =>
     (zm_is lay q5 6).bind fun _ => (zm_av (zM 131 [.ref q5, .ref q8] lay σ)).bind fun q9 =>
     (zm_is q9.1 r0 9).bind fun _ =>
     zm_opt (q9.2.2.2 r0 3) (fun q10 =>
     (zm_is q9.1 q10 0).bind fun _ => (zm_av (zM 129 [.ref q10] q9.1 q9.2)).bind fun q11 =>
     (zm_is q11.1 r0 9).bind fun _ =>
     zm_opt (q11.2.2.2 r0 3) (fun q12 =>
     (zm_is q11.1 q12 0).bind fun _ =>
     zm_opt (q11.2.2.2 q12 2) (fun q13 =>
     (zm_is q11.1 q13 6).bind fun _ =>
     some (.inr (some (.int (q11.2.1 q13 3)), q11.1, q11.2))) (none)) (none)) (none)) none) (none)) (none)) (none))
    else ((zm_is lay r0 9).bind fun _ => (zm_ai (zM 13 [.ref r0, .int 1] lay σ)).bind fun q14 =>
     some (.inr (some (.int q14.1), q14.2.1, q14.2.2)))) none) (none))
   else (some (.inr (some (.int (-1)), lay, σ))))
set_option maxRecDepth 100000 in
theorem zr_132_0 (lay : zm_Lay) (σ : zm_Sig) (r0 : Nat) (i1 : Int32) : zm_blk zM zp_132 (some .int) 0 0 zc_132 35 (zp_132.drop 0) (0, [(0, .ref r0), (1, .int i1)], [], lay, σ, 0, 0) = zb_132_0 lay σ r0 i1 := rfl
theorem ze_132 {lay : zm_Lay} {σ : zm_Sig} {r0 : Nat} {i1 : Int32} {out : zm_Out} {r : zm_St ⊕ zm_Out} (h : zb_132_0 lay σ r0 i1 = some r) (hg : zm_end zp_P 132 out r) : zM 132 [.ref r0, .int i1] lay σ = some out :=
  zm_mean_go (M := zd_132) rfl (Nat.le_of_ble_eq_true rfl) (zm_blk_go (M := zd_132) rfl zs_132 35 (zp_132.drop 0) _ r (fun _ h => List.mem_of_mem_drop h) ((zr_132_0 lay σ r0 i1).trans h) hg)
/-! SubgroupWriter.lots(II)I -/
theorem zs_133 : zm_srt zp_133 = true := by decide +kernel
noncomputable def zb_133_0 (lay : zm_Lay) (σ : zm_Sig) (r0 : Nat) (i1 : Int32) (i2 : Int32) : Option (zm_St ⊕ zm_Out) :=
  if i1 < 1 then (some (.inr (some (.int (-1)), lay, σ)))
  else (if ((nI 10) : Int32) < i1 then (some (.inr (some (.int (-1)), lay, σ)))
   else (if i2 < 1 then (some (.inr (some (.int (-1)), lay, σ)))
    else (if (lg_cmp (i2 : Int32).toInt64 (Int64.ofNat 2147483647)) < 0 then ((zm_is lay r0 9).bind fun _ =>
      zm_opt (σ.2.2 r0 11) (fun q1 =>
      (zm_is lay q1 1).bind fun _ =>
      if ¬ (σ.1 q1 0) = 0 then ((zm_is lay r0 9).bind fun _ =>
       zm_opt (σ.2.2 r0 3) (fun q2 =>
       (zm_is lay q2 0).bind fun _ => (zm_ai (zM 103 [.ref q2, .int i1] lay σ)).bind fun q3 =>
       if q3.1 = 0 then (some (.inl (59, [(0, .ref r0), (1, .int i1), (3, .int i2), (4, .int 0)], [], q3.2.1, q3.2.2, 0, 0)))
       else (some (.inr (some (.int (-2)), q3.2.1, q3.2.2)))) (none))
      else (some (.inr (some (.int (-4)), lay, σ)))) (none))
     else (some (.inr (some (.int (-1)), lay, σ))))))
set_option maxRecDepth 100000 in
theorem zr_133_0 (lay : zm_Lay) (σ : zm_Sig) (r0 : Nat) (i1 : Int32) (i2 : Int32) : zm_blk zM zp_133 (some .int) 0 0 zc_133 74 (zp_133.drop 0) (0, [(0, .ref r0), (1, .int i1), (2, .int i2)], [], lay, σ, 0, 0) = zb_133_0 lay σ r0 i1 i2 := rfl
theorem ze_133 {lay : zm_Lay} {σ : zm_Sig} {r0 : Nat} {i1 : Int32} {i2 : Int32} {out : zm_Out} {r : zm_St ⊕ zm_Out} (h : zb_133_0 lay σ r0 i1 i2 = some r) (hg : zm_end zp_P 133 out r) : zM 133 [.ref r0, .int i1, .int i2] lay σ = some out :=
  zm_mean_go (M := zd_133) rfl (Nat.le_of_ble_eq_true rfl) (zm_blk_go (M := zd_133) rfl zs_133 74 (zp_133.drop 0) _ r (fun _ h => List.mem_of_mem_drop h) ((zr_133_0 lay σ r0 i1 i2).trans h) hg)
noncomputable def zb_133_59 (lay : zm_Lay) (σ : zm_Sig) (r0 : Nat) (i1 : Int32) (i3 : Int32) (i4 : Int32) : Option (zm_St ⊕ zm_Out) :=
  if i1 ≤ i4 then ((zm_is lay r0 9).bind fun _ =>
   zm_opt (σ.2.2 r0 3) (fun q1 =>
   (zm_is lay q1 0).bind fun _ =>
   zm_opt (σ.2.2 q1 1) (fun q2 =>
   (zm_is lay q2 4).bind fun _ =>
   some (.inr (some (.int (σ.1 q2 2)), lay, σ))) (none)) (none))
  else (if (Int64.ofNat 2147483647) = 0 then none
   else ((zm_is lay r0 9).bind fun _ =>
   zm_opt (σ.2.2 r0 3) (fun q3 =>
   (zm_is lay q3 0).bind fun _ => (zm_ai (zM 134 [.ref q3, .int ((((Int64.ofNat 48271) * (i3 : Int32).toInt64) - ((Int64.ofNat 48271) * (i3 : Int32).toInt64) / (Int64.ofNat 2147483647) * (Int64.ofNat 2147483647)) : Int64).toInt32] lay σ)).bind fun q4 =>
   (zm_is q4.2.1 r0 9).bind fun _ =>
   zm_opt (q4.2.2.2.2 r0 3) (fun q5 =>
   (zm_is q4.2.1 q5 0).bind fun _ => (zm_ai (zM 136 [.ref q5, .int ((((Int64.ofNat 48271) * (i3 : Int32).toInt64) - ((Int64.ofNat 48271) * (i3 : Int32).toInt64) / (Int64.ofNat 2147483647) * (Int64.ofNat 2147483647)) : Int64).toInt32, .int q4.1] q4.2.1 q4.2.2)).bind fun q6 =>
   (zm_is q6.2.1 r0 9).bind fun _ =>
   zm_opt (q6.2.2.2.2 r0 3) (fun q7 =>
   (zm_is q6.2.1 r0 9).bind fun _ =>
   zm_opt (q6.2.2.2.2 r0 3) (fun q8 =>
   (zm_is q6.2.1 q8 0).bind fun _ => (zm_ai (zM 138 [.ref q8, .int ((((Int64.ofNat 48271) * (i3 : Int32).toInt64) - ((Int64.ofNat 48271) * (i3 : Int32).toInt64) / (Int64.ofNat 2147483647) * (Int64.ofNat 2147483647)) : Int64).toInt32, .int q4.1, .int q6.1] q6.2.1 q6.2.2)).bind fun q9 =>
   (zm_is q9.2.1 q7 0).bind fun _ => (zm_av (zM 104 [.ref q7, .int q9.1, .int q4.1, .int q6.1] q9.2.1 q9.2.2)).bind fun q10 =>
   some (.inl (59, [(0, .ref r0), (1, .int i1), (3, .int ((((Int64.ofNat 48271) * (i3 : Int32).toInt64) - ((Int64.ofNat 48271) * (i3 : Int32).toInt64) / (Int64.ofNat 2147483647) * (Int64.ofNat 2147483647)) : Int64).toInt32), (4, .int (i4 + 1))], [], q10.1, q10.2, 0, 0))) (none)) (none)) (none)) (none)))
set_option maxRecDepth 100000 in
theorem zr_133_59 (lay : zm_Lay) (σ : zm_Sig) (r0 : Nat) (i1 : Int32) (i3 : Int32) (i4 : Int32) : zm_blk zM zp_133 (some .int) 0 0 zc_133 74 (zp_133.drop 33) (59, [(0, .ref r0), (1, .int i1), (3, .int i3), (4, .int i4)], [], lay, σ, 0, 0) = zb_133_59 lay σ r0 i1 i3 i4 := rfl
theorem zg_133_59 {lay : zm_Lay} {σ : zm_Sig} {r0 : Nat} {i1 : Int32} {i3 : Int32} {i4 : Int32} {out : zm_Out} {r : zm_St ⊕ zm_Out} (h : zb_133_59 lay σ r0 i1 i3 i4 = some r) (hg : zm_end zp_P 133 out r) : zm_go zp_P 133 (59, [(0, .ref r0), (1, .int i1), (3, .int i3), (4, .int i4)], [], lay, σ, 0, 0) out :=
  zm_blk_go (M := zd_133) rfl zs_133 74 (zp_133.drop 33) _ r (fun _ h => List.mem_of_mem_drop h) ((zr_133_59 lay σ r0 i1 i3 i4).trans h) hg
/-! SubgroupWriter$Book.lotFirst(I)I -/
theorem zs_134 : zm_srt zp_134 = true := by decide +kernel
noncomputable def zb_134_0 (lay : zm_Lay) (σ : zm_Sig) (r0 : Nat) (i1 : Int32) : Option (zm_St ⊕ zm_Out) :=
  (zm_is lay r0 0).bind fun _ => (zm_ai (zM 135 [.ref r0, .int i1] lay σ)).bind fun q1 =>
  if ¬ q1.1 = (nI 5) then ((zm_is q1.2.1 r0 0).bind fun _ =>
   zm_opt (q1.2.2.2.2 r0 1) (fun q2 =>
   (zm_is q1.2.1 q2 4).bind fun _ =>
   if (q1.2.2.1 q2 2) ≤ 0 then (some (.inr (some (.int 0), q1.2.1, q1.2.2)))
   else ((zm_is q1.2.1 r0 0).bind fun _ =>
    zm_opt (q1.2.2.2.2 r0 1) (fun q3 =>
    (zm_is q1.2.1 q3 4).bind fun _ =>
    if (q1.2.2.1 q3 2) = 0 then none
    else (some (.inr (some (.int ((i1 / (nI 64)) - (i1 / (nI 64)) / (q1.2.2.1 q3 2) * (q1.2.2.1 q3 2))), q1.2.1, q1.2.2)))) (none))) (none))
  else ((zm_is q1.2.1 r0 0).bind fun _ =>
   some (.inr (some (.int (((q1.2.2.1 r0 3) + 1) - ((q1.2.2.1 r0 3) + 1) / (nI 3) * (nI 3))), q1.2.1, q1.2.2)))
set_option maxRecDepth 100000 in
theorem zr_134_0 (lay : zm_Lay) (σ : zm_Sig) (r0 : Nat) (i1 : Int32) : zm_blk zM zp_134 (some .int) 0 0 zc_134 27 (zp_134.drop 0) (0, [(0, .ref r0), (1, .int i1)], [], lay, σ, 0, 0) = zb_134_0 lay σ r0 i1 := rfl
theorem ze_134 {lay : zm_Lay} {σ : zm_Sig} {r0 : Nat} {i1 : Int32} {out : zm_Out} {r : zm_St ⊕ zm_Out} (h : zb_134_0 lay σ r0 i1 = some r) (hg : zm_end zp_P 134 out r) : zM 134 [.ref r0, .int i1] lay σ = some out :=
  zm_mean_go (M := zd_134) rfl (Nat.le_of_ble_eq_true rfl) (zm_blk_go (M := zd_134) rfl zs_134 27 (zp_134.drop 0) _ r (fun _ h => List.mem_of_mem_drop h) ((zr_134_0 lay σ r0 i1).trans h) hg)
/-! SubgroupWriter$Book.lotAsks(I)I -/
theorem zs_135 : zm_srt zp_135 = true := by decide +kernel
noncomputable def zb_135_0 (lay : zm_Lay) (σ : zm_Sig) (r0 : Nat) (i1 : Int32) : Option (zm_St ⊕ zm_Out) :=
  some (.inr (some (.int ((i1 / (nI 8)) - (i1 / (nI 8)) / (nI 6) * (nI 6))), lay, σ))
set_option maxRecDepth 100000 in
theorem zr_135_0 (lay : zm_Lay) (σ : zm_Sig) (r0 : Nat) (i1 : Int32) : zm_blk zM zp_135 (some .int) 0 0 zc_135 7 (zp_135.drop 0) (0, [(0, .ref r0), (1, .int i1)], [], lay, σ, 0, 0) = zb_135_0 lay σ r0 i1 := rfl
theorem ze_135 {lay : zm_Lay} {σ : zm_Sig} {r0 : Nat} {i1 : Int32} {out : zm_Out} {r : zm_St ⊕ zm_Out} (h : zb_135_0 lay σ r0 i1 = some r) (hg : zm_end zp_P 135 out r) : zM 135 [.ref r0, .int i1] lay σ = some out :=
  zm_mean_go (M := zd_135) rfl (Nat.le_of_ble_eq_true rfl) (zm_blk_go (M := zd_135) rfl zs_135 7 (zp_135.drop 0) _ r (fun _ h => List.mem_of_mem_drop h) ((zr_135_0 lay σ r0 i1).trans h) hg)
/-! SubgroupWriter$Book.lotSecond(II)I -/
theorem zs_136 : zm_srt zp_136 = true := by decide +kernel
noncomputable def zb_136_0 (lay : zm_Lay) (σ : zm_Sig) (r0 : Nat) (i1 : Int32) (i2 : Int32) : Option (zm_St ⊕ zm_Out) :=
  (zm_is lay r0 0).bind fun _ =>
  zm_opt (σ.2.2 r0 1) (fun q1 =>
  (zm_is lay q1 4).bind fun _ =>
  if ¬ (σ.1 q1 2) = 0 then ((zm_is lay r0 0).bind fun _ => (zm_ai (zM 135 [.ref r0, .int i1] lay σ)).bind fun q2 =>
   if q2.1 = (nI 2) then ((zm_is q2.2.1 r0 0).bind fun _ =>
    zm_opt (q2.2.2.2.2 r0 1) (fun q3 =>
    (zm_is q2.2.1 q3 4).bind fun _ =>
    if (q2.2.2.1 q3 2) = 0 then none
    else (some (.inr (some (.int ((i2 + 1) - (i2 + 1) / (q2.2.2.1 q3 2) * (q2.2.2.1 q3 2))), q2.2.1, q2.2.2)))) (none))
   else if q2.1 = (nI 4) then ((zm_is q2.2.1 r0 0).bind fun _ =>
    zm_opt (q2.2.2.2.2 r0 1) (fun q4 =>
    (zm_is q2.2.1 q4 4).bind fun _ => (zm_ai (zM 137 [.ref q4, .int i2] q2.2.1 q2.2.2)).bind fun q5 =>
    some (.inr (some (.int q5.1), q5.2.1, q5.2.2))) (none))
   else (some (.inr (some (.int 0), q2.2.1, q2.2.2))))
  else (some (.inr (some (.int 0), lay, σ)))) (none)
set_option maxRecDepth 100000 in
theorem zr_136_0 (lay : zm_Lay) (σ : zm_Sig) (r0 : Nat) (i1 : Int32) (i2 : Int32) : zm_blk zM zp_136 (some .int) 0 0 zc_136 26 (zp_136.drop 0) (0, [(0, .ref r0), (1, .int i1), (2, .int i2)], [], lay, σ, 0, 0) = zb_136_0 lay σ r0 i1 i2 := rfl
theorem ze_136 {lay : zm_Lay} {σ : zm_Sig} {r0 : Nat} {i1 : Int32} {i2 : Int32} {out : zm_Out} {r : zm_St ⊕ zm_Out} (h : zb_136_0 lay σ r0 i1 i2 = some r) (hg : zm_end zp_P 136 out r) : zM 136 [.ref r0, .int i1, .int i2] lay σ = some out :=
  zm_mean_go (M := zd_136) rfl (Nat.le_of_ble_eq_true rfl) (zm_blk_go (M := zd_136) rfl zs_136 26 (zp_136.drop 0) _ r (fun _ h => List.mem_of_mem_drop h) ((zr_136_0 lay σ r0 i1 i2).trans h) hg)
/-! SubgroupWriter$Rules.leastOnce(I)I -/
theorem zs_137 : zm_srt zp_137 = true := by decide +kernel
noncomputable def zb_137_0 (lay : zm_Lay) (σ : zm_Sig) (r0 : Nat) (i1 : Int32) : Option (zm_St ⊕ zm_Out) :=
  some (.inl (2, [(0, .ref r0), (1, .int i1), (2, .int 1)], [], lay, σ, 0, 0))
set_option maxRecDepth 100000 in
theorem zr_137_0 (lay : zm_Lay) (σ : zm_Sig) (r0 : Nat) (i1 : Int32) : zm_blk zM zp_137 (some .int) 0 0 zc_137 18 (zp_137.drop 0) (0, [(0, .ref r0), (1, .int i1)], [], lay, σ, 0, 0) = zb_137_0 lay σ r0 i1 := rfl
theorem ze_137 {lay : zm_Lay} {σ : zm_Sig} {r0 : Nat} {i1 : Int32} {out : zm_Out} {r : zm_St ⊕ zm_Out} (h : zb_137_0 lay σ r0 i1 = some r) (hg : zm_end zp_P 137 out r) : zM 137 [.ref r0, .int i1] lay σ = some out :=
  zm_mean_go (M := zd_137) rfl (Nat.le_of_ble_eq_true rfl) (zm_blk_go (M := zd_137) rfl zs_137 18 (zp_137.drop 0) _ r (fun _ h => List.mem_of_mem_drop h) ((zr_137_0 lay σ r0 i1).trans h) hg)
noncomputable def zb_137_2 (lay : zm_Lay) (σ : zm_Sig) (r0 : Nat) (i1 : Int32) (i2 : Int32) : Option (zm_St ⊕ zm_Out) :=
  if ((nI 15) : Int32) < i2 then (some (.inr (some (.int 0), lay, σ)))
  else ((zm_is lay r0 4).bind fun _ => (zm_ai (zM 97 [.ref r0, .int i1, .int i2] lay σ)).bind fun q1 =>
   if ¬ q1.1 = 1 then (some (.inl (2, [(0, .ref r0), (1, .int i1), (2, .int (i2 + 1))], [], q1.2.1, q1.2.2, 0, 0)))
   else (some (.inr (some (.int i2), q1.2.1, q1.2.2))))
set_option maxRecDepth 100000 in
theorem zr_137_2 (lay : zm_Lay) (σ : zm_Sig) (r0 : Nat) (i1 : Int32) (i2 : Int32) : zm_blk zM zp_137 (some .int) 0 0 zc_137 18 (zp_137.drop 2) (2, [(0, .ref r0), (1, .int i1), (2, .int i2)], [], lay, σ, 0, 0) = zb_137_2 lay σ r0 i1 i2 := rfl
theorem zg_137_2 {lay : zm_Lay} {σ : zm_Sig} {r0 : Nat} {i1 : Int32} {i2 : Int32} {out : zm_Out} {r : zm_St ⊕ zm_Out} (h : zb_137_2 lay σ r0 i1 i2 = some r) (hg : zm_end zp_P 137 out r) : zm_go zp_P 137 (2, [(0, .ref r0), (1, .int i1), (2, .int i2)], [], lay, σ, 0, 0) out :=
  zm_blk_go (M := zd_137) rfl zs_137 18 (zp_137.drop 2) _ r (fun _ h => List.mem_of_mem_drop h) ((zr_137_2 lay σ r0 i1 i2).trans h) hg
/-! SubgroupWriter$Book.lotKind(III)I -/
theorem zs_138 : zm_srt zp_138 = true := by decide +kernel
noncomputable def zb_138_0 (lay : zm_Lay) (σ : zm_Sig) (r0 : Nat) (i1 : Int32) (i2 : Int32) (i3 : Int32) : Option (zm_St ⊕ zm_Out) :=
  (zm_is lay r0 0).bind fun _ => (zm_ai (zM 135 [.ref r0, .int i1] lay σ)).bind fun q1 =>
  (zm_is q1.2.1 r0 0).bind fun _ => (zm_ai (zM 139 [.ref r0, .int q1.1, .int i2, .int i3] q1.2.1 q1.2.2)).bind fun q2 =>
  if q2.1 = 0 then (some (.inr (some (.int (nI 7)), q2.2.1, q2.2.2)))
  else (some (.inr (some (.int q1.1), q2.2.1, q2.2.2)))
set_option maxRecDepth 100000 in
theorem zr_138_0 (lay : zm_Lay) (σ : zm_Sig) (r0 : Nat) (i1 : Int32) (i2 : Int32) (i3 : Int32) : zm_blk zM zp_138 (some .int) 0 0 zc_138 15 (zp_138.drop 0) (0, [(0, .ref r0), (1, .int i1), (2, .int i2), (3, .int i3)], [], lay, σ, 0, 0) = zb_138_0 lay σ r0 i1 i2 i3 := rfl
theorem ze_138 {lay : zm_Lay} {σ : zm_Sig} {r0 : Nat} {i1 : Int32} {i2 : Int32} {i3 : Int32} {out : zm_Out} {r : zm_St ⊕ zm_Out} (h : zb_138_0 lay σ r0 i1 i2 i3 = some r) (hg : zm_end zp_P 138 out r) : zM 138 [.ref r0, .int i1, .int i2, .int i3] lay σ = some out :=
  zm_mean_go (M := zd_138) rfl (Nat.le_of_ble_eq_true rfl) (zm_blk_go (M := zd_138) rfl zs_138 15 (zp_138.drop 0) _ r (fun _ h => List.mem_of_mem_drop h) ((zr_138_0 lay σ r0 i1 i2 i3).trans h) hg)
/-! SubgroupWriter$Book.canBe(III)Z -/
theorem zs_139 : zm_srt zp_139 = true := by decide +kernel
noncomputable def zb_139_0 (lay : zm_Lay) (σ : zm_Sig) (r0 : Nat) (i1 : Int32) (i2 : Int32) (i3 : Int32) : Option (zm_St ⊕ zm_Out) :=
  if ¬ i1 = (nI 5) then ((zm_is lay r0 0).bind fun _ =>
   zm_opt (σ.2.2 r0 1) (fun q1 =>
   (zm_is lay q1 4).bind fun _ => (zm_ai (zM 94 [.ref q1, .int i2] lay σ)).bind fun q2 =>
   if ¬ q2.1 = 0 then (if i1 = (nI 2) then ((zm_is q2.2.1 r0 0).bind fun _ =>
     zm_opt (q2.2.2.2.2 r0 1) (fun q3 =>
     (zm_is q2.2.1 q3 4).bind fun _ => (zm_ai (zM 110 [.ref q3, .int i2, .int i3] q2.2.1 q2.2.2)).bind fun q4 =>
     if q4.1 = 0 ∨ q4.1 = 1 then some (.inr (some (.int q4.1), q4.2.1, q4.2.2)) else none) (none))
    else if i1 = (nI 3) then ((zm_is q2.2.1 r0 0).bind fun _ =>
     zm_opt (q2.2.2.2.2 r0 1) (fun q5 =>
     (zm_is q2.2.1 q5 4).bind fun _ => (zm_ai (zM 117 [.ref q5, .int i2] q2.2.1 q2.2.2)).bind fun q6 =>
     if q6.1 = 0 ∨ q6.1 = 1 then some (.inr (some (.int q6.1), q6.2.1, q6.2.2)) else none) (none))
    else if i1 = (nI 4) then (if i3 = 0 then (some (.inr (some (.int 0), q2.2.1, q2.2.2)))
     else ((zm_is q2.2.1 r0 0).bind fun _ =>
      zm_opt (q2.2.2.2.2 r0 1) (fun q7 =>
      (zm_is q2.2.1 q7 4).bind fun _ => (zm_ai (zM 119 [.ref q7, .int i2, .int i3] q2.2.1 q2.2.2)).bind fun q8 =>
      if q8.1 = 0 then (some (.inr (some (.int 0), q8.2.1, q8.2.2)))
      else (some (.inr (some (.int 1), q8.2.1, q8.2.2)))) (none)))
    else ((zm_is q2.2.1 r0 0).bind fun _ =>
     zm_opt (q2.2.2.2.2 r0 1) (fun q9 =>
     (zm_is q2.2.1 q9 4).bind fun _ =>
     zm_opt (q2.2.2.2.2 q9 1) (fun q10 =>
     (zm_gI q2.2.1 q2.2.2 q10 i2).bind fun v11 =>
     if v11 ≤ 0 then (some (.inr (some (.int 0), q2.2.1, q2.2.2)))
     else (some (.inr (some (.int 1), q2.2.1, q2.2.2)))) (none)) (none)))
   else (some (.inr (some (.int 0), q2.2.1, q2.2.2)))) (none))
  else (some (.inr (some (.int 1), lay, σ)))
set_option maxRecDepth 100000 in
theorem zr_139_0 (lay : zm_Lay) (σ : zm_Sig) (r0 : Nat) (i1 : Int32) (i2 : Int32) (i3 : Int32) : zm_blk zM zp_139 (some .boolean) 0 0 zc_139 48 (zp_139.drop 0) (0, [(0, .ref r0), (1, .int i1), (2, .int i2), (3, .int i3)], [], lay, σ, 0, 0) = zb_139_0 lay σ r0 i1 i2 i3 := rfl
theorem ze_139 {lay : zm_Lay} {σ : zm_Sig} {r0 : Nat} {i1 : Int32} {i2 : Int32} {i3 : Int32} {out : zm_Out} {r : zm_St ⊕ zm_Out} (h : zb_139_0 lay σ r0 i1 i2 i3 = some r) (hg : zm_end zp_P 139 out r) : zM 139 [.ref r0, .int i1, .int i2, .int i3] lay σ = some out :=
  zm_mean_go (M := zd_139) rfl (Nat.le_of_ble_eq_true rfl) (zm_blk_go (M := zd_139) rfl zs_139 48 (zp_139.drop 0) _ r (fun _ h => List.mem_of_mem_drop h) ((zr_139_0 lay σ r0 i1 i2 i3).trans h) hg)
/-! SubgroupWriter.rank(I)I -/
theorem zs_140 : zm_srt zp_140 = true := by decide +kernel
noncomputable def zb_140_0 (lay : zm_Lay) (σ : zm_Sig) (r0 : Nat) (i1 : Int32) : Option (zm_St ⊕ zm_Out) :=
  (zm_ai (zM 141 [.int i1] lay σ)).bind fun q1 =>
  if ¬ q1.1 = 0 then ((zm_is q1.2.1 r0 9).bind fun _ =>
   zm_opt (q1.2.2.2.2 r0 11) (fun q2 =>
   (zm_is q1.2.1 q2 1).bind fun _ =>
   if ¬ (q1.2.2.1 q2 0) = 0 then ((zm_is q1.2.1 r0 9).bind fun _ =>
    zm_opt (q1.2.2.2.2 r0 3) (fun q3 =>
    (zm_is q1.2.1 q3 0).bind fun _ =>
    zm_opt (q1.2.2.2.2 q3 1) (fun q4 =>
    (zm_is q1.2.1 r0 9).bind fun _ =>
    zm_opt (q1.2.2.2.2 r0 6) (fun q5 =>
    (zm_is q1.2.1 r0 9).bind fun _ =>
    zm_opt (q1.2.2.2.2 r0 3) (fun q6 =>
    (zm_is q1.2.1 q6 0).bind fun _ =>
    zm_opt (q1.2.2.2.2 q6 0) (fun q7 =>
    (zm_is q1.2.1 q7 7).bind fun _ =>
    (zm_is q1.2.1 q4 4).bind fun _ => (zm_av (zM 142 [.ref q4, .ref q5, .int (q1.2.2.1 q7 2)] q1.2.1 q1.2.2)).bind fun q8 =>
    (zm_is q8.1 r0 9).bind fun _ =>
    zm_opt (q8.2.2.2 r0 6) (fun q9 =>
    (zm_is q8.1 q9 2).bind fun _ => (zm_ai (zM 145 [.ref q9, .int i1] q8.1 q8.2)).bind fun q10 =>
    (zm_is q10.2.1 r0 9).bind fun _ =>
    zm_opt (q10.2.2.2.2 r0 3) (fun q11 =>
    (zm_is q10.2.1 q11 0).bind fun _ =>
    zm_opt (q10.2.2.2.2 q11 1) (fun q12 =>
    (zm_is q10.2.1 q12 4).bind fun _ =>
    (zm_ai (zM 149 [.int (q10.2.2.1 q12 3)] q10.2.1 q10.2.2)).bind fun q13 =>
    (zm_is q13.2.1 r0 9).bind fun _ => (zm_ai (zM 20 [.ref r0, .int (q13.1 - q10.1)] q13.2.1 q13.2.2)).bind fun q14 =>
    some (.inr (some (.int q10.1), q14.2.1, q14.2.2))) (none)) (none)) (none)) (none)) (none)) (none)) (none)) (none))
   else (some (.inr (some (.int (-4)), q1.2.1, q1.2.2)))) (none))
  else (some (.inr (some (.int (-1)), q1.2.1, q1.2.2)))
set_option maxRecDepth 100000 in
theorem zr_140_0 (lay : zm_Lay) (σ : zm_Sig) (r0 : Nat) (i1 : Int32) : zm_blk zM zp_140 (some .int) 0 0 zc_140 39 (zp_140.drop 0) (0, [(0, .ref r0), (1, .int i1)], [], lay, σ, 0, 0) = zb_140_0 lay σ r0 i1 := rfl
theorem ze_140 {lay : zm_Lay} {σ : zm_Sig} {r0 : Nat} {i1 : Int32} {out : zm_Out} {r : zm_St ⊕ zm_Out} (h : zb_140_0 lay σ r0 i1 = some r) (hg : zm_end zp_P 140 out r) : zM 140 [.ref r0, .int i1] lay σ = some out :=
  zm_mean_go (M := zd_140) rfl (Nat.le_of_ble_eq_true rfl) (zm_blk_go (M := zd_140) rfl zs_140 39 (zp_140.drop 0) _ r (fun _ h => List.mem_of_mem_drop h) ((zr_140_0 lay σ r0 i1).trans h) hg)
/-! SubgroupWriter.isPrime(I)Z -/
theorem zs_141 : zm_srt zp_141 = true := by decide +kernel
noncomputable def zb_141_0 (lay : zm_Lay) (σ : zm_Sig) (i0 : Int32) : Option (zm_St ⊕ zm_Out) :=
  if i0 = (nI 2) then (some (.inr (some (.int 1), lay, σ)))
  else (if i0 = (nI 3) then (some (.inr (some (.int 1), lay, σ)))
   else (if i0 = (nI 5) then (some (.inr (some (.int 1), lay, σ)))
    else (if ¬ i0 = (nI 7) then (some (.inr (some (.int 0), lay, σ)))
     else (some (.inr (some (.int 1), lay, σ))))))
set_option maxRecDepth 100000 in
theorem zr_141_0 (lay : zm_Lay) (σ : zm_Sig) (i0 : Int32) : zm_blk zM zp_141 (some .boolean) 0 0 zc_141 17 (zp_141.drop 0) (0, [(0, .int i0)], [], lay, σ, 0, 0) = zb_141_0 lay σ i0 := rfl
theorem ze_141 {lay : zm_Lay} {σ : zm_Sig} {i0 : Int32} {out : zm_Out} {r : zm_St ⊕ zm_Out} (h : zb_141_0 lay σ i0 = some r) (hg : zm_end zp_P 141 out r) : zM 141 [.int i0] lay σ = some out :=
  zm_mean_go (M := zd_141) rfl (Nat.le_of_ble_eq_true rfl) (zm_blk_go (M := zd_141) rfl zs_141 17 (zp_141.drop 0) _ r (fun _ h => List.mem_of_mem_drop h) ((zr_141_0 lay σ i0).trans h) hg)
/-! SubgroupWriter$Rules.fill(LSubgroupWriter$Matrix;I)V -/
theorem zs_142 : zm_srt zp_142 = true := by decide +kernel
noncomputable def zb_142_0 (lay : zm_Lay) (σ : zm_Sig) (r0 : Nat) (r1 : Nat) (i2 : Int32) : Option (zm_St ⊕ zm_Out) :=
  (zm_is lay r0 4).bind fun _ =>
  (zm_is lay r1 2).bind fun _ => (zm_av (zM 143 [.ref r1, .int (σ.1 r0 2), .int i2] lay σ)).bind fun q1 =>
  some (.inl (11, [(0, .ref r0), (1, .ref r1), (2, .int i2), (3, .int 0)], [], q1.1, q1.2, 0, 0))
set_option maxRecDepth 100000 in
theorem zr_142_0 (lay : zm_Lay) (σ : zm_Sig) (r0 : Nat) (r1 : Nat) (i2 : Int32) : zm_blk zM zp_142 none 0 0 zc_142 36 (zp_142.drop 0) (0, [(0, .ref r0), (1, .ref r1), (2, .int i2)], [], lay, σ, 0, 0) = zb_142_0 lay σ r0 r1 i2 := rfl
theorem ze_142 {lay : zm_Lay} {σ : zm_Sig} {r0 : Nat} {r1 : Nat} {i2 : Int32} {out : zm_Out} {r : zm_St ⊕ zm_Out} (h : zb_142_0 lay σ r0 r1 i2 = some r) (hg : zm_end zp_P 142 out r) : zM 142 [.ref r0, .ref r1, .int i2] lay σ = some out :=
  zm_mean_go (M := zd_142) rfl (Nat.le_of_ble_eq_true rfl) (zm_blk_go (M := zd_142) rfl zs_142 36 (zp_142.drop 0) _ r (fun _ h => List.mem_of_mem_drop h) ((zr_142_0 lay σ r0 r1 i2).trans h) hg)
noncomputable def zb_142_11 (lay : zm_Lay) (σ : zm_Sig) (r0 : Nat) (r1 : Nat) (i2 : Int32) (i3 : Int32) : Option (zm_St ⊕ zm_Out) :=
  (zm_is lay r0 4).bind fun _ =>
  if (σ.1 r0 2) ≤ i3 then (some (.inr (none, lay, σ)))
  else (some (.inl (22, [(0, .ref r0), (1, .ref r1), (2, .int i2), (3, .int i3), (4, .int 1)], [], lay, σ, 0, 0)))
set_option maxRecDepth 100000 in
theorem zr_142_11 (lay : zm_Lay) (σ : zm_Sig) (r0 : Nat) (r1 : Nat) (i2 : Int32) (i3 : Int32) : zm_blk zM zp_142 none 0 0 zc_142 36 (zp_142.drop 7) (11, [(0, .ref r0), (1, .ref r1), (2, .int i2), (3, .int i3)], [], lay, σ, 0, 0) = zb_142_11 lay σ r0 r1 i2 i3 := rfl
theorem zg_142_11 {lay : zm_Lay} {σ : zm_Sig} {r0 : Nat} {r1 : Nat} {i2 : Int32} {i3 : Int32} {out : zm_Out} {r : zm_St ⊕ zm_Out} (h : zb_142_11 lay σ r0 r1 i2 i3 = some r) (hg : zm_end zp_P 142 out r) : zm_go zp_P 142 (11, [(0, .ref r0), (1, .ref r1), (2, .int i2), (3, .int i3)], [], lay, σ, 0, 0) out :=
  zm_blk_go (M := zd_142) rfl zs_142 36 (zp_142.drop 7) _ r (fun _ h => List.mem_of_mem_drop h) ((zr_142_11 lay σ r0 r1 i2 i3).trans h) hg
noncomputable def zb_142_22 (lay : zm_Lay) (σ : zm_Sig) (r0 : Nat) (r1 : Nat) (i2 : Int32) (i3 : Int32) (i4 : Int32) : Option (zm_St ⊕ zm_Out) :=
  if i2 < i4 then (some (.inl (11, [(0, .ref r0), (1, .ref r1), (2, .int i2), (3, .int (i3 + 1))], [], lay, σ, 0, 0)))
  else ((zm_is lay r0 4).bind fun _ => (zm_ai (zM 83 [.ref r0, .int i4] lay σ)).bind fun q1 =>
   if q1.1 = 0 then (some (.inl (22, [(0, .ref r0), (1, .ref r1), (2, .int i2), (3, .int i3), (4, .int (i4 + 1))], [], q1.2.1, q1.2.2, 0, 0)))
   else ((zm_is q1.2.1 r0 4).bind fun _ => (zm_ai (zM 96 [.ref r0, .int i3, .int i4] q1.2.1 q1.2.2)).bind fun q2 =>
    (zm_is q2.2.1 r1 2).bind fun _ => (zm_av (zM 144 [.ref r1, .int i3, .int (i4 - 1), .int q2.1] q2.2.1 q2.2.2)).bind fun q3 =>
    some (.inl (22, [(0, .ref r0), (1, .ref r1), (2, .int i2), (3, .int i3), (4, .int (i4 + 1))], [], q3.1, q3.2, 0, 0))))
set_option maxRecDepth 100000 in
theorem zr_142_22 (lay : zm_Lay) (σ : zm_Sig) (r0 : Nat) (r1 : Nat) (i2 : Int32) (i3 : Int32) (i4 : Int32) : zm_blk zM zp_142 none 0 0 zc_142 36 (zp_142.drop 13) (22, [(0, .ref r0), (1, .ref r1), (2, .int i2), (3, .int i3), (4, .int i4)], [], lay, σ, 0, 0) = zb_142_22 lay σ r0 r1 i2 i3 i4 := rfl
theorem zg_142_22 {lay : zm_Lay} {σ : zm_Sig} {r0 : Nat} {r1 : Nat} {i2 : Int32} {i3 : Int32} {i4 : Int32} {out : zm_Out} {r : zm_St ⊕ zm_Out} (h : zb_142_22 lay σ r0 r1 i2 i3 i4 = some r) (hg : zm_end zp_P 142 out r) : zm_go zp_P 142 (22, [(0, .ref r0), (1, .ref r1), (2, .int i2), (3, .int i3), (4, .int i4)], [], lay, σ, 0, 0) out :=
  zm_blk_go (M := zd_142) rfl zs_142 36 (zp_142.drop 13) _ r (fun _ h => List.mem_of_mem_drop h) ((zr_142_22 lay σ r0 r1 i2 i3 i4).trans h) hg
/-! SubgroupWriter$Matrix.clear(II)V -/
theorem zs_143 : zm_srt zp_143 = true := by decide +kernel
noncomputable def zb_143_0 (lay : zm_Lay) (σ : zm_Sig) (r0 : Nat) (i1 : Int32) (i2 : Int32) : Option (zm_St ⊕ zm_Out) :=
  (zm_ai (zM 34 [.int (nI 15), .int i1] lay σ)).bind fun q1 =>
  (zm_is q1.2.1 r0 2).bind fun _ => (zm_fw q1.2.2 r0 1 0 (.int q1.1)).bind fun s2 =>
  (zm_ai (zM 34 [.int (nI 15), .int i2] q1.2.1 s2)).bind fun q3 =>
  (zm_is q3.2.1 r0 2).bind fun _ => (zm_fw q3.2.2 r0 2 0 (.int q3.1)).bind fun s4 =>
  some (.inl (22, [(0, .ref r0), (3, .int 0)], [], q3.2.1, s4, 0, 0))
set_option maxRecDepth 100000 in
theorem zr_143_0 (lay : zm_Lay) (σ : zm_Sig) (r0 : Nat) (i1 : Int32) (i2 : Int32) : zm_blk zM zp_143 none 0 0 zc_143 26 (zp_143.drop 0) (0, [(0, .ref r0), (1, .int i1), (2, .int i2)], [], lay, σ, 0, 0) = zb_143_0 lay σ r0 i1 i2 := rfl
theorem ze_143 {lay : zm_Lay} {σ : zm_Sig} {r0 : Nat} {i1 : Int32} {i2 : Int32} {out : zm_Out} {r : zm_St ⊕ zm_Out} (h : zb_143_0 lay σ r0 i1 i2 = some r) (hg : zm_end zp_P 143 out r) : zM 143 [.ref r0, .int i1, .int i2] lay σ = some out :=
  zm_mean_go (M := zd_143) rfl (Nat.le_of_ble_eq_true rfl) (zm_blk_go (M := zd_143) rfl zs_143 26 (zp_143.drop 0) _ r (fun _ h => List.mem_of_mem_drop h) ((zr_143_0 lay σ r0 i1 i2).trans h) hg)
noncomputable def zb_143_22 (lay : zm_Lay) (σ : zm_Sig) (r0 : Nat) (i3 : Int32) : Option (zm_St ⊕ zm_Out) :=
  (zm_is lay r0 2).bind fun _ =>
  if (σ.1 r0 1) ≤ i3 then (some (.inr (none, lay, σ)))
  else ((zm_is lay r0 2).bind fun _ =>
   zm_opt (σ.2.2 r0 0) (fun q1 =>
   (zm_gR lay σ q1 i3).bind fun o2 => zm_opt o2 (fun q3 =>
   (zm_av (zM 2 [.ref q3, .int 0] lay σ)).bind fun q4 =>
   some (.inl (22, [(0, .ref r0), (3, .int (i3 + 1))], [], q4.1, q4.2, 0, 0))) none) (none))
set_option maxRecDepth 100000 in
theorem zr_143_22 (lay : zm_Lay) (σ : zm_Sig) (r0 : Nat) (i3 : Int32) : zm_blk zM zp_143 none 0 0 zc_143 26 (zp_143.drop 12) (22, [(0, .ref r0), (3, .int i3)], [], lay, σ, 0, 0) = zb_143_22 lay σ r0 i3 := rfl
theorem zg_143_22 {lay : zm_Lay} {σ : zm_Sig} {r0 : Nat} {i3 : Int32} {out : zm_Out} {r : zm_St ⊕ zm_Out} (h : zb_143_22 lay σ r0 i3 = some r) (hg : zm_end zp_P 143 out r) : zm_go zp_P 143 (22, [(0, .ref r0), (3, .int i3)], [], lay, σ, 0, 0) out :=
  zm_blk_go (M := zd_143) rfl zs_143 26 (zp_143.drop 12) _ r (fun _ h => List.mem_of_mem_drop h) ((zr_143_22 lay σ r0 i3).trans h) hg
/-! SubgroupWriter$Matrix.add(III)V -/
theorem zs_144 : zm_srt zp_144 = true := by decide +kernel
noncomputable def zb_144_0 (lay : zm_Lay) (σ : zm_Sig) (r0 : Nat) (i1 : Int32) (i2 : Int32) (i3 : Int32) : Option (zm_St ⊕ zm_Out) :=
  if i1 < 0 then (some (.inr (none, lay, σ)))
  else ((zm_is lay r0 2).bind fun _ =>
   if (σ.1 r0 1) ≤ i1 then (some (.inr (none, lay, σ)))
   else (if i2 < 0 then (some (.inr (none, lay, σ)))
    else ((zm_is lay r0 2).bind fun _ =>
     if (σ.1 r0 2) ≤ i2 then (some (.inr (none, lay, σ)))
     else ((zm_is lay r0 2).bind fun _ =>
      zm_opt (σ.2.2 r0 0) (fun q1 =>
      (zm_gR lay σ q1 i1).bind fun o2 => zm_opt o2 (fun q3 =>
      (zm_gI lay σ q3 i2).bind fun v4 =>
      (zm_sI lay σ q3 i2 (v4 + i3)).bind fun s5 =>
      some (.inr (none, lay, s5))) none) (none)))))
set_option maxRecDepth 100000 in
theorem zr_144_0 (lay : zm_Lay) (σ : zm_Sig) (r0 : Nat) (i1 : Int32) (i2 : Int32) (i3 : Int32) : zm_blk zM zp_144 none 0 0 zc_144 24 (zp_144.drop 0) (0, [(0, .ref r0), (1, .int i1), (2, .int i2), (3, .int i3)], [], lay, σ, 0, 0) = zb_144_0 lay σ r0 i1 i2 i3 := rfl
theorem ze_144 {lay : zm_Lay} {σ : zm_Sig} {r0 : Nat} {i1 : Int32} {i2 : Int32} {i3 : Int32} {out : zm_Out} {r : zm_St ⊕ zm_Out} (h : zb_144_0 lay σ r0 i1 i2 i3 = some r) (hg : zm_end zp_P 144 out r) : zM 144 [.ref r0, .int i1, .int i2, .int i3] lay σ = some out :=
  zm_mean_go (M := zd_144) rfl (Nat.le_of_ble_eq_true rfl) (zm_blk_go (M := zd_144) rfl zs_144 24 (zp_144.drop 0) _ r (fun _ h => List.mem_of_mem_drop h) ((zr_144_0 lay σ r0 i1 i2 i3).trans h) hg)
/-! SubgroupWriter$Matrix.rankBy(I)I -/
theorem zs_145 : zm_srt zp_145 = true := by decide +kernel
noncomputable def zb_145_0 (lay : zm_Lay) (σ : zm_Sig) (r0 : Nat) (i1 : Int32) : Option (zm_St ⊕ zm_Out) :=
  if ((nI 2) : Int32) ≤ i1 then (some (.inl (9, [(0, .ref r0), (1, .int i1), (2, .int 0)], [], lay, σ, 0, 0)))
  else (some (.inr (some (.int 0), lay, σ)))
set_option maxRecDepth 100000 in
theorem zr_145_0 (lay : zm_Lay) (σ : zm_Sig) (r0 : Nat) (i1 : Int32) : zm_blk zM zp_145 (some .int) 0 0 zc_145 75 (zp_145.drop 0) (0, [(0, .ref r0), (1, .int i1)], [], lay, σ, 0, 0) = zb_145_0 lay σ r0 i1 := rfl
theorem ze_145 {lay : zm_Lay} {σ : zm_Sig} {r0 : Nat} {i1 : Int32} {out : zm_Out} {r : zm_St ⊕ zm_Out} (h : zb_145_0 lay σ r0 i1 = some r) (hg : zm_end zp_P 145 out r) : zM 145 [.ref r0, .int i1] lay σ = some out :=
  zm_mean_go (M := zd_145) rfl (Nat.le_of_ble_eq_true rfl) (zm_blk_go (M := zd_145) rfl zs_145 75 (zp_145.drop 0) _ r (fun _ h => List.mem_of_mem_drop h) ((zr_145_0 lay σ r0 i1).trans h) hg)
noncomputable def zb_145_9 (lay : zm_Lay) (σ : zm_Sig) (r0 : Nat) (i1 : Int32) (i2 : Int32) : Option (zm_St ⊕ zm_Out) :=
  (zm_is lay r0 2).bind fun _ =>
  if (σ.1 r0 1) ≤ i2 then (some (.inl (63, [(0, .ref r0), (1, .int i1), (2, .int 0), (3, .int 0)], [], lay, σ, 0, 0)))
  else (some (.inl (19, [(0, .ref r0), (1, .int i1), (2, .int i2), (3, .int 0)], [], lay, σ, 0, 0)))
set_option maxRecDepth 100000 in
theorem zr_145_9 (lay : zm_Lay) (σ : zm_Sig) (r0 : Nat) (i1 : Int32) (i2 : Int32) : zm_blk zM zp_145 (some .int) 0 0 zc_145 75 (zp_145.drop 7) (9, [(0, .ref r0), (1, .int i1), (2, .int i2)], [], lay, σ, 0, 0) = zb_145_9 lay σ r0 i1 i2 := rfl
theorem zg_145_9 {lay : zm_Lay} {σ : zm_Sig} {r0 : Nat} {i1 : Int32} {i2 : Int32} {out : zm_Out} {r : zm_St ⊕ zm_Out} (h : zb_145_9 lay σ r0 i1 i2 = some r) (hg : zm_end zp_P 145 out r) : zm_go zp_P 145 (9, [(0, .ref r0), (1, .int i1), (2, .int i2)], [], lay, σ, 0, 0) out :=
  zm_blk_go (M := zd_145) rfl zs_145 75 (zp_145.drop 7) _ r (fun _ h => List.mem_of_mem_drop h) ((zr_145_9 lay σ r0 i1 i2).trans h) hg
noncomputable def zb_145_19 (lay : zm_Lay) (σ : zm_Sig) (r0 : Nat) (i1 : Int32) (i2 : Int32) (i3 : Int32) : Option (zm_St ⊕ zm_Out) :=
  (zm_is lay r0 2).bind fun _ =>
  if (σ.1 r0 2) ≤ i3 then (some (.inl (9, [(0, .ref r0), (1, .int i1), (2, .int (i2 + 1))], [], lay, σ, 0, 0)))
  else ((zm_is lay r0 2).bind fun _ =>
   zm_opt (σ.2.2 r0 0) (fun q1 =>
   (zm_gR lay σ q1 i2).bind fun o2 => zm_opt o2 (fun q3 =>
   (zm_is lay r0 2).bind fun _ =>
   zm_opt (σ.2.2 r0 0) (fun q4 =>
   (zm_gR lay σ q4 i2).bind fun o5 => zm_opt o5 (fun q6 =>
   (zm_gI lay σ q6 i3).bind fun v7 =>
   (zm_ai (zM 146 [.int v7, .int i1] lay σ)).bind fun q8 =>
   (zm_sI q8.2.1 q8.2.2 q3 i3 q8.1).bind fun s9 =>
   some (.inl (19, [(0, .ref r0), (1, .int i1), (2, .int i2), (3, .int (i3 + 1))], [], q8.2.1, s9, 0, 0))) none) (none)) none) (none))
set_option maxRecDepth 100000 in
theorem zr_145_19 (lay : zm_Lay) (σ : zm_Sig) (r0 : Nat) (i1 : Int32) (i2 : Int32) (i3 : Int32) : zm_blk zM zp_145 (some .int) 0 0 zc_145 75 (zp_145.drop 13) (19, [(0, .ref r0), (1, .int i1), (2, .int i2), (3, .int i3)], [], lay, σ, 0, 0) = zb_145_19 lay σ r0 i1 i2 i3 := rfl
theorem zg_145_19 {lay : zm_Lay} {σ : zm_Sig} {r0 : Nat} {i1 : Int32} {i2 : Int32} {i3 : Int32} {out : zm_Out} {r : zm_St ⊕ zm_Out} (h : zb_145_19 lay σ r0 i1 i2 i3 = some r) (hg : zm_end zp_P 145 out r) : zm_go zp_P 145 (19, [(0, .ref r0), (1, .int i1), (2, .int i2), (3, .int i3)], [], lay, σ, 0, 0) out :=
  zm_blk_go (M := zd_145) rfl zs_145 75 (zp_145.drop 13) _ r (fun _ h => List.mem_of_mem_drop h) ((zr_145_19 lay σ r0 i1 i2 i3).trans h) hg
noncomputable def zb_145_63 (lay : zm_Lay) (σ : zm_Sig) (r0 : Nat) (i1 : Int32) (i2 : Int32) (i3 : Int32) : Option (zm_St ⊕ zm_Out) :=
  (zm_is lay r0 2).bind fun _ =>
  if (σ.1 r0 2) ≤ i3 then (some (.inr (some (.int i2), lay, σ)))
  else ((zm_is lay r0 2).bind fun _ =>
   if (σ.1 r0 1) ≤ i2 then (some (.inr (some (.int i2), lay, σ)))
   else ((zm_is lay r0 2).bind fun _ => (zm_ai (zM 147 [.ref r0, .int i2, .int i3] lay σ)).bind fun q1 =>
    if ¬ q1.1 = 0 then (some (.inl (96, [(0, .ref r0), (1, .int i1), (2, .int i2), (3, .int i3), (4, .int (i2 + 1))], [], q1.2.1, q1.2.2, 0, 0)))
    else (some (.inl (63, [(0, .ref r0), (1, .int i1), (2, .int i2), (3, .int (i3 + 1))], [], q1.2.1, q1.2.2, 0, 0)))))
set_option maxRecDepth 100000 in
theorem zr_145_63 (lay : zm_Lay) (σ : zm_Sig) (r0 : Nat) (i1 : Int32) (i2 : Int32) (i3 : Int32) : zm_blk zM zp_145 (some .int) 0 0 zc_145 75 (zp_145.drop 39) (63, [(0, .ref r0), (1, .int i1), (2, .int i2), (3, .int i3)], [], lay, σ, 0, 0) = zb_145_63 lay σ r0 i1 i2 i3 := rfl
theorem zg_145_63 {lay : zm_Lay} {σ : zm_Sig} {r0 : Nat} {i1 : Int32} {i2 : Int32} {i3 : Int32} {out : zm_Out} {r : zm_St ⊕ zm_Out} (h : zb_145_63 lay σ r0 i1 i2 i3 = some r) (hg : zm_end zp_P 145 out r) : zm_go zp_P 145 (63, [(0, .ref r0), (1, .int i1), (2, .int i2), (3, .int i3)], [], lay, σ, 0, 0) out :=
  zm_blk_go (M := zd_145) rfl zs_145 75 (zp_145.drop 39) _ r (fun _ h => List.mem_of_mem_drop h) ((zr_145_63 lay σ r0 i1 i2 i3).trans h) hg
noncomputable def zb_145_96 (lay : zm_Lay) (σ : zm_Sig) (r0 : Nat) (i1 : Int32) (i2 : Int32) (i3 : Int32) (i4 : Int32) : Option (zm_St ⊕ zm_Out) :=
  (zm_is lay r0 2).bind fun _ =>
  if (σ.1 r0 1) ≤ i4 then (some (.inl (63, [(0, .ref r0), (1, .int i1), (2, .int (i2 + 1)), (3, .int (i3 + 1))], [], lay, σ, 0, 0)))
  else ((zm_is lay r0 2).bind fun _ => (zm_av (zM 148 [.ref r0, .int i2, .int i4, .int i3, .int i1] lay σ)).bind fun q1 =>
   some (.inl (96, [(0, .ref r0), (1, .int i1), (2, .int i2), (3, .int i3), (4, .int (i4 + 1))], [], q1.1, q1.2, 0, 0)))
set_option maxRecDepth 100000 in
theorem zr_145_96 (lay : zm_Lay) (σ : zm_Sig) (r0 : Nat) (i1 : Int32) (i2 : Int32) (i3 : Int32) (i4 : Int32) : zm_blk zM zp_145 (some .int) 0 0 zc_145 75 (zp_145.drop 57) (96, [(0, .ref r0), (1, .int i1), (2, .int i2), (3, .int i3), (4, .int i4)], [], lay, σ, 0, 0) = zb_145_96 lay σ r0 i1 i2 i3 i4 := rfl
theorem zg_145_96 {lay : zm_Lay} {σ : zm_Sig} {r0 : Nat} {i1 : Int32} {i2 : Int32} {i3 : Int32} {i4 : Int32} {out : zm_Out} {r : zm_St ⊕ zm_Out} (h : zb_145_96 lay σ r0 i1 i2 i3 i4 = some r) (hg : zm_end zp_P 145 out r) : zm_go zp_P 145 (96, [(0, .ref r0), (1, .int i1), (2, .int i2), (3, .int i3), (4, .int i4)], [], lay, σ, 0, 0) out :=
  zm_blk_go (M := zd_145) rfl zs_145 75 (zp_145.drop 57) _ r (fun _ h => List.mem_of_mem_drop h) ((zr_145_96 lay σ r0 i1 i2 i3 i4).trans h) hg
/-! java/lang/Math.floorMod(II)I -/
theorem zs_146 : zm_srt zp_146 = true := by decide +kernel
noncomputable def zb_146_0 (lay : zm_Lay) (σ : zm_Sig) (i0 : Int32) (i1 : Int32) : Option (zm_St ⊕ zm_Out) :=
  if i1 = 0 then none
  else (if (0 : Int32) ≤ (i0 ^^^ i1) then (some (.inr (some (.int (i0 - i0 / i1 * i1)), lay, σ)))
  else (if (i0 - i0 / i1 * i1) = 0 then (some (.inr (some (.int (i0 - i0 / i1 * i1)), lay, σ)))
   else (some (.inr (some (.int ((i0 - i0 / i1 * i1) + i1)), lay, σ)))))
set_option maxRecDepth 100000 in
theorem zr_146_0 (lay : zm_Lay) (σ : zm_Sig) (i0 : Int32) (i1 : Int32) : zm_blk zM zp_146 (some .int) 0 0 zc_146 17 (zp_146.drop 0) (0, [(0, .int i0), (1, .int i1)], [], lay, σ, 0, 0) = zb_146_0 lay σ i0 i1 := rfl
theorem ze_146 {lay : zm_Lay} {σ : zm_Sig} {i0 : Int32} {i1 : Int32} {out : zm_Out} {r : zm_St ⊕ zm_Out} (h : zb_146_0 lay σ i0 i1 = some r) (hg : zm_end zp_P 146 out r) : zM 146 [.int i0, .int i1] lay σ = some out :=
  zm_mean_go (M := zd_146) rfl (Nat.le_of_ble_eq_true rfl) (zm_blk_go (M := zd_146) rfl zs_146 17 (zp_146.drop 0) _ r (fun _ h => List.mem_of_mem_drop h) ((zr_146_0 lay σ i0 i1).trans h) hg)
/-! SubgroupWriter$Matrix.bringUp(II)Z -/
theorem zs_147 : zm_srt zp_147 = true := by decide +kernel
noncomputable def zb_147_0 (lay : zm_Lay) (σ : zm_Sig) (r0 : Nat) (i1 : Int32) (i2 : Int32) : Option (zm_St ⊕ zm_Out) :=
  some (.inl (2, [(0, .ref r0), (1, .int i1), (2, .int i2), (3, .int i1)], [], lay, σ, 0, 0))
set_option maxRecDepth 100000 in
theorem zr_147_0 (lay : zm_Lay) (σ : zm_Sig) (r0 : Nat) (i1 : Int32) (i2 : Int32) : zm_blk zM zp_147 (some .boolean) 0 0 zc_147 39 (zp_147.drop 0) (0, [(0, .ref r0), (1, .int i1), (2, .int i2)], [], lay, σ, 0, 0) = zb_147_0 lay σ r0 i1 i2 := rfl
theorem ze_147 {lay : zm_Lay} {σ : zm_Sig} {r0 : Nat} {i1 : Int32} {i2 : Int32} {out : zm_Out} {r : zm_St ⊕ zm_Out} (h : zb_147_0 lay σ r0 i1 i2 = some r) (hg : zm_end zp_P 147 out r) : zM 147 [.ref r0, .int i1, .int i2] lay σ = some out :=
  zm_mean_go (M := zd_147) rfl (Nat.le_of_ble_eq_true rfl) (zm_blk_go (M := zd_147) rfl zs_147 39 (zp_147.drop 0) _ r (fun _ h => List.mem_of_mem_drop h) ((zr_147_0 lay σ r0 i1 i2).trans h) hg)
noncomputable def zb_147_2 (lay : zm_Lay) (σ : zm_Sig) (r0 : Nat) (i1 : Int32) (i2 : Int32) (i3 : Int32) : Option (zm_St ⊕ zm_Out) :=
  (zm_is lay r0 2).bind fun _ =>
  if (σ.1 r0 1) ≤ i3 then (some (.inr (some (.int 0), lay, σ)))
  else ((zm_is lay r0 2).bind fun _ =>
   zm_opt (σ.2.2 r0 0) (fun q1 =>
   (zm_gR lay σ q1 i3).bind fun o2 => zm_opt o2 (fun q3 =>
   (zm_gI lay σ q3 i2).bind fun v4 =>
   if ¬ v4 = 0 then ((zm_is lay r0 2).bind fun _ =>
    zm_opt (σ.2.2 r0 0) (fun q5 =>
    (zm_gR lay σ q5 i3).bind fun o6 => zm_opt o6 (fun q7 =>
    (zm_is lay r0 2).bind fun _ =>
    zm_opt (σ.2.2 r0 0) (fun q8 =>
    (zm_is lay r0 2).bind fun _ =>
    zm_opt (σ.2.2 r0 0) (fun q9 =>
    (zm_gR lay σ q9 i1).bind fun o10 => zm_opt o10 (fun q11 =>
    (zm_sR lay σ q8 i3 q11).bind fun s12 =>
    (zm_is lay r0 2).bind fun _ =>
    zm_opt (s12.2.2 r0 0) (fun q13 =>
    (zm_sR lay s12 q13 i1 q7).bind fun s14 =>
    some (.inr (some (.int 1), lay, s14))) (none)) none) (none)) (none)) none) (none))
   else (some (.inl (2, [(0, .ref r0), (1, .int i1), (2, .int i2), (3, .int (i3 + 1))], [], lay, σ, 0, 0)))) none) (none))
set_option maxRecDepth 100000 in
theorem zr_147_2 (lay : zm_Lay) (σ : zm_Sig) (r0 : Nat) (i1 : Int32) (i2 : Int32) (i3 : Int32) : zm_blk zM zp_147 (some .boolean) 0 0 zc_147 39 (zp_147.drop 2) (2, [(0, .ref r0), (1, .int i1), (2, .int i2), (3, .int i3)], [], lay, σ, 0, 0) = zb_147_2 lay σ r0 i1 i2 i3 := rfl
theorem zg_147_2 {lay : zm_Lay} {σ : zm_Sig} {r0 : Nat} {i1 : Int32} {i2 : Int32} {i3 : Int32} {out : zm_Out} {r : zm_St ⊕ zm_Out} (h : zb_147_2 lay σ r0 i1 i2 i3 = some r) (hg : zm_end zp_P 147 out r) : zm_go zp_P 147 (2, [(0, .ref r0), (1, .int i1), (2, .int i2), (3, .int i3)], [], lay, σ, 0, 0) out :=
  zm_blk_go (M := zd_147) rfl zs_147 39 (zp_147.drop 2) _ r (fun _ h => List.mem_of_mem_drop h) ((zr_147_2 lay σ r0 i1 i2 i3).trans h) hg
/-! SubgroupWriter$Matrix.clearBelow(IIII)V -/
theorem zs_148 : zm_srt zp_148 = true := by decide +kernel
noncomputable def zb_148_0 (lay : zm_Lay) (σ : zm_Sig) (r0 : Nat) (i1 : Int32) (i2 : Int32) (i3 : Int32) (i4 : Int32) : Option (zm_St ⊕ zm_Out) :=
  (zm_is lay r0 2).bind fun _ =>
  zm_opt (σ.2.2 r0 0) (fun q1 =>
  (zm_gR lay σ q1 i1).bind fun o2 => zm_opt o2 (fun q3 =>
  (zm_gI lay σ q3 i3).bind fun v4 =>
  (zm_is lay r0 2).bind fun _ =>
  zm_opt (σ.2.2 r0 0) (fun q5 =>
  (zm_gR lay σ q5 i2).bind fun o6 => zm_opt o6 (fun q7 =>
  (zm_gI lay σ q7 i3).bind fun v8 =>
  if ((nI 2) : Int32) ≤ i4 then (some (.inl (30, [(0, .ref r0), (1, .int i1), (2, .int i2), (4, .int i4), (5, .int v4), (6, .int v8), (7, .int 0)], [], lay, σ, 0, 0)))
  else (some (.inr (none, lay, σ)))) none) (none)) none) (none)
set_option maxRecDepth 100000 in
theorem zr_148_0 (lay : zm_Lay) (σ : zm_Sig) (r0 : Nat) (i1 : Int32) (i2 : Int32) (i3 : Int32) (i4 : Int32) : zm_blk zM zp_148 none 0 0 zc_148 53 (zp_148.drop 0) (0, [(0, .ref r0), (1, .int i1), (2, .int i2), (3, .int i3), (4, .int i4)], [], lay, σ, 0, 0) = zb_148_0 lay σ r0 i1 i2 i3 i4 := rfl
theorem ze_148 {lay : zm_Lay} {σ : zm_Sig} {r0 : Nat} {i1 : Int32} {i2 : Int32} {i3 : Int32} {i4 : Int32} {out : zm_Out} {r : zm_St ⊕ zm_Out} (h : zb_148_0 lay σ r0 i1 i2 i3 i4 = some r) (hg : zm_end zp_P 148 out r) : zM 148 [.ref r0, .int i1, .int i2, .int i3, .int i4] lay σ = some out :=
  zm_mean_go (M := zd_148) rfl (Nat.le_of_ble_eq_true rfl) (zm_blk_go (M := zd_148) rfl zs_148 53 (zp_148.drop 0) _ r (fun _ h => List.mem_of_mem_drop h) ((zr_148_0 lay σ r0 i1 i2 i3 i4).trans h) hg)
noncomputable def zb_148_30 (lay : zm_Lay) (σ : zm_Sig) (r0 : Nat) (i1 : Int32) (i2 : Int32) (i4 : Int32) (i5 : Int32) (i6 : Int32) (i7 : Int32) : Option (zm_St ⊕ zm_Out) :=
  (zm_is lay r0 2).bind fun _ =>
  if (σ.1 r0 2) ≤ i7 then (some (.inr (none, lay, σ)))
  else ((zm_is lay r0 2).bind fun _ =>
   zm_opt (σ.2.2 r0 0) (fun q1 =>
   (zm_gR lay σ q1 i2).bind fun o2 => zm_opt o2 (fun q3 =>
   (zm_is lay r0 2).bind fun _ =>
   zm_opt (σ.2.2 r0 0) (fun q4 =>
   (zm_gR lay σ q4 i2).bind fun o5 => zm_opt o5 (fun q6 =>
   (zm_gI lay σ q6 i7).bind fun v7 =>
   (zm_is lay r0 2).bind fun _ =>
   zm_opt (σ.2.2 r0 0) (fun q8 =>
   (zm_gR lay σ q8 i1).bind fun o9 => zm_opt o9 (fun q10 =>
   (zm_gI lay σ q10 i7).bind fun v11 =>
   (zm_ai (zM 146 [.int ((v7 * i5) - (v11 * i6)), .int i4] lay σ)).bind fun q12 =>
   (zm_sI q12.2.1 q12.2.2 q3 i7 q12.1).bind fun s13 =>
   some (.inl (30, [(0, .ref r0), (1, .int i1), (2, .int i2), (4, .int i4), (5, .int i5), (6, .int i6), (7, .int (i7 + 1))], [], q12.2.1, s13, 0, 0))) none) (none)) none) (none)) none) (none))
set_option maxRecDepth 100000 in
theorem zr_148_30 (lay : zm_Lay) (σ : zm_Sig) (r0 : Nat) (i1 : Int32) (i2 : Int32) (i4 : Int32) (i5 : Int32) (i6 : Int32) (i7 : Int32) : zm_blk zM zp_148 none 0 0 zc_148 53 (zp_148.drop 20) (30, [(0, .ref r0), (1, .int i1), (2, .int i2), (4, .int i4), (5, .int i5), (6, .int i6), (7, .int i7)], [], lay, σ, 0, 0) = zb_148_30 lay σ r0 i1 i2 i4 i5 i6 i7 := rfl
theorem zg_148_30 {lay : zm_Lay} {σ : zm_Sig} {r0 : Nat} {i1 : Int32} {i2 : Int32} {i4 : Int32} {i5 : Int32} {i6 : Int32} {i7 : Int32} {out : zm_Out} {r : zm_St ⊕ zm_Out} (h : zb_148_30 lay σ r0 i1 i2 i4 i5 i6 i7 = some r) (hg : zm_end zp_P 148 out r) : zm_go zp_P 148 (30, [(0, .ref r0), (1, .int i1), (2, .int i2), (4, .int i4), (5, .int i5), (6, .int i6), (7, .int i7)], [], lay, σ, 0, 0) out :=
  zm_blk_go (M := zd_148) rfl zs_148 53 (zp_148.drop 20) _ r (fun _ h => List.mem_of_mem_drop h) ((zr_148_30 lay σ r0 i1 i2 i4 i5 i6 i7).trans h) hg
/-! java/lang/Integer.bitCount(I)I -/
theorem zs_149 : zm_srt zp_149 = true := by decide +kernel
noncomputable def zb_149_0 (lay : zm_Lay) (σ : zm_Sig) (i0 : Int32) : Option (zm_St ⊕ zm_Out) :=
  some (.inr (some (.int ((((((((i0 - (((i0).toUInt32 >>> ((1 : Int32).toUInt32 &&& Int32.toUInt32 31)).toInt32 &&& (Int32.ofNat 1431655765))) &&& (Int32.ofNat 858993459)) + ((((i0 - (((i0).toUInt32 >>> ((1 : Int32).toUInt32 &&& Int32.toUInt32 31)).toInt32 &&& (Int32.ofNat 1431655765)))).toUInt32 >>> (((nI 2) : Int32).toUInt32 &&& Int32.toUInt32 31)).toInt32 &&& (Int32.ofNat 858993459))) + (((((i0 - (((i0).toUInt32 >>> ((1 : Int32).toUInt32 &&& Int32.toUInt32 31)).toInt32 &&& (Int32.ofNat 1431655765))) &&& (Int32.ofNat 858993459)) + ((((i0 - (((i0).toUInt32 >>> ((1 : Int32).toUInt32 &&& Int32.toUInt32 31)).toInt32 &&& (Int32.ofNat 1431655765)))).toUInt32 >>> (((nI 2) : Int32).toUInt32 &&& Int32.toUInt32 31)).toInt32 &&& (Int32.ofNat 858993459)))).toUInt32 >>> (((nI 4) : Int32).toUInt32 &&& Int32.toUInt32 31)).toInt32) &&& (Int32.ofNat 252645135)) + (((((((i0 - (((i0).toUInt32 >>> ((1 : Int32).toUInt32 &&& Int32.toUInt32 31)).toInt32 &&& (Int32.ofNat 1431655765))) &&& (Int32.ofNat 858993459)) + ((((i0 - (((i0).toUInt32 >>> ((1 : Int32).toUInt32 &&& Int32.toUInt32 31)).toInt32 &&& (Int32.ofNat 1431655765)))).toUInt32 >>> (((nI 2) : Int32).toUInt32 &&& Int32.toUInt32 31)).toInt32 &&& (Int32.ofNat 858993459))) + (((((i0 - (((i0).toUInt32 >>> ((1 : Int32).toUInt32 &&& Int32.toUInt32 31)).toInt32 &&& (Int32.ofNat 1431655765))) &&& (Int32.ofNat 858993459)) + ((((i0 - (((i0).toUInt32 >>> ((1 : Int32).toUInt32 &&& Int32.toUInt32 31)).toInt32 &&& (Int32.ofNat 1431655765)))).toUInt32 >>> (((nI 2) : Int32).toUInt32 &&& Int32.toUInt32 31)).toInt32 &&& (Int32.ofNat 858993459)))).toUInt32 >>> (((nI 4) : Int32).toUInt32 &&& Int32.toUInt32 31)).toInt32) &&& (Int32.ofNat 252645135))).toUInt32 >>> (((nI 8) : Int32).toUInt32 &&& Int32.toUInt32 31)).toInt32) + ((((((((i0 - (((i0).toUInt32 >>> ((1 : Int32).toUInt32 &&& Int32.toUInt32 31)).toInt32 &&& (Int32.ofNat 1431655765))) &&& (Int32.ofNat 858993459)) + ((((i0 - (((i0).toUInt32 >>> ((1 : Int32).toUInt32 &&& Int32.toUInt32 31)).toInt32 &&& (Int32.ofNat 1431655765)))).toUInt32 >>> (((nI 2) : Int32).toUInt32 &&& Int32.toUInt32 31)).toInt32 &&& (Int32.ofNat 858993459))) + (((((i0 - (((i0).toUInt32 >>> ((1 : Int32).toUInt32 &&& Int32.toUInt32 31)).toInt32 &&& (Int32.ofNat 1431655765))) &&& (Int32.ofNat 858993459)) + ((((i0 - (((i0).toUInt32 >>> ((1 : Int32).toUInt32 &&& Int32.toUInt32 31)).toInt32 &&& (Int32.ofNat 1431655765)))).toUInt32 >>> (((nI 2) : Int32).toUInt32 &&& Int32.toUInt32 31)).toInt32 &&& (Int32.ofNat 858993459)))).toUInt32 >>> (((nI 4) : Int32).toUInt32 &&& Int32.toUInt32 31)).toInt32) &&& (Int32.ofNat 252645135)) + (((((((i0 - (((i0).toUInt32 >>> ((1 : Int32).toUInt32 &&& Int32.toUInt32 31)).toInt32 &&& (Int32.ofNat 1431655765))) &&& (Int32.ofNat 858993459)) + ((((i0 - (((i0).toUInt32 >>> ((1 : Int32).toUInt32 &&& Int32.toUInt32 31)).toInt32 &&& (Int32.ofNat 1431655765)))).toUInt32 >>> (((nI 2) : Int32).toUInt32 &&& Int32.toUInt32 31)).toInt32 &&& (Int32.ofNat 858993459))) + (((((i0 - (((i0).toUInt32 >>> ((1 : Int32).toUInt32 &&& Int32.toUInt32 31)).toInt32 &&& (Int32.ofNat 1431655765))) &&& (Int32.ofNat 858993459)) + ((((i0 - (((i0).toUInt32 >>> ((1 : Int32).toUInt32 &&& Int32.toUInt32 31)).toInt32 &&& (Int32.ofNat 1431655765)))).toUInt32 >>> (((nI 2) : Int32).toUInt32 &&& Int32.toUInt32 31)).toInt32 &&& (Int32.ofNat 858993459)))).toUInt32 >>> (((nI 4) : Int32).toUInt32 &&& Int32.toUInt32 31)).toInt32) &&& (Int32.ofNat 252645135))).toUInt32 >>> (((nI 8) : Int32).toUInt32 &&& Int32.toUInt32 31)).toInt32)).toUInt32 >>> (((nI 16) : Int32).toUInt32 &&& Int32.toUInt32 31)).toInt32) &&& (nI 63))), lay, σ))
set_option maxRecDepth 100000 in
theorem zr_149_0 (lay : zm_Lay) (σ : zm_Sig) (i0 : Int32) : zm_blk zM zp_149 (some .int) 0 0 zc_149 43 (zp_149.drop 0) (0, [(0, .int i0)], [], lay, σ, 0, 0) = zb_149_0 lay σ i0 := rfl
theorem ze_149 {lay : zm_Lay} {σ : zm_Sig} {i0 : Int32} {out : zm_Out} {r : zm_St ⊕ zm_Out} (h : zb_149_0 lay σ i0 = some r) (hg : zm_end zp_P 149 out r) : zM 149 [.int i0] lay σ = some out :=
  zm_mean_go (M := zd_149) rfl (Nat.le_of_ble_eq_true rfl) (zm_blk_go (M := zd_149) rfl zs_149 43 (zp_149.drop 0) _ r (fun _ h => List.mem_of_mem_drop h) ((zr_149_0 lay σ i0).trans h) hg)
/-! SubgroupWriter.ways(I)I -/
theorem zs_150 : zm_srt zp_150 = true := by decide +kernel
noncomputable def zb_150_0 (lay : zm_Lay) (σ : zm_Sig) (r0 : Nat) (i1 : Int32) : Option (zm_St ⊕ zm_Out) :=
  (zm_ai (zM 141 [.int i1] lay σ)).bind fun q1 =>
  if ¬ q1.1 = 0 then ((zm_is q1.2.1 r0 9).bind fun _ =>
   zm_opt (q1.2.2.2.2 r0 11) (fun q2 =>
   (zm_is q1.2.1 q2 1).bind fun _ =>
   if ¬ (q1.2.2.1 q2 0) = 0 then ((zm_is q1.2.1 r0 9).bind fun _ =>
    zm_opt (q1.2.2.2.2 r0 11) (fun q3 =>
    (zm_is q1.2.1 r0 9).bind fun _ =>
    zm_opt (q1.2.2.2.2 r0 6) (fun q4 =>
    (zm_is q1.2.1 q3 1).bind fun _ => (zm_av (zM 151 [.ref q3, .ref q4] q1.2.1 q1.2.2)).bind fun q5 =>
    (zm_is q5.1 r0 9).bind fun _ =>
    zm_opt (q5.2.2.2 r0 11) (fun q6 =>
    (zm_is q5.1 q6 1).bind fun _ =>
    (zm_is q5.1 r0 9).bind fun _ =>
    zm_opt (q5.2.2.2 r0 6) (fun q7 =>
    (zm_is q5.1 q7 2).bind fun _ => (zm_ai (zM 145 [.ref q7, .int i1] q5.1 q5.2)).bind fun q8 =>
    (zm_al (zM 152 [.long (i1 : Int32).toInt64, .int ((q5.2.1 q6 1) - q8.1)] q8.2.1 q8.2.2)).bind fun q9 =>
    (zm_is q9.2.1 r0 9).bind fun _ => (zm_av (zM 153 [.ref r0, .long q9.1, .long (Int64.ofNat 1)] q9.2.1 q9.2.2)).bind fun q10 =>
    some (.inr (some (.int ((q5.2.1 q6 1) - q8.1)), q10.1, q10.2))) (none)) (none)) (none)) (none))
   else (some (.inr (some (.int (-4)), q1.2.1, q1.2.2)))) (none))
  else (some (.inr (some (.int (-1)), q1.2.1, q1.2.2)))
set_option maxRecDepth 100000 in
theorem zr_150_0 (lay : zm_Lay) (σ : zm_Sig) (r0 : Nat) (i1 : Int32) : zm_blk zM zp_150 (some .int) 0 0 zc_150 35 (zp_150.drop 0) (0, [(0, .ref r0), (1, .int i1)], [], lay, σ, 0, 0) = zb_150_0 lay σ r0 i1 := rfl
theorem ze_150 {lay : zm_Lay} {σ : zm_Sig} {r0 : Nat} {i1 : Int32} {out : zm_Out} {r : zm_St ⊕ zm_Out} (h : zb_150_0 lay σ r0 i1 = some r) (hg : zm_end zp_P 150 out r) : zM 150 [.ref r0, .int i1] lay σ = some out :=
  zm_mean_go (M := zd_150) rfl (Nat.le_of_ble_eq_true rfl) (zm_blk_go (M := zd_150) rfl zs_150 35 (zp_150.drop 0) _ r (fun _ h => List.mem_of_mem_drop h) ((zr_150_0 lay σ r0 i1).trans h) hg)
/-! SubgroupWriter$Group.fill(LSubgroupWriter$Matrix;)V -/
theorem zs_151 : zm_srt zp_151 = true := by decide +kernel
noncomputable def zb_151_0 (lay : zm_Lay) (σ : zm_Sig) (r0 : Nat) (r1 : Nat) : Option (zm_St ⊕ zm_Out) :=
  (zm_is lay r0 1).bind fun _ =>
  (zm_is lay r0 1).bind fun _ =>
  (zm_is lay r1 2).bind fun _ => (zm_av (zM 143 [.ref r1, .int (σ.1 r0 2), .int (σ.1 r0 1)] lay σ)).bind fun q1 =>
  some (.inl (14, [(0, .ref r0), (1, .ref r1), (2, .int 0)], [], q1.1, q1.2, 0, 0))
set_option maxRecDepth 100000 in
theorem zr_151_0 (lay : zm_Lay) (σ : zm_Sig) (r0 : Nat) (r1 : Nat) : zm_blk zM zp_151 none 0 0 zc_151 45 (zp_151.drop 0) (0, [(0, .ref r0), (1, .ref r1)], [], lay, σ, 0, 0) = zb_151_0 lay σ r0 r1 := rfl
theorem ze_151 {lay : zm_Lay} {σ : zm_Sig} {r0 : Nat} {r1 : Nat} {out : zm_Out} {r : zm_St ⊕ zm_Out} (h : zb_151_0 lay σ r0 r1 = some r) (hg : zm_end zp_P 151 out r) : zM 151 [.ref r0, .ref r1] lay σ = some out :=
  zm_mean_go (M := zd_151) rfl (Nat.le_of_ble_eq_true rfl) (zm_blk_go (M := zd_151) rfl zs_151 45 (zp_151.drop 0) _ r (fun _ h => List.mem_of_mem_drop h) ((zr_151_0 lay σ r0 r1).trans h) hg)
noncomputable def zb_151_14 (lay : zm_Lay) (σ : zm_Sig) (r0 : Nat) (r1 : Nat) (i2 : Int32) : Option (zm_St ⊕ zm_Out) :=
  (zm_is lay r0 1).bind fun _ =>
  if (σ.1 r0 2) ≤ i2 then (some (.inr (none, lay, σ)))
  else (some (.inl (24, [(0, .ref r0), (1, .ref r1), (2, .int i2), (3, .int 0)], [], lay, σ, 0, 0)))
set_option maxRecDepth 100000 in
theorem zr_151_14 (lay : zm_Lay) (σ : zm_Sig) (r0 : Nat) (r1 : Nat) (i2 : Int32) : zm_blk zM zp_151 none 0 0 zc_151 45 (zp_151.drop 8) (14, [(0, .ref r0), (1, .ref r1), (2, .int i2)], [], lay, σ, 0, 0) = zb_151_14 lay σ r0 r1 i2 := rfl
theorem zg_151_14 {lay : zm_Lay} {σ : zm_Sig} {r0 : Nat} {r1 : Nat} {i2 : Int32} {out : zm_Out} {r : zm_St ⊕ zm_Out} (h : zb_151_14 lay σ r0 r1 i2 = some r) (hg : zm_end zp_P 151 out r) : zm_go zp_P 151 (14, [(0, .ref r0), (1, .ref r1), (2, .int i2)], [], lay, σ, 0, 0) out :=
  zm_blk_go (M := zd_151) rfl zs_151 45 (zp_151.drop 8) _ r (fun _ h => List.mem_of_mem_drop h) ((zr_151_14 lay σ r0 r1 i2).trans h) hg
noncomputable def zb_151_24 (lay : zm_Lay) (σ : zm_Sig) (r0 : Nat) (r1 : Nat) (i2 : Int32) (i3 : Int32) : Option (zm_St ⊕ zm_Out) :=
  (zm_is lay r0 1).bind fun _ =>
  zm_opt (σ.2.2 r0 5) (fun q1 =>
  (zm_gI lay σ q1 i2).bind fun v2 =>
  if v2 ≤ i3 then (some (.inl (14, [(0, .ref r0), (1, .ref r1), (2, .int (i2 + 1))], [], lay, σ, 0, 0)))
  else ((zm_is lay r0 1).bind fun _ =>
   zm_opt (σ.2.2 r0 4) (fun q3 =>
   (zm_gR lay σ q3 i2).bind fun o4 => zm_opt o4 (fun q5 =>
   (zm_gI lay σ q5 i3).bind fun v6 =>
   (zm_ai (zM 91 [.int v6] lay σ)).bind fun q7 =>
   if v6 ≤ 0 then ((zm_is q7.2.1 r1 2).bind fun _ => (zm_av (zM 144 [.ref r1, .int i2, .int (q7.1 - 1), .int (-1)] q7.2.1 q7.2.2)).bind fun q8 =>
    some (.inl (24, [(0, .ref r0), (1, .ref r1), (2, .int i2), (3, .int (i3 + 1))], [], q8.1, q8.2, 0, 0)))
   else ((zm_is q7.2.1 r1 2).bind fun _ => (zm_av (zM 144 [.ref r1, .int i2, .int (q7.1 - 1), .int 1] q7.2.1 q7.2.2)).bind fun q9 =>
    some (.inl (24, [(0, .ref r0), (1, .ref r1), (2, .int i2), (3, .int (i3 + 1))], [], q9.1, q9.2, 0, 0)))) none) (none))) (none)
set_option maxRecDepth 100000 in
theorem zr_151_24 (lay : zm_Lay) (σ : zm_Sig) (r0 : Nat) (r1 : Nat) (i2 : Int32) (i3 : Int32) : zm_blk zM zp_151 none 0 0 zc_151 45 (zp_151.drop 14) (24, [(0, .ref r0), (1, .ref r1), (2, .int i2), (3, .int i3)], [], lay, σ, 0, 0) = zb_151_24 lay σ r0 r1 i2 i3 := rfl
theorem zg_151_24 {lay : zm_Lay} {σ : zm_Sig} {r0 : Nat} {r1 : Nat} {i2 : Int32} {i3 : Int32} {out : zm_Out} {r : zm_St ⊕ zm_Out} (h : zb_151_24 lay σ r0 r1 i2 i3 = some r) (hg : zm_end zp_P 151 out r) : zm_go zp_P 151 (24, [(0, .ref r0), (1, .ref r1), (2, .int i2), (3, .int i3)], [], lay, σ, 0, 0) out :=
  zm_blk_go (M := zd_151) rfl zs_151 45 (zp_151.drop 14) _ r (fun _ h => List.mem_of_mem_drop h) ((zr_151_24 lay σ r0 r1 i2 i3).trans h) hg
/-! SubgroupWriter.power(JI)J -/
theorem zs_152 : zm_srt zp_152 = true := by decide +kernel
noncomputable def zb_152_0 (lay : zm_Lay) (σ : zm_Sig) (l0 : Int64) (i2 : Int32) : Option (zm_St ⊕ zm_Out) :=
  some (.inl (5, [(0, .long l0), (2, .int i2), (3, .long (Int64.ofNat 1)), (5, .int 0)], [], lay, σ, 0, 0))
set_option maxRecDepth 100000 in
theorem zr_152_0 (lay : zm_Lay) (σ : zm_Sig) (l0 : Int64) (i2 : Int32) : zm_blk zM zp_152 (some .long) 0 0 zc_152 16 (zp_152.drop 0) (0, [(0, .long l0), (2, .int i2)], [], lay, σ, 0, 0) = zb_152_0 lay σ l0 i2 := rfl
theorem ze_152 {lay : zm_Lay} {σ : zm_Sig} {l0 : Int64} {i2 : Int32} {out : zm_Out} {r : zm_St ⊕ zm_Out} (h : zb_152_0 lay σ l0 i2 = some r) (hg : zm_end zp_P 152 out r) : zM 152 [.long l0, .int i2] lay σ = some out :=
  zm_mean_go (M := zd_152) rfl (Nat.le_of_ble_eq_true rfl) (zm_blk_go (M := zd_152) rfl zs_152 16 (zp_152.drop 0) _ r (fun _ h => List.mem_of_mem_drop h) ((zr_152_0 lay σ l0 i2).trans h) hg)
noncomputable def zb_152_5 (lay : zm_Lay) (σ : zm_Sig) (l0 : Int64) (i2 : Int32) (l3 : Int64) (i5 : Int32) : Option (zm_St ⊕ zm_Out) :=
  if i2 ≤ i5 then (some (.inr (some (.long l3), lay, σ)))
  else (some (.inl (5, [(0, .long l0), (2, .int i2), (3, .long (l3 * l0)), (5, .int (i5 + 1))], [], lay, σ, 0, 0)))
set_option maxRecDepth 100000 in
theorem zr_152_5 (lay : zm_Lay) (σ : zm_Sig) (l0 : Int64) (i2 : Int32) (l3 : Int64) (i5 : Int32) : zm_blk zM zp_152 (some .long) 0 0 zc_152 16 (zp_152.drop 4) (5, [(0, .long l0), (2, .int i2), (3, .long l3), (5, .int i5)], [], lay, σ, 0, 0) = zb_152_5 lay σ l0 i2 l3 i5 := rfl
theorem zg_152_5 {lay : zm_Lay} {σ : zm_Sig} {l0 : Int64} {i2 : Int32} {l3 : Int64} {i5 : Int32} {out : zm_Out} {r : zm_St ⊕ zm_Out} (h : zb_152_5 lay σ l0 i2 l3 i5 = some r) (hg : zm_end zp_P 152 out r) : zm_go zp_P 152 (5, [(0, .long l0), (2, .int i2), (3, .long l3), (5, .int i5)], [], lay, σ, 0, 0) out :=
  zm_blk_go (M := zd_152) rfl zs_152 16 (zp_152.drop 4) _ r (fun _ h => List.mem_of_mem_drop h) ((zr_152_5 lay σ l0 i2 l3 i5).trans h) hg
/-! SubgroupWriter.tellShare(JJ)V -/
theorem zs_153 : zm_srt zp_153 = true := by decide +kernel
noncomputable def zb_153_0 (lay : zm_Lay) (σ : zm_Sig) (r0 : Nat) (l1 : Int64) (l3 : Int64) : Option (zm_St ⊕ zm_Out) :=
  (zm_al (zM 154 [.long l1, .long l3] lay σ)).bind fun q1 =>
  if (0 : Int32) < (lg_cmp q1.1 (Int64.ofNat 0)) then (if q1.1 = 0 then none
   else ((zm_is q1.2.1 r0 9).bind fun _ => (zm_fw q1.2.2 r0 14 1 (.long (l1 / q1.1))).bind fun s2 =>
   if q1.1 = 0 then none
   else ((zm_is q1.2.1 r0 9).bind fun _ => (zm_fw s2 r0 15 1 (.long (l3 / q1.1))).bind fun s3 =>
   some (.inr (none, q1.2.1, s3)))))
  else (some (.inr (none, q1.2.1, q1.2.2)))
set_option maxRecDepth 100000 in
theorem zr_153_0 (lay : zm_Lay) (σ : zm_Sig) (r0 : Nat) (l1 : Int64) (l3 : Int64) : zm_blk zM zp_153 none 0 0 zc_153 21 (zp_153.drop 0) (0, [(0, .ref r0), (1, .long l1), (3, .long l3)], [], lay, σ, 0, 0) = zb_153_0 lay σ r0 l1 l3 := rfl
theorem ze_153 {lay : zm_Lay} {σ : zm_Sig} {r0 : Nat} {l1 : Int64} {l3 : Int64} {out : zm_Out} {r : zm_St ⊕ zm_Out} (h : zb_153_0 lay σ r0 l1 l3 = some r) (hg : zm_end zp_P 153 out r) : zM 153 [.ref r0, .long l1, .long l3] lay σ = some out :=
  zm_mean_go (M := zd_153) rfl (Nat.le_of_ble_eq_true rfl) (zm_blk_go (M := zd_153) rfl zs_153 21 (zp_153.drop 0) _ r (fun _ h => List.mem_of_mem_drop h) ((zr_153_0 lay σ r0 l1 l3).trans h) hg)
/-! SubgroupWriter.commonDivisor(JJ)J -/
theorem zs_154 : zm_srt zp_154 = true := by decide +kernel
noncomputable def zb_154_0 (lay : zm_Lay) (σ : zm_Sig) (l0 : Int64) (l2 : Int64) : Option (zm_St ⊕ zm_Out) :=
  some (.inl (9, [(4, .long l0), (6, .long l2), (8, .int 0)], [], lay, σ, 0, 0))
set_option maxRecDepth 100000 in
theorem zr_154_0 (lay : zm_Lay) (σ : zm_Sig) (l0 : Int64) (l2 : Int64) : zm_blk zM zp_154 (some .long) 0 0 zc_154 26 (zp_154.drop 0) (0, [(0, .long l0), (2, .long l2)], [], lay, σ, 0, 0) = zb_154_0 lay σ l0 l2 := rfl
theorem ze_154 {lay : zm_Lay} {σ : zm_Sig} {l0 : Int64} {l2 : Int64} {out : zm_Out} {r : zm_St ⊕ zm_Out} (h : zb_154_0 lay σ l0 l2 = some r) (hg : zm_end zp_P 154 out r) : zM 154 [.long l0, .long l2] lay σ = some out :=
  zm_mean_go (M := zd_154) rfl (Nat.le_of_ble_eq_true rfl) (zm_blk_go (M := zd_154) rfl zs_154 26 (zp_154.drop 0) _ r (fun _ h => List.mem_of_mem_drop h) ((zr_154_0 lay σ l0 l2).trans h) hg)
noncomputable def zb_154_9 (lay : zm_Lay) (σ : zm_Sig) (l4 : Int64) (l6 : Int64) (i8 : Int32) : Option (zm_St ⊕ zm_Out) :=
  if ((nI 200) : Int32) ≤ i8 then (some (.inr (some (.long l4), lay, σ)))
  else (if (lg_cmp l6 (Int64.ofNat 0)) = 0 then (some (.inr (some (.long l4), lay, σ)))
   else (if l6 = 0 then none
    else (some (.inl (9, [(4, .long l6), (6, .long (l4 - l4 / l6 * l6)), (8, .int (i8 + 1))], [], lay, σ, 0, 0)))))
set_option maxRecDepth 100000 in
theorem zr_154_9 (lay : zm_Lay) (σ : zm_Sig) (l4 : Int64) (l6 : Int64) (i8 : Int32) : zm_blk zM zp_154 (some .long) 0 0 zc_154 26 (zp_154.drop 6) (9, [(4, .long l4), (6, .long l6), (8, .int i8)], [], lay, σ, 0, 0) = zb_154_9 lay σ l4 l6 i8 := rfl
theorem zg_154_9 {lay : zm_Lay} {σ : zm_Sig} {l4 : Int64} {l6 : Int64} {i8 : Int32} {out : zm_Out} {r : zm_St ⊕ zm_Out} (h : zb_154_9 lay σ l4 l6 i8 = some r) (hg : zm_end zp_P 154 out r) : zm_go zp_P 154 (9, [(4, .long l4), (6, .long l6), (8, .int i8)], [], lay, σ, 0, 0) out :=
  zm_blk_go (M := zd_154) rfl zs_154 26 (zp_154.drop 6) _ r (fun _ h => List.mem_of_mem_drop h) ((zr_154_9 lay σ l4 l6 i8).trans h) hg
/-! SubgroupWriter.odds(III)I -/
theorem zs_155 : zm_srt zp_155 = true := by decide +kernel
noncomputable def zb_155_0 (lay : zm_Lay) (σ : zm_Sig) (r0 : Nat) (i1 : Int32) (i2 : Int32) (i3 : Int32) : Option (zm_St ⊕ zm_Out) :=
  (zm_is lay r0 9).bind fun _ =>
  zm_opt (σ.2.2 r0 11) (fun q1 =>
  (zm_is lay q1 1).bind fun _ => (zm_ai (zM 69 [.ref q1, .int i1] lay σ)).bind fun q2 =>
  if q2.1 = 0 then (some (.inr (some (.int (-1)), q2.2.1, q2.2.2)))
  else ((zm_is q2.2.1 r0 9).bind fun _ =>
   zm_opt (q2.2.2.2.2 r0 11) (fun q3 =>
   (zm_is q2.2.1 q3 1).bind fun _ => (zm_ai (zM 69 [.ref q3, .int i2] q2.2.1 q2.2.2)).bind fun q4 =>
   if q4.1 = 0 then (some (.inr (some (.int (-1)), q4.2.1, q4.2.2)))
   else (if i3 < 0 then (some (.inr (some (.int (-1)), q4.2.1, q4.2.2)))
    else (if i3 ≤ (nI 8) then ((zm_is q4.2.1 r0 9).bind fun _ =>
      zm_opt (q4.2.2.2.2 r0 8) (fun q5 =>
      (zm_av (zM 156 [.ref q5, .long (Int64.ofNat 0)] q4.2.1 q4.2.2)).bind fun q6 =>
      (zm_is q6.1 r0 9).bind fun _ =>
      zm_opt (q6.2.2.2 r0 8) (fun q7 =>
      (zm_sL q6.1 q6.2 q7 i1 (Int64.ofNat 1)).bind fun s8 =>
      some (.inl (52, [(0, .ref r0), (2, .int i2), (3, .int i3), (4, .int 0)], [], q6.1, s8, 0, 0))) (none)) (none))
     else (some (.inr (some (.int (-1)), q4.2.1, q4.2.2)))))) (none))) (none)
set_option maxRecDepth 100000 in
theorem zr_155_0 (lay : zm_Lay) (σ : zm_Sig) (r0 : Nat) (i1 : Int32) (i2 : Int32) (i3 : Int32) : zm_blk zM zp_155 (some .int) 0 0 zc_155 52 (zp_155.drop 0) (0, [(0, .ref r0), (1, .int i1), (2, .int i2), (3, .int i3)], [], lay, σ, 0, 0) = zb_155_0 lay σ r0 i1 i2 i3 := rfl
theorem ze_155 {lay : zm_Lay} {σ : zm_Sig} {r0 : Nat} {i1 : Int32} {i2 : Int32} {i3 : Int32} {out : zm_Out} {r : zm_St ⊕ zm_Out} (h : zb_155_0 lay σ r0 i1 i2 i3 = some r) (hg : zm_end zp_P 155 out r) : zM 155 [.ref r0, .int i1, .int i2, .int i3] lay σ = some out :=
  zm_mean_go (M := zd_155) rfl (Nat.le_of_ble_eq_true rfl) (zm_blk_go (M := zd_155) rfl zs_155 52 (zp_155.drop 0) _ r (fun _ h => List.mem_of_mem_drop h) ((zr_155_0 lay σ r0 i1 i2 i3).trans h) hg)
noncomputable def zb_155_52 (lay : zm_Lay) (σ : zm_Sig) (r0 : Nat) (i2 : Int32) (i3 : Int32) (i4 : Int32) : Option (zm_St ⊕ zm_Out) :=
  if i3 ≤ i4 then ((zm_is lay r0 9).bind fun _ =>
   zm_opt (σ.2.2 r0 8) (fun q1 =>
   (zm_gL lay σ q1 i2).bind fun v2 =>
   (zm_is lay r0 9).bind fun _ =>
   zm_opt (σ.2.2 r0 11) (fun q3 =>
   (zm_is lay q3 1).bind fun _ =>
   (zm_al (zM 152 [.long ((((nI 2) : Int32) * (σ.1 q3 1)) : Int32).toInt64, .int i3] lay σ)).bind fun q4 =>
   (zm_is q4.2.1 r0 9).bind fun _ => (zm_av (zM 153 [.ref r0, .long v2, .long q4.1] q4.2.1 q4.2.2)).bind fun q5 =>
   some (.inr (some (.int 1), q5.1, q5.2))) (none)) (none))
  else ((zm_is lay r0 9).bind fun _ => (zm_av (zM 157 [.ref r0] lay σ)).bind fun q6 =>
   some (.inl (52, [(0, .ref r0), (2, .int i2), (3, .int i3), (4, .int (i4 + 1))], [], q6.1, q6.2, 0, 0)))
set_option maxRecDepth 100000 in
theorem zr_155_52 (lay : zm_Lay) (σ : zm_Sig) (r0 : Nat) (i2 : Int32) (i3 : Int32) (i4 : Int32) : zm_blk zM zp_155 (some .int) 0 0 zc_155 52 (zp_155.drop 28) (52, [(0, .ref r0), (2, .int i2), (3, .int i3), (4, .int i4)], [], lay, σ, 0, 0) = zb_155_52 lay σ r0 i2 i3 i4 := rfl
theorem zg_155_52 {lay : zm_Lay} {σ : zm_Sig} {r0 : Nat} {i2 : Int32} {i3 : Int32} {i4 : Int32} {out : zm_Out} {r : zm_St ⊕ zm_Out} (h : zb_155_52 lay σ r0 i2 i3 i4 = some r) (hg : zm_end zp_P 155 out r) : zm_go zp_P 155 (52, [(0, .ref r0), (2, .int i2), (3, .int i3), (4, .int i4)], [], lay, σ, 0, 0) out :=
  zm_blk_go (M := zd_155) rfl zs_155 52 (zp_155.drop 28) _ r (fun _ h => List.mem_of_mem_drop h) ((zr_155_52 lay σ r0 i2 i3 i4).trans h) hg
/-! java/util/Arrays.fill([JJ)V -/
theorem zs_156 : zm_srt zp_156 = true := by decide +kernel
noncomputable def zb_156_0 (lay : zm_Lay) (σ : zm_Sig) (r0 : Nat) (l1 : Int64) : Option (zm_St ⊕ zm_Out) :=
  (zm_len lay r0).bind fun v1 =>
  some (.inl (6, [(0, .ref r0), (1, .long l1), (3, .int 0), (4, .int v1)], [], lay, σ, 0, 0))
set_option maxRecDepth 100000 in
theorem zr_156_0 (lay : zm_Lay) (σ : zm_Sig) (r0 : Nat) (l1 : Int64) : zm_blk zM zp_156 none 0 0 zc_156 16 (zp_156.drop 0) (0, [(0, .ref r0), (1, .long l1)], [], lay, σ, 0, 0) = zb_156_0 lay σ r0 l1 := rfl
theorem ze_156 {lay : zm_Lay} {σ : zm_Sig} {r0 : Nat} {l1 : Int64} {out : zm_Out} {r : zm_St ⊕ zm_Out} (h : zb_156_0 lay σ r0 l1 = some r) (hg : zm_end zp_P 156 out r) : zM 156 [.ref r0, .long l1] lay σ = some out :=
  zm_mean_go (M := zd_156) rfl (Nat.le_of_ble_eq_true rfl) (zm_blk_go (M := zd_156) rfl zs_156 16 (zp_156.drop 0) _ r (fun _ h => List.mem_of_mem_drop h) ((zr_156_0 lay σ r0 l1).trans h) hg)
noncomputable def zb_156_6 (lay : zm_Lay) (σ : zm_Sig) (r0 : Nat) (l1 : Int64) (i3 : Int32) (i4 : Int32) : Option (zm_St ⊕ zm_Out) :=
  if i4 ≤ i3 then (some (.inr (none, lay, σ)))
  else ((zm_sL lay σ r0 i3 l1).bind fun s1 =>
   some (.inl (6, [(0, .ref r0), (1, .long l1), (3, .int (i3 + 1)), (4, .int i4)], [], lay, s1, 0, 0)))
set_option maxRecDepth 100000 in
theorem zr_156_6 (lay : zm_Lay) (σ : zm_Sig) (r0 : Nat) (l1 : Int64) (i3 : Int32) (i4 : Int32) : zm_blk zM zp_156 none 0 0 zc_156 16 (zp_156.drop 5) (6, [(0, .ref r0), (1, .long l1), (3, .int i3), (4, .int i4)], [], lay, σ, 0, 0) = zb_156_6 lay σ r0 l1 i3 i4 := rfl
theorem zg_156_6 {lay : zm_Lay} {σ : zm_Sig} {r0 : Nat} {l1 : Int64} {i3 : Int32} {i4 : Int32} {out : zm_Out} {r : zm_St ⊕ zm_Out} (h : zb_156_6 lay σ r0 l1 i3 i4 = some r) (hg : zm_end zp_P 156 out r) : zm_go zp_P 156 (6, [(0, .ref r0), (1, .long l1), (3, .int i3), (4, .int i4)], [], lay, σ, 0, 0) out :=
  zm_blk_go (M := zd_156) rfl zs_156 16 (zp_156.drop 5) _ r (fun _ h => List.mem_of_mem_drop h) ((zr_156_6 lay σ r0 l1 i3 i4).trans h) hg
/-! SubgroupWriter.spreadChances()V -/
theorem zs_157 : zm_srt zp_157 = true := by decide +kernel
noncomputable def zb_157_0 (lay : zm_Lay) (σ : zm_Sig) (r0 : Nat) : Option (zm_St ⊕ zm_Out) :=
  (zm_is lay r0 9).bind fun _ =>
  zm_opt (σ.2.2 r0 9) (fun q1 =>
  (zm_av (zM 156 [.ref q1, .long (Int64.ofNat 0)] lay σ)).bind fun q2 =>
  some (.inl (10, [(0, .ref r0), (1, .int 0)], [], q2.1, q2.2, 0, 0))) (none)
set_option maxRecDepth 100000 in
theorem zr_157_0 (lay : zm_Lay) (σ : zm_Sig) (r0 : Nat) : zm_blk zM zp_157 none 0 0 zc_157 50 (zp_157.drop 0) (0, [(0, .ref r0)], [], lay, σ, 0, 0) = zb_157_0 lay σ r0 := rfl
theorem ze_157 {lay : zm_Lay} {σ : zm_Sig} {r0 : Nat} {out : zm_Out} {r : zm_St ⊕ zm_Out} (h : zb_157_0 lay σ r0 = some r) (hg : zm_end zp_P 157 out r) : zM 157 [.ref r0] lay σ = some out :=
  zm_mean_go (M := zd_157) rfl (Nat.le_of_ble_eq_true rfl) (zm_blk_go (M := zd_157) rfl zs_157 50 (zp_157.drop 0) _ r (fun _ h => List.mem_of_mem_drop h) ((zr_157_0 lay σ r0).trans h) hg)
noncomputable def zb_157_10 (lay : zm_Lay) (σ : zm_Sig) (r0 : Nat) (i1 : Int32) : Option (zm_St ⊕ zm_Out) :=
  (zm_is lay r0 9).bind fun _ =>
  zm_opt (σ.2.2 r0 11) (fun q1 =>
  (zm_is lay q1 1).bind fun _ =>
  if (σ.1 q1 0) ≤ i1 then ((zm_is lay r0 9).bind fun _ =>
   zm_opt (σ.2.2 r0 9) (fun q2 =>
   (zm_is lay r0 9).bind fun _ =>
   zm_opt (σ.2.2 r0 8) (fun q3 =>
   (zm_cpy lay σ q2 0 q3 0 (nI 5)).bind fun s4 =>
   some (.inr (none, lay, s4))) (none)) (none))
  else (some (.inl (23, [(0, .ref r0), (1, .int i1), (2, .int 0)], [], lay, σ, 0, 0)))) (none)
set_option maxRecDepth 100000 in
theorem zr_157_10 (lay : zm_Lay) (σ : zm_Sig) (r0 : Nat) (i1 : Int32) : zm_blk zM zp_157 none 0 0 zc_157 50 (zp_157.drop 6) (10, [(0, .ref r0), (1, .int i1)], [], lay, σ, 0, 0) = zb_157_10 lay σ r0 i1 := rfl
theorem zg_157_10 {lay : zm_Lay} {σ : zm_Sig} {r0 : Nat} {i1 : Int32} {out : zm_Out} {r : zm_St ⊕ zm_Out} (h : zb_157_10 lay σ r0 i1 = some r) (hg : zm_end zp_P 157 out r) : zm_go zp_P 157 (10, [(0, .ref r0), (1, .int i1)], [], lay, σ, 0, 0) out :=
  zm_blk_go (M := zd_157) rfl zs_157 50 (zp_157.drop 6) _ r (fun _ h => List.mem_of_mem_drop h) ((zr_157_10 lay σ r0 i1).trans h) hg
noncomputable def zb_157_23 (lay : zm_Lay) (σ : zm_Sig) (r0 : Nat) (i1 : Int32) (i2 : Int32) : Option (zm_St ⊕ zm_Out) :=
  (zm_is lay r0 9).bind fun _ =>
  zm_opt (σ.2.2 r0 11) (fun q1 =>
  (zm_is lay q1 1).bind fun _ =>
  if (((nI 2) : Int32) * (σ.1 q1 1)) ≤ i2 then (some (.inl (10, [(0, .ref r0), (1, .int (i1 + 1))], [], lay, σ, 0, 0)))
  else ((zm_is lay r0 9).bind fun _ =>
   zm_opt (σ.2.2 r0 9) (fun q2 =>
   (zm_is lay r0 9).bind fun _ =>
   zm_opt (σ.2.2 r0 11) (fun q3 =>
   (zm_ai (zM 56 [.int i2] lay σ)).bind fun q4 =>
   (zm_is q4.2.1 q3 1).bind fun _ => (zm_ai (zM 47 [.ref q3, .int i1, .int q4.1] q4.2.1 q4.2.2)).bind fun q5 =>
   (zm_gL q5.2.1 q5.2.2 q2 q5.1).bind fun v6 =>
   (zm_is q5.2.1 r0 9).bind fun _ =>
   zm_opt (q5.2.2.2.2 r0 8) (fun q7 =>
   (zm_gL q5.2.1 q5.2.2 q7 i1).bind fun v8 =>
   (zm_sL q5.2.1 q5.2.2 q2 q5.1 (v6 + v8)).bind fun s9 =>
   some (.inl (23, [(0, .ref r0), (1, .int i1), (2, .int (i2 + 1))], [], q5.2.1, s9, 0, 0))) (none)) (none)) (none))) (none)
set_option maxRecDepth 100000 in
theorem zr_157_23 (lay : zm_Lay) (σ : zm_Sig) (r0 : Nat) (i1 : Int32) (i2 : Int32) : zm_blk zM zp_157 none 0 0 zc_157 50 (zp_157.drop 13) (23, [(0, .ref r0), (1, .int i1), (2, .int i2)], [], lay, σ, 0, 0) = zb_157_23 lay σ r0 i1 i2 := rfl
theorem zg_157_23 {lay : zm_Lay} {σ : zm_Sig} {r0 : Nat} {i1 : Int32} {i2 : Int32} {out : zm_Out} {r : zm_St ⊕ zm_Out} (h : zb_157_23 lay σ r0 i1 i2 = some r) (hg : zm_end zp_P 157 out r) : zm_go zp_P 157 (23, [(0, .ref r0), (1, .int i1), (2, .int i2)], [], lay, σ, 0, 0) out :=
  zm_blk_go (M := zd_157) rfl zs_157 50 (zp_157.drop 13) _ r (fun _ h => List.mem_of_mem_drop h) ((zr_157_23 lay σ r0 i1 i2).trans h) hg
/-! SubgroupWriter.mid(II)I -/
theorem zs_158 : zm_srt zp_158 = true := by decide +kernel
noncomputable def zb_158_0 (lay : zm_Lay) (σ : zm_Sig) (r0 : Nat) (i1 : Int32) (i2 : Int32) : Option (zm_St ⊕ zm_Out) :=
  (zm_is lay r0 9).bind fun _ =>
  zm_opt (σ.2.2 r0 11) (fun q1 =>
  (zm_is lay q1 1).bind fun _ => (zm_ai (zM 69 [.ref q1, .int i1] lay σ)).bind fun q2 =>
  if q2.1 = 0 then (some (.inr (some (.int (-1)), q2.2.1, q2.2.2)))
  else (if i2 < 0 then (some (.inr (some (.int (-1)), q2.2.1, q2.2.2)))
   else (if i2 ≤ (nI 4) then ((zm_is q2.2.1 r0 9).bind fun _ =>
     zm_opt (q2.2.2.2.2 r0 11) (fun q3 =>
     (zm_is q2.2.1 q3 1).bind fun _ =>
     (zm_al (zM 152 [.long ((((nI 2) : Int32) * (q2.2.2.1 q3 1)) : Int32).toInt64, .int i2] q2.2.1 q2.2.2)).bind fun q4 =>
     some (.inl (43, [(0, .ref r0), (1, .int i1), (2, .int i2), (3, .long q4.1), (5, .long (Int64.ofNat 0)), (7, .int 0)], [], q4.2.1, q4.2.2, 0, 0))) (none))
    else (some (.inr (some (.int (-1)), q2.2.1, q2.2.2)))))) (none)
set_option maxRecDepth 100000 in
theorem zr_158_0 (lay : zm_Lay) (σ : zm_Sig) (r0 : Nat) (i1 : Int32) (i2 : Int32) : zm_blk zM zp_158 (some .int) 0 0 zc_158 66 (zp_158.drop 0) (0, [(0, .ref r0), (1, .int i1), (2, .int i2)], [], lay, σ, 0, 0) = zb_158_0 lay σ r0 i1 i2 := rfl
theorem ze_158 {lay : zm_Lay} {σ : zm_Sig} {r0 : Nat} {i1 : Int32} {i2 : Int32} {out : zm_Out} {r : zm_St ⊕ zm_Out} (h : zb_158_0 lay σ r0 i1 i2 = some r) (hg : zm_end zp_P 158 out r) : zM 158 [.ref r0, .int i1, .int i2] lay σ = some out :=
  zm_mean_go (M := zd_158) rfl (Nat.le_of_ble_eq_true rfl) (zm_blk_go (M := zd_158) rfl zs_158 66 (zp_158.drop 0) _ r (fun _ h => List.mem_of_mem_drop h) ((zr_158_0 lay σ r0 i1 i2).trans h) hg)
noncomputable def zb_158_43 (lay : zm_Lay) (σ : zm_Sig) (r0 : Nat) (i1 : Int32) (i2 : Int32) (l3 : Int64) (l5 : Int64) (i7 : Int32) : Option (zm_St ⊕ zm_Out) :=
  if (0 : Int32) ≤ (lg_cmp (i7 : Int32).toInt64 l3) then ((zm_is lay r0 9).bind fun _ => (zm_av (zM 153 [.ref r0, .long l5, .long l3] lay σ)).bind fun q1 =>
   some (.inr (some (.int 1), q1.1, q1.2)))
  else ((zm_is lay r0 9).bind fun _ =>
   zm_opt (σ.2.2 r0 11) (fun q2 =>
   (zm_is lay r0 9).bind fun _ =>
   zm_opt (σ.2.2 r0 10) (fun q3 =>
   (zm_is lay q2 1).bind fun _ => (zm_av (zM 159 [.ref q2, .int i7, .ref q3, .int i2] lay σ)).bind fun q4 =>
   (zm_is q4.1 r0 9).bind fun _ =>
   zm_opt (q4.2.2.2 r0 3) (fun q5 =>
   (zm_is q4.1 q5 0).bind fun _ =>
   zm_opt (q4.2.2.2 q5 0) (fun q6 =>
   (zm_is q4.1 r0 9).bind fun _ =>
   zm_opt (q4.2.2.2 r0 11) (fun q7 =>
   (zm_is q4.1 r0 9).bind fun _ =>
   zm_opt (q4.2.2.2 r0 10) (fun q8 =>
   (zm_is q4.1 r0 9).bind fun _ =>
   zm_opt (q4.2.2.2 r0 5) (fun q9 =>
   (zm_is q4.1 q6 7).bind fun _ => (zm_ai (zM 64 [.ref q6, .ref q7, .int i1, .ref q8, .int i2, .ref q9] q4.1 q4.2)).bind fun q10 =>
   (zm_is q10.2.1 r0 9).bind fun _ =>
   zm_opt (q10.2.2.2.2 r0 5) (fun q11 =>
   (zm_is q10.2.1 q11 8).bind fun _ =>
   some (.inl (43, [(0, .ref r0), (1, .int i1), (2, .int i2), (3, .long l3), (5, .long (l5 + ((q10.2.2.1 q11 1) : Int32).toInt64)), (7, .int (i7 + 1))], [], q10.2.1, q10.2.2, 0, 0))) (none)) (none)) (none)) (none)) (none)) (none)) (none)) (none))
set_option maxRecDepth 100000 in
theorem zr_158_43 (lay : zm_Lay) (σ : zm_Sig) (r0 : Nat) (i1 : Int32) (i2 : Int32) (l3 : Int64) (l5 : Int64) (i7 : Int32) : zm_blk zM zp_158 (some .int) 0 0 zc_158 66 (zp_158.drop 25) (43, [(0, .ref r0), (1, .int i1), (2, .int i2), (3, .long l3), (5, .long l5), (7, .int i7)], [], lay, σ, 0, 0) = zb_158_43 lay σ r0 i1 i2 l3 l5 i7 := rfl
theorem zg_158_43 {lay : zm_Lay} {σ : zm_Sig} {r0 : Nat} {i1 : Int32} {i2 : Int32} {l3 : Int64} {l5 : Int64} {i7 : Int32} {out : zm_Out} {r : zm_St ⊕ zm_Out} (h : zb_158_43 lay σ r0 i1 i2 l3 l5 i7 = some r) (hg : zm_end zp_P 158 out r) : zm_go zp_P 158 (43, [(0, .ref r0), (1, .int i1), (2, .int i2), (3, .long l3), (5, .long l5), (7, .int i7)], [], lay, σ, 0, 0) out :=
  zm_blk_go (M := zd_158) rfl zs_158 66 (zp_158.drop 25) _ r (fun _ h => List.mem_of_mem_drop h) ((zr_158_43 lay σ r0 i1 i2 l3 l5 i7).trans h) hg
/-! SubgroupWriter$Group.draw(I[II)V -/
theorem zs_159 : zm_srt zp_159 = true := by decide +kernel
noncomputable def zb_159_0 (lay : zm_Lay) (σ : zm_Sig) (r0 : Nat) (i1 : Int32) (r2 : Nat) (i3 : Int32) : Option (zm_St ⊕ zm_Out) :=
  (zm_is lay r0 1).bind fun _ =>
  if (0 : Int32) < (((nI 2) : Int32) * (σ.1 r0 1)) then (some (.inl (20, [(2, .ref r2), (3, .int i3), (4, .int (((nI 2) : Int32) * (σ.1 r0 1))), (5, .int i1), (6, .int 0)], [], lay, σ, 0, 0)))
  else (some (.inr (none, lay, σ)))
set_option maxRecDepth 100000 in
theorem zr_159_0 (lay : zm_Lay) (σ : zm_Sig) (r0 : Nat) (i1 : Int32) (r2 : Nat) (i3 : Int32) : zm_blk zM zp_159 none 0 0 zc_159 34 (zp_159.drop 0) (0, [(0, .ref r0), (1, .int i1), (2, .ref r2), (3, .int i3)], [], lay, σ, 0, 0) = zb_159_0 lay σ r0 i1 r2 i3 := rfl
theorem ze_159 {lay : zm_Lay} {σ : zm_Sig} {r0 : Nat} {i1 : Int32} {r2 : Nat} {i3 : Int32} {out : zm_Out} {r : zm_St ⊕ zm_Out} (h : zb_159_0 lay σ r0 i1 r2 i3 = some r) (hg : zm_end zp_P 159 out r) : zM 159 [.ref r0, .int i1, .ref r2, .int i3] lay σ = some out :=
  zm_mean_go (M := zd_159) rfl (Nat.le_of_ble_eq_true rfl) (zm_blk_go (M := zd_159) rfl zs_159 34 (zp_159.drop 0) _ r (fun _ h => List.mem_of_mem_drop h) ((zr_159_0 lay σ r0 i1 r2 i3).trans h) hg)
noncomputable def zb_159_20 (lay : zm_Lay) (σ : zm_Sig) (r2 : Nat) (i3 : Int32) (i4 : Int32) (i5 : Int32) (i6 : Int32) : Option (zm_St ⊕ zm_Out) :=
  if i3 ≤ i6 then (some (.inr (none, lay, σ)))
  else ((zm_len lay r2).bind fun v1 =>
   if v1 ≤ i6 then (some (.inr (none, lay, σ)))
   else (if i4 = 0 then none
    else ((zm_ai (zM 56 [.int (i5 - i5 / i4 * i4)] lay σ)).bind fun q2 =>
    (zm_sI q2.2.1 q2.2.2 r2 i6 q2.1).bind fun s3 =>
    if i4 = 0 then none
    else (some (.inl (20, [(2, .ref r2), (3, .int i3), (4, .int i4), (5, .int (i5 / i4)), (6, .int (i6 + 1))], [], q2.2.1, s3, 0, 0))))))
set_option maxRecDepth 100000 in
theorem zr_159_20 (lay : zm_Lay) (σ : zm_Sig) (r2 : Nat) (i3 : Int32) (i4 : Int32) (i5 : Int32) (i6 : Int32) : zm_blk zM zp_159 none 0 0 zc_159 34 (zp_159.drop 12) (20, [(2, .ref r2), (3, .int i3), (4, .int i4), (5, .int i5), (6, .int i6)], [], lay, σ, 0, 0) = zb_159_20 lay σ r2 i3 i4 i5 i6 := rfl
theorem zg_159_20 {lay : zm_Lay} {σ : zm_Sig} {r2 : Nat} {i3 : Int32} {i4 : Int32} {i5 : Int32} {i6 : Int32} {out : zm_Out} {r : zm_St ⊕ zm_Out} (h : zb_159_20 lay σ r2 i3 i4 i5 i6 = some r) (hg : zm_end zp_P 159 out r) : zm_go zp_P 159 (20, [(2, .ref r2), (3, .int i3), (4, .int i4), (5, .int i5), (6, .int i6)], [], lay, σ, 0, 0) out :=
  zm_blk_go (M := zd_159) rfl zs_159 34 (zp_159.drop 12) _ r (fun _ h => List.mem_of_mem_drop h) ((zr_159_20 lay σ r2 i3 i4 i5 i6).trans h) hg
/-! SubgroupWriter.asked()I -/
theorem zs_160 : zm_srt zp_160 = true := by decide +kernel
noncomputable def zb_160_0 (lay : zm_Lay) (σ : zm_Sig) (r0 : Nat) : Option (zm_St ⊕ zm_Out) :=
  (zm_is lay r0 9).bind fun _ =>
  some (.inr (some (.int (σ.1 r0 13)), lay, σ))
set_option maxRecDepth 100000 in
theorem zr_160_0 (lay : zm_Lay) (σ : zm_Sig) (r0 : Nat) : zm_blk zM zp_160 (some .int) 0 0 zc_160 4 (zp_160.drop 0) (0, [(0, .ref r0)], [], lay, σ, 0, 0) = zb_160_0 lay σ r0 := rfl
theorem ze_160 {lay : zm_Lay} {σ : zm_Sig} {r0 : Nat} {out : zm_Out} {r : zm_St ⊕ zm_Out} (h : zb_160_0 lay σ r0 = some r) (hg : zm_end zp_P 160 out r) : zM 160 [.ref r0] lay σ = some out :=
  zm_mean_go (M := zd_160) rfl (Nat.le_of_ble_eq_true rfl) (zm_blk_go (M := zd_160) rfl zs_160 4 (zp_160.drop 0) _ r (fun _ h => List.mem_of_mem_drop h) ((zr_160_0 lay σ r0).trans h) hg)
/-! SubgroupWriter.upper()J -/
theorem zs_161 : zm_srt zp_161 = true := by decide +kernel
noncomputable def zb_161_0 (lay : zm_Lay) (σ : zm_Sig) (r0 : Nat) : Option (zm_St ⊕ zm_Out) :=
  (zm_is lay r0 9).bind fun _ =>
  some (.inr (some (.long (σ.2.1 r0 14)), lay, σ))
set_option maxRecDepth 100000 in
theorem zr_161_0 (lay : zm_Lay) (σ : zm_Sig) (r0 : Nat) : zm_blk zM zp_161 (some .long) 0 0 zc_161 4 (zp_161.drop 0) (0, [(0, .ref r0)], [], lay, σ, 0, 0) = zb_161_0 lay σ r0 := rfl
theorem ze_161 {lay : zm_Lay} {σ : zm_Sig} {r0 : Nat} {out : zm_Out} {r : zm_St ⊕ zm_Out} (h : zb_161_0 lay σ r0 = some r) (hg : zm_end zp_P 161 out r) : zM 161 [.ref r0] lay σ = some out :=
  zm_mean_go (M := zd_161) rfl (Nat.le_of_ble_eq_true rfl) (zm_blk_go (M := zd_161) rfl zs_161 4 (zp_161.drop 0) _ r (fun _ h => List.mem_of_mem_drop h) ((zr_161_0 lay σ r0).trans h) hg)
/-! SubgroupWriter.lower()J -/
theorem zs_162 : zm_srt zp_162 = true := by decide +kernel
noncomputable def zb_162_0 (lay : zm_Lay) (σ : zm_Sig) (r0 : Nat) : Option (zm_St ⊕ zm_Out) :=
  (zm_is lay r0 9).bind fun _ =>
  some (.inr (some (.long (σ.2.1 r0 15)), lay, σ))
set_option maxRecDepth 100000 in
theorem zr_162_0 (lay : zm_Lay) (σ : zm_Sig) (r0 : Nat) : zm_blk zM zp_162 (some .long) 0 0 zc_162 4 (zp_162.drop 0) (0, [(0, .ref r0)], [], lay, σ, 0, 0) = zb_162_0 lay σ r0 := rfl
theorem ze_162 {lay : zm_Lay} {σ : zm_Sig} {r0 : Nat} {out : zm_Out} {r : zm_St ⊕ zm_Out} (h : zb_162_0 lay σ r0 = some r) (hg : zm_end zp_P 162 out r) : zM 162 [.ref r0] lay σ = some out :=
  zm_mean_go (M := zd_162) rfl (Nat.le_of_ble_eq_true rfl) (zm_blk_go (M := zd_162) rfl zs_162 4 (zp_162.drop 0) _ r (fun _ h => List.mem_of_mem_drop h) ((zr_162_0 lay σ r0).trans h) hg)
/-! SubgroupWriter.count(I)I -/
theorem zs_163 : zm_srt zp_163 = true := by decide +kernel
noncomputable def zb_163_0 (lay : zm_Lay) (σ : zm_Sig) (r0 : Nat) (i1 : Int32) : Option (zm_St ⊕ zm_Out) :=
  if i1 = 0 then ((zm_is lay r0 9).bind fun _ =>
   zm_opt (σ.2.2 r0 11) (fun q1 =>
   (zm_is lay q1 1).bind fun _ =>
   some (.inr (some (.int (σ.1 q1 0)), lay, σ))) (none))
  else if i1 = 1 then ((zm_is lay r0 9).bind fun _ =>
   zm_opt (σ.2.2 r0 11) (fun q2 =>
   (zm_is lay q2 1).bind fun _ =>
   some (.inr (some (.int (σ.1 q2 1)), lay, σ))) (none))
  else if i1 = (nI 2) then ((zm_is lay r0 9).bind fun _ =>
   zm_opt (σ.2.2 r0 11) (fun q3 =>
   (zm_is lay q3 1).bind fun _ =>
   some (.inr (some (.int (σ.1 q3 2)), lay, σ))) (none))
  else if i1 = (nI 3) then ((zm_is lay r0 9).bind fun _ =>
   zm_opt (σ.2.2 r0 3) (fun q4 =>
   (zm_is lay q4 0).bind fun _ =>
   some (.inr (some (.int (σ.1 q4 3)), lay, σ))) (none))
  else if i1 = (nI 4) then ((zm_is lay r0 9).bind fun _ =>
   zm_opt (σ.2.2 r0 3) (fun q5 =>
   (zm_is lay q5 0).bind fun _ =>
   zm_opt (σ.2.2 q5 0) (fun q6 =>
   (zm_is lay q6 7).bind fun _ =>
   some (.inr (some (.int (σ.1 q6 2)), lay, σ))) (none)) (none))
  else if i1 = (nI 5) then ((zm_is lay r0 9).bind fun _ =>
   zm_opt (σ.2.2 r0 3) (fun q7 =>
   (zm_is lay q7 0).bind fun _ =>
   zm_opt (σ.2.2 q7 1) (fun q8 =>
   (zm_is lay q8 4).bind fun _ =>
   some (.inr (some (.int (σ.1 q8 3)), lay, σ))) (none)) (none))
  else if i1 = (nI 6) then ((zm_is lay r0 9).bind fun _ =>
   zm_opt (σ.2.2 r0 3) (fun q9 =>
   (zm_is lay q9 0).bind fun _ =>
   zm_opt (σ.2.2 q9 1) (fun q10 =>
   (zm_is lay q10 4).bind fun _ =>
   some (.inr (some (.int (σ.1 q10 2)), lay, σ))) (none)) (none))
  else if i1 = (nI 7) then ((zm_is lay r0 9).bind fun _ =>
   zm_opt (σ.2.2 r0 3) (fun q11 =>
   (zm_is lay q11 0).bind fun _ =>
   zm_opt (σ.2.2 q11 1) (fun q12 =>
   (zm_is lay q12 4).bind fun _ => (zm_ai (zM 164 [.ref q12] lay σ)).bind fun q13 =>
   some (.inr (some (.int q13.1), q13.2.1, q13.2.2))) (none)) (none))
  else if i1 = (nI 8) then ((zm_is lay r0 9).bind fun _ =>
   zm_opt (σ.2.2 r0 3) (fun q14 =>
   (zm_is lay q14 0).bind fun _ =>
   zm_opt (σ.2.2 q14 2) (fun q15 =>
   (zm_is lay q15 6).bind fun _ =>
   some (.inr (some (.int (σ.1 q15 3)), lay, σ))) (none)) (none))
  else if i1 = (nI 9) then ((zm_is lay r0 9).bind fun _ =>
   zm_opt (σ.2.2 r0 3) (fun q16 =>
   (zm_is lay q16 0).bind fun _ =>
   zm_opt (σ.2.2 q16 0) (fun q17 =>
   (zm_is lay r0 9).bind fun _ =>
   zm_opt (σ.2.2 r0 11) (fun q18 =>
   (zm_is lay q17 7).bind fun _ => (zm_ai (zM 165 [.ref q17, .ref q18, .int (nI 3)] lay σ)).bind fun q19 =>
   some (.inr (some (.int q19.1), q19.2.1, q19.2.2))) (none)) (none)) (none))
  else if i1 = (nI 10) then ((zm_is lay r0 9).bind fun _ =>
   zm_opt (σ.2.2 r0 3) (fun q20 =>
   (zm_is lay q20 0).bind fun _ =>
   zm_opt (σ.2.2 q20 0) (fun q21 =>
   (zm_is lay r0 9).bind fun _ =>
   zm_opt (σ.2.2 r0 11) (fun q22 =>
   (zm_is lay q21 7).bind fun _ => (zm_ai (zM 165 [.ref q21, .ref q22, .int (nI 4)] lay σ)).bind fun q23 =>
   some (.inr (some (.int q23.1), q23.2.1, q23.2.2))) (none)) (none)) (none))
  else if i1 = (nI 11) then ((zm_is lay r0 9).bind fun _ =>
   zm_opt (σ.2.2 r0 0) (fun q24 =>
   (zm_is lay q24 5).bind fun _ => (zm_ai (zM 166 [.ref q24] lay σ)).bind fun q25 =>
   some (.inr (some (.int q25.1), q25.2.1, q25.2.2))) (none))
  else if i1 = (nI 12) then ((zm_is lay r0 9).bind fun _ =>
   zm_opt (σ.2.2 r0 1) (fun q26 =>
   (zm_is lay q26 5).bind fun _ => (zm_ai (zM 166 [.ref q26] lay σ)).bind fun q27 =>
   some (.inr (some (.int q27.1), q27.2.1, q27.2.2))) (none))
  else if i1 = (nI 13) then ((zm_is lay r0 9).bind fun _ => (zm_ai (zM 167 [.ref r0] lay σ)).bind fun q28 =>
   some (.inr (some (.int q28.1), q28.2.1, q28.2.2)))
  else (some (.inr (some (.int (-1)), lay, σ)))
set_option maxRecDepth 100000 in
theorem zr_163_0 (lay : zm_Lay) (σ : zm_Sig) (r0 : Nat) (i1 : Int32) : zm_blk zM zp_163 (some .int) 0 0 zc_163 73 (zp_163.drop 0) (0, [(0, .ref r0), (1, .int i1)], [], lay, σ, 0, 0) = zb_163_0 lay σ r0 i1 := rfl
theorem ze_163 {lay : zm_Lay} {σ : zm_Sig} {r0 : Nat} {i1 : Int32} {out : zm_Out} {r : zm_St ⊕ zm_Out} (h : zb_163_0 lay σ r0 i1 = some r) (hg : zm_end zp_P 163 out r) : zM 163 [.ref r0, .int i1] lay σ = some out :=
  zm_mean_go (M := zd_163) rfl (Nat.le_of_ble_eq_true rfl) (zm_blk_go (M := zd_163) rfl zs_163 73 (zp_163.drop 0) _ r (fun _ h => List.mem_of_mem_drop h) ((zr_163_0 lay σ r0 i1).trans h) hg)
/-! SubgroupWriter$Rules.allSigns()I -/
theorem zs_164 : zm_srt zp_164 = true := by decide +kernel
noncomputable def zb_164_0 (lay : zm_Lay) (σ : zm_Sig) (r0 : Nat) : Option (zm_St ⊕ zm_Out) :=
  some (.inl (4, [(0, .ref r0), (1, .int 0), (2, .int 0)], [], lay, σ, 0, 0))
set_option maxRecDepth 100000 in
theorem zr_164_0 (lay : zm_Lay) (σ : zm_Sig) (r0 : Nat) : zm_blk zM zp_164 (some .int) 0 0 zc_164 20 (zp_164.drop 0) (0, [(0, .ref r0)], [], lay, σ, 0, 0) = zb_164_0 lay σ r0 := rfl
theorem ze_164 {lay : zm_Lay} {σ : zm_Sig} {r0 : Nat} {out : zm_Out} {r : zm_St ⊕ zm_Out} (h : zb_164_0 lay σ r0 = some r) (hg : zm_end zp_P 164 out r) : zM 164 [.ref r0] lay σ = some out :=
  zm_mean_go (M := zd_164) rfl (Nat.le_of_ble_eq_true rfl) (zm_blk_go (M := zd_164) rfl zs_164 20 (zp_164.drop 0) _ r (fun _ h => List.mem_of_mem_drop h) ((zr_164_0 lay σ r0).trans h) hg)
noncomputable def zb_164_4 (lay : zm_Lay) (σ : zm_Sig) (r0 : Nat) (i1 : Int32) (i2 : Int32) : Option (zm_St ⊕ zm_Out) :=
  (zm_is lay r0 4).bind fun _ =>
  if (σ.1 r0 2) ≤ i2 then (some (.inr (some (.int i1), lay, σ)))
  else ((zm_is lay r0 4).bind fun _ =>
   zm_opt (σ.2.2 r0 1) (fun q1 =>
   (zm_gI lay σ q1 i2).bind fun v2 =>
   some (.inl (4, [(0, .ref r0), (1, .int (i1 + v2)), (2, .int (i2 + 1))], [], lay, σ, 0, 0))) (none))
set_option maxRecDepth 100000 in
theorem zr_164_4 (lay : zm_Lay) (σ : zm_Sig) (r0 : Nat) (i1 : Int32) (i2 : Int32) : zm_blk zM zp_164 (some .int) 0 0 zc_164 20 (zp_164.drop 4) (4, [(0, .ref r0), (1, .int i1), (2, .int i2)], [], lay, σ, 0, 0) = zb_164_4 lay σ r0 i1 i2 := rfl
theorem zg_164_4 {lay : zm_Lay} {σ : zm_Sig} {r0 : Nat} {i1 : Int32} {i2 : Int32} {out : zm_Out} {r : zm_St ⊕ zm_Out} (h : zb_164_4 lay σ r0 i1 i2 = some r) (hg : zm_end zp_P 164 out r) : zm_go zp_P 164 (4, [(0, .ref r0), (1, .int i1), (2, .int i2)], [], lay, σ, 0, 0) out :=
  zm_blk_go (M := zd_164) rfl zs_164 20 (zp_164.drop 4) _ r (fun _ h => List.mem_of_mem_drop h) ((zr_164_4 lay σ r0 i1 i2).trans h) hg
