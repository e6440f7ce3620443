/-! the law: its cases -/
abbrev zl_R : Type := Nat × Nat × Nat × Nat × Nat × Nat × Nat × Nat × Nat
def zl_tab : List zl_R := [(216, 2, 11, 174, 13, 17, 419, 1271, 1), (249, 3, 15, 179, 18, 22, 436, 1289, 1), (292, 2, 21, 182, 23, 26, 461, 1301, 1), (325, 1, 22, 183, 27, 31, 465, 1305, 1), (348, 5, 24, 184, 32, 36, 473, 1309, 1), (411, 1, 27, 185, 37, 40, 490, 1313, 1), (434, 2, 30, 186, 41, 44, 503, 1317, 1), (467, 3, 31, 188, 45, 48, 507, 1324, 1), (510, 1, 32, 189, 49, 52, 511, 1328, 1), (533, 1, 49, 199, 53, 56, 580, 1366, 1), (556, 2, 68, 215, 57, 60, 660, 1429, 1), (589, 2, 70, 218, 61, 64, 670, 1441, 1), (622, 2, 72, 220, 65, 68, 678, 1449, 1), (655, 2, 76, 221, 69, 72, 695, 1453, 1), (688, 2, 84, 225, 73, 76, 729, 1469, 1), (721, 3, 87, 229, 77, 80, 743, 1484, 1), (764, 2, 88, 232, 81, 84, 748, 1496, 1), (797, 2, 93, 236, 85, 88, 770, 1512, 1), (830, 2, 95, 239, 89, 92, 778, 1524, 1), (863, 2, 98, 243, 93, 96, 790, 1540, 1), (896, 1, 102, 245, 97, 100, 806, 1548, 1), (919, 1, 120, 247, 101, 104, 887, 1556, 1), (942, 1, 122, 249, 105, 108, 895, 1564, 1), (965, 2, 123, 251, 109, 112, 899, 1572, 1), (998, 1, 124, 253, 113, 116, 904, 1580, 1), (1021, 2, 125, 256, 117, 120, 909, 1592, 1), (1054, 0, 126, 261, 121, 125, 914, 1612, 1), (1067, 1, 128, 264, 126, 129, 922, 1624, 1), (1090, 1, 130, 265, 130, 133, 930, 1628, 1), (1113, 1, 132, 266, 134, 137, 939, 1632, 1), (1136, 2, 133, 267, 138, 141, 943, 1636, 1), (1169, 1, 140, 270, 142, 145, 977, 1651, 1), (1192, 1, 150, 274, 146, 149, 1020, 1665, 1), (1215, 3, 155, 276, 150, 153, 1041, 1673, 1), (1258, 2, 158, 277, 154, 157, 1054, 1678, 1), (1291, 0, 160, 278, 158, 161, 1063, 1682, 1), (1304, 0, 161, 279, 162, 166, 1067, 1686, 2), (1318, 0, 162, 280, 167, 170, 1071, 1690, 2), (1332, 1, 163, 281, 171, 174, 1075, 1694, 1), (1355, 0, 168, 286, 175, 178, 1096, 1713, 1), (1368, 1, 169, 287, 179, 182, 1100, 1717, 1), (1391, 0, 170, 288, 183, 186, 1104, 1721, 2)]
def zl_offs : Array Int := #[183, 216, 259, 292, 315, 378, 401, 434, 477, 500, 523, 556, 589, 622, 655, 688, 731, 764, 797, 830, 863, 886, 909, 932, 965, 988, 1021, 1034, 1057, 1080, 1103, 1136, 1159, 1182, 1225, 1258, 1271, 1285, 1299, 1322, 1335, 1358]
def zl_rok (r : zl_R) : Bool := zl_ok r.1 r.2.1 r.2.2.1 r.2.2.2.1 r.2.2.2.2.1 r.2.2.2.2.2.1 r.2.2.2.2.2.2.1 r.2.2.2.2.2.2.2.1 r.2.2.2.2.2.2.2.2 && (zl_ki r.1 r.2.1 r.2.2.1 || zl_kl r.1 r.2.1 r.2.2.1)
theorem zl_r0 : zl_rok (216, 2, 11, 174, 13, 17, 419, 1271, 1) = true := by decide +kernel
theorem zl_r1 : zl_rok (249, 3, 15, 179, 18, 22, 436, 1289, 1) = true := by decide +kernel
theorem zl_r2 : zl_rok (292, 2, 21, 182, 23, 26, 461, 1301, 1) = true := by decide +kernel
theorem zl_r3 : zl_rok (325, 1, 22, 183, 27, 31, 465, 1305, 1) = true := by decide +kernel
theorem zl_r4 : zl_rok (348, 5, 24, 184, 32, 36, 473, 1309, 1) = true := by decide +kernel
theorem zl_r5 : zl_rok (411, 1, 27, 185, 37, 40, 490, 1313, 1) = true := by decide +kernel
theorem zl_r6 : zl_rok (434, 2, 30, 186, 41, 44, 503, 1317, 1) = true := by decide +kernel
theorem zl_r7 : zl_rok (467, 3, 31, 188, 45, 48, 507, 1324, 1) = true := by decide +kernel
theorem zl_r8 : zl_rok (510, 1, 32, 189, 49, 52, 511, 1328, 1) = true := by decide +kernel
theorem zl_r9 : zl_rok (533, 1, 49, 199, 53, 56, 580, 1366, 1) = true := by decide +kernel
theorem zl_r10 : zl_rok (556, 2, 68, 215, 57, 60, 660, 1429, 1) = true := by decide +kernel
theorem zl_r11 : zl_rok (589, 2, 70, 218, 61, 64, 670, 1441, 1) = true := by decide +kernel
theorem zl_r12 : zl_rok (622, 2, 72, 220, 65, 68, 678, 1449, 1) = true := by decide +kernel
theorem zl_r13 : zl_rok (655, 2, 76, 221, 69, 72, 695, 1453, 1) = true := by decide +kernel
theorem zl_r14 : zl_rok (688, 2, 84, 225, 73, 76, 729, 1469, 1) = true := by decide +kernel
theorem zl_r15 : zl_rok (721, 3, 87, 229, 77, 80, 743, 1484, 1) = true := by decide +kernel
theorem zl_r16 : zl_rok (764, 2, 88, 232, 81, 84, 748, 1496, 1) = true := by decide +kernel
theorem zl_r17 : zl_rok (797, 2, 93, 236, 85, 88, 770, 1512, 1) = true := by decide +kernel
theorem zl_r18 : zl_rok (830, 2, 95, 239, 89, 92, 778, 1524, 1) = true := by decide +kernel
theorem zl_r19 : zl_rok (863, 2, 98, 243, 93, 96, 790, 1540, 1) = true := by decide +kernel
theorem zl_r20 : zl_rok (896, 1, 102, 245, 97, 100, 806, 1548, 1) = true := by decide +kernel
theorem zl_r21 : zl_rok (919, 1, 120, 247, 101, 104, 887, 1556, 1) = true := by decide +kernel
theorem zl_r22 : zl_rok (942, 1, 122, 249, 105, 108, 895, 1564, 1) = true := by decide +kernel
theorem zl_r23 : zl_rok (965, 2, 123, 251, 109, 112, 899, 1572, 1) = true := by decide +kernel
theorem zl_r24 : zl_rok (998, 1, 124, 253, 113, 116, 904, 1580, 1) = true := by decide +kernel
theorem zl_r25 : zl_rok (1021, 2, 125, 256, 117, 120, 909, 1592, 1) = true := by decide +kernel
theorem zl_r26 : zl_rok (1054, 0, 126, 261, 121, 125, 914, 1612, 1) = true := by decide +kernel
theorem zl_r27 : zl_rok (1067, 1, 128, 264, 126, 129, 922, 1624, 1) = true := by decide +kernel
theorem zl_r28 : zl_rok (1090, 1, 130, 265, 130, 133, 930, 1628, 1) = true := by decide +kernel
theorem zl_r29 : zl_rok (1113, 1, 132, 266, 134, 137, 939, 1632, 1) = true := by decide +kernel
theorem zl_r30 : zl_rok (1136, 2, 133, 267, 138, 141, 943, 1636, 1) = true := by decide +kernel
theorem zl_r31 : zl_rok (1169, 1, 140, 270, 142, 145, 977, 1651, 1) = true := by decide +kernel
theorem zl_r32 : zl_rok (1192, 1, 150, 274, 146, 149, 1020, 1665, 1) = true := by decide +kernel
theorem zl_r33 : zl_rok (1215, 3, 155, 276, 150, 153, 1041, 1673, 1) = true := by decide +kernel
theorem zl_r34 : zl_rok (1258, 2, 158, 277, 154, 157, 1054, 1678, 1) = true := by decide +kernel
theorem zl_r35 : zl_rok (1291, 0, 160, 278, 158, 161, 1063, 1682, 1) = true := by decide +kernel
theorem zl_r36 : zl_rok (1304, 0, 161, 279, 162, 166, 1067, 1686, 2) = true := by decide +kernel
theorem zl_r37 : zl_rok (1318, 0, 162, 280, 167, 170, 1071, 1690, 2) = true := by decide +kernel
theorem zl_r38 : zl_rok (1332, 1, 163, 281, 171, 174, 1075, 1694, 1) = true := by decide +kernel
theorem zl_r39 : zl_rok (1355, 0, 168, 286, 175, 178, 1096, 1713, 1) = true := by decide +kernel
theorem zl_r40 : zl_rok (1368, 1, 169, 287, 179, 182, 1100, 1717, 1) = true := by decide +kernel
theorem zl_r41 : zl_rok (1391, 0, 170, 288, 183, 186, 1104, 1721, 2) = true := by decide +kernel
theorem zl_all : ∀ r ∈ zl_tab, zl_rok r = true := List.forall_mem_cons.mpr ⟨zl_r0, List.forall_mem_cons.mpr ⟨zl_r1, List.forall_mem_cons.mpr ⟨zl_r2, List.forall_mem_cons.mpr ⟨zl_r3, List.forall_mem_cons.mpr ⟨zl_r4, List.forall_mem_cons.mpr ⟨zl_r5, List.forall_mem_cons.mpr ⟨zl_r6, List.forall_mem_cons.mpr ⟨zl_r7, List.forall_mem_cons.mpr ⟨zl_r8, List.forall_mem_cons.mpr ⟨zl_r9, List.forall_mem_cons.mpr ⟨zl_r10, List.forall_mem_cons.mpr ⟨zl_r11, List.forall_mem_cons.mpr ⟨zl_r12, List.forall_mem_cons.mpr ⟨zl_r13, List.forall_mem_cons.mpr ⟨zl_r14, List.forall_mem_cons.mpr ⟨zl_r15, List.forall_mem_cons.mpr ⟨zl_r16, List.forall_mem_cons.mpr ⟨zl_r17, List.forall_mem_cons.mpr ⟨zl_r18, List.forall_mem_cons.mpr ⟨zl_r19, List.forall_mem_cons.mpr ⟨zl_r20, List.forall_mem_cons.mpr ⟨zl_r21, List.forall_mem_cons.mpr ⟨zl_r22, List.forall_mem_cons.mpr ⟨zl_r23, List.forall_mem_cons.mpr ⟨zl_r24, List.forall_mem_cons.mpr ⟨zl_r25, List.forall_mem_cons.mpr ⟨zl_r26, List.forall_mem_cons.mpr ⟨zl_r27, List.forall_mem_cons.mpr ⟨zl_r28, List.forall_mem_cons.mpr ⟨zl_r29, List.forall_mem_cons.mpr ⟨zl_r30, List.forall_mem_cons.mpr ⟨zl_r31, List.forall_mem_cons.mpr ⟨zl_r32, List.forall_mem_cons.mpr ⟨zl_r33, List.forall_mem_cons.mpr ⟨zl_r34, List.forall_mem_cons.mpr ⟨zl_r35, List.forall_mem_cons.mpr ⟨zl_r36, List.forall_mem_cons.mpr ⟨zl_r37, List.forall_mem_cons.mpr ⟨zl_r38, List.forall_mem_cons.mpr ⟨zl_r39, List.forall_mem_cons.mpr ⟨zl_r40, List.forall_mem_cons.mpr ⟨zl_r41, fun _ h => absurd h List.not_mem_nil⟩⟩⟩⟩⟩⟩⟩⟩⟩⟩⟩⟩⟩⟩⟩⟩⟩⟩⟩⟩⟩⟩⟩⟩⟩⟩⟩⟩⟩⟩⟩⟩⟩⟩⟩⟩⟩⟩⟩⟩⟩⟩
theorem zl_to : ∀ j, j < 42 → ∀ r, zl_tab[j]? = some r → zl_offs[j]? = some ((r.1 : Int) - 33) := by
  have h : ∀ j, j < 42 → (zl_tab[j]?).map (fun r => (r.1 : Int) - 33) = zl_offs[j]? := by decide +kernel
  intro j hj r hr
  rw [← h j hj, hr]
  rfl
theorem zl_in : ∀ j, j < 42 → ∃ r, zl_tab[j]? = some r := fun j hj => ⟨zl_tab[j]'(by exact hj), List.getElem?_eq_getElem _⟩
theorem zl_calls {σ : zm_Sig} (h : zInv σ) (xs : Nat → Int32) (i : Nat) : ∀ (j : Nat) (r : zl_R), zl_tab[j]? = some r → zCallV r.2.2.1 r.2.2.2.1 (zl_vs xs i r.2.1 1) σ
  | 0, _, e => by cases e; exact kk_row _ _ h
  | 1, _, e => by cases e; exact k_lay _ _ _ h
  | 2, _, e => by cases e; exact k_at _ _ h
  | 3, _, e => by cases e; exact k_tear _ h
  | 4, _, e => by cases e; exact k_copy _ _ _ _ _ h
  | 5, _, e => by cases e; exact k_mean _ h
  | 6, _, e => by cases e; exact k_text _ _ h
  | 7, _, e => by cases e; exact k_put _ _ _ h
  | 8, _, e => by cases e; exact k_fault _ h
  | 9, _, e => by cases e; exact k_group _ h
  | 10, _, e => by cases e; exact k_goes _ _ h
  | 11, _, e => by cases e; exact k_reached _ _ h
  | 12, _, e => by cases e; exact k_way _ _ h
  | 13, _, e => by cases e; exact k_edge _ _ h
  | 14, _, e => by cases e; exact k_mark _ _ h
  | 15, _, e => by cases e; exact k_written _ _ _ h
  | 16, _, e => by cases e; exact k_spelt _ _ h
  | 17, _, e => by cases e; exact k_rule _ _ h
  | 18, _, e => by cases e; exact k_often _ _ h
  | 19, _, e => by cases e; exact k_alike _ _ h
  | 20, _, e => by cases e; exact k_order _ h
  | 21, _, e => by cases e; exact k_turn _ h
  | 22, _, e => by cases e; exact k_over _ h
  | 23, _, e => by cases e; exact k_join _ _ h
  | 24, _, e => by cases e; exact k_cut _ h
  | 25, _, e => by cases e; exact k_solve _ _ h
  | 26, _, e => by cases e; exact k_shorten h
  | 27, _, e => by cases e; exact k_undo _ h
  | 28, _, e => by cases e; exact k_keep _ h
  | 29, _, e => by cases e; exact k_on _ h
  | 30, _, e => by cases e; exact k_lots _ _ h
  | 31, _, e => by cases e; exact k_rank _ h
  | 32, _, e => by cases e; exact k_ways _ h
  | 33, _, e => by cases e; exact k_odds _ _ _ h
  | 34, _, e => by cases e; exact k_mid _ _ h
  | 35, _, e => by cases e; exact k_asked h
  | 36, _, e => by cases e; exact k_upper h
  | 37, _, e => by cases e; exact k_lower h
  | 38, _, e => by cases e; exact k_count _ h
  | 39, _, e => by cases e; exact k_finding h
  | 40, _, e => by cases e; exact k_findings _ h
  | 41, _, e => by cases e; exact k_digest h
  | j + 42, r, e => by simp [zl_tab] at e
