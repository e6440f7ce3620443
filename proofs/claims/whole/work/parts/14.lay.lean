/-! the layout of the memory behind both constructors, and small rows -/
def zL : zm_Lay := [(0, 9), (0, 5), (4, 6), (1, 40), (1, 40), (1, 40), (1, 40), (1, 40), (1, 40), (1, 6), (0, 5), (4, 4), (1, 60), (1, 60), (1, 60), (1, 60), (1, 4), (0, 3), (1, 60), (0, 0), (0, 7), (1, 15), (1, 15), (1, 5), (1, 5), (1, 5), (1, 5), (1, 5), (1, 16), (1, 5), (0, 4), (4, 15), (1, 16), (1, 16), (1, 16), (1, 16), (1, 16), (1, 16), (1, 16), (1, 16), (1, 16), (1, 16), (1, 16), (1, 16), (1, 16), (1, 16), (1, 16), (1, 15), (0, 8), (1, 400), (0, 8), (1, 400), (0, 6), (1, 20), (1, 20), (1, 20), (5, 3), (0, 8), (1, 400), (0, 2), (4, 15), (1, 15), (1, 15), (1, 15), (1, 15), (1, 15), (1, 15), (1, 15), (1, 15), (1, 15), (1, 15), (1, 15), (1, 15), (1, 15), (1, 15), (1, 15), (1, 6), (2, 5), (2, 5), (1, 4), (0, 1), (4, 6), (1, 5), (1, 5), (1, 5), (1, 5), (1, 5), (1, 5), (4, 3), (1, 8), (1, 8), (1, 8), (1, 3), (0, 1), (4, 6), (1, 5), (1, 5), (1, 5), (1, 5), (1, 5), (1, 5), (4, 3), (1, 8), (1, 8), (1, 8), (1, 3), (0, 6), (1, 20), (1, 20), (1, 20), (0, 6), (1, 20), (1, 20), (1, 20), (0, 6), (1, 20), (1, 20), (1, 20), (0, 10), (1, 6), (1, 240), (1, 4), (1, 240), (1, 15), (1, 15), (1, 3), (1, 24), (1, 5), (1, 5), (1, 5), (1, 5), (1, 5), (1, 15), (1, 15), (1, 16), (1, 258), (1, 5160), (1, 16257), (3, 3), (1, 6), (1, 15), (1, 15), (1, 3), (1, 24), (1, 700), (1, 5), (1, 16), (1, 240), (2, 5), (2, 5)]
/-- references that stay: object or array, field or place, what it holds -/
def zFx : List (Nat × Nat × Nat) := [(0, 0, 1), (0, 1, 10), (0, 2, 17), (0, 3, 19), (0, 4, 56), (0, 5, 57), (0, 6, 59), (0, 7, 76), (0, 8, 77), (0, 9, 78), (0, 10, 79), (1, 0, 2), (1, 1, 9), (2, 0, 3), (2, 1, 4), (2, 2, 5), (2, 3, 6), (2, 4, 7), (2, 5, 8), (10, 0, 11), (10, 1, 16), (11, 0, 12), (11, 1, 13), (11, 2, 14), (11, 3, 15), (17, 0, 18), (19, 0, 20), (19, 1, 30), (19, 2, 52), (20, 0, 21), (20, 1, 22), (20, 3, 23), (20, 4, 24), (20, 5, 25), (20, 6, 26), (20, 7, 27), (20, 8, 28), (20, 9, 29), (30, 0, 31), (30, 1, 47), (30, 4, 48), (30, 5, 50), (48, 0, 49), (50, 0, 51), (52, 0, 53), (52, 1, 54), (52, 2, 55), (56, 0, 106), (56, 1, 110), (56, 2, 114), (57, 0, 58), (59, 0, 60), (80, 3, 81), (80, 4, 88), (80, 5, 92), (81, 0, 82), (81, 1, 83), (81, 2, 84), (81, 3, 85), (81, 4, 86), (81, 5, 87), (88, 0, 89), (88, 1, 90), (88, 2, 91), (93, 3, 94), (93, 4, 101), (93, 5, 105), (94, 0, 95), (94, 1, 96), (94, 2, 97), (94, 3, 98), (94, 4, 99), (94, 5, 100), (101, 0, 102), (101, 1, 103), (101, 2, 104), (106, 0, 107), (106, 1, 108), (106, 2, 109), (110, 0, 111), (110, 1, 112), (110, 2, 113), (114, 0, 115), (114, 1, 116), (114, 2, 117), (118, 0, 119), (118, 1, 120), (118, 2, 121), (118, 3, 122), (118, 7, 123), (118, 8, 124), (118, 9, 125), (118, 10, 126), (118, 11, 127), (118, 12, 128), (118, 13, 129), (118, 14, 130), (118, 15, 131), (118, 17, 132), (118, 18, 133), (118, 19, 134), (118, 21, 135), (118, 22, 136), (118, 24, 137), (118, 25, 138), (118, 30, 139), (118, 35, 140), (118, 36, 141), (118, 37, 142), (118, 38, 143), (118, 39, 144), (118, 41, 145), (118, 42, 146), (118, 44, 147), (118, 45, 148), (118, 46, 149)]
def zFix (σ : zm_Sig) : Prop := ∀ q ∈ zFx, σ.2.2 q.1 q.2.1 = some q.2.2
theorem zFix.at {σ : zm_Sig} (h : zFix σ) (i : Nat) {a k q : Nat} (e : zFx[i]? = some (a, k, q)) : σ.2.2 a k = some q := h _ (List.mem_of_getElem? e)
theorem zx_0_0 {σ : zm_Sig} (h : zFix σ) : σ.2.2 0 0 = some 1 := h.at 0 rfl
theorem zx_0_1 {σ : zm_Sig} (h : zFix σ) : σ.2.2 0 1 = some 10 := h.at 1 rfl
theorem zx_0_2 {σ : zm_Sig} (h : zFix σ) : σ.2.2 0 2 = some 17 := h.at 2 rfl
theorem zx_0_3 {σ : zm_Sig} (h : zFix σ) : σ.2.2 0 3 = some 19 := h.at 3 rfl
theorem zx_0_4 {σ : zm_Sig} (h : zFix σ) : σ.2.2 0 4 = some 56 := h.at 4 rfl
theorem zx_0_5 {σ : zm_Sig} (h : zFix σ) : σ.2.2 0 5 = some 57 := h.at 5 rfl
theorem zx_0_6 {σ : zm_Sig} (h : zFix σ) : σ.2.2 0 6 = some 59 := h.at 6 rfl
theorem zx_0_7 {σ : zm_Sig} (h : zFix σ) : σ.2.2 0 7 = some 76 := h.at 7 rfl
theorem zx_0_8 {σ : zm_Sig} (h : zFix σ) : σ.2.2 0 8 = some 77 := h.at 8 rfl
theorem zx_0_9 {σ : zm_Sig} (h : zFix σ) : σ.2.2 0 9 = some 78 := h.at 9 rfl
theorem zx_0_10 {σ : zm_Sig} (h : zFix σ) : σ.2.2 0 10 = some 79 := h.at 10 rfl
theorem zx_1_0 {σ : zm_Sig} (h : zFix σ) : σ.2.2 1 0 = some 2 := h.at 11 rfl
theorem zx_1_1 {σ : zm_Sig} (h : zFix σ) : σ.2.2 1 1 = some 9 := h.at 12 rfl
theorem zx_2_0 {σ : zm_Sig} (h : zFix σ) : σ.2.2 2 0 = some 3 := h.at 13 rfl
theorem zx_2_1 {σ : zm_Sig} (h : zFix σ) : σ.2.2 2 1 = some 4 := h.at 14 rfl
theorem zx_2_2 {σ : zm_Sig} (h : zFix σ) : σ.2.2 2 2 = some 5 := h.at 15 rfl
theorem zx_2_3 {σ : zm_Sig} (h : zFix σ) : σ.2.2 2 3 = some 6 := h.at 16 rfl
theorem zx_2_4 {σ : zm_Sig} (h : zFix σ) : σ.2.2 2 4 = some 7 := h.at 17 rfl
theorem zx_2_5 {σ : zm_Sig} (h : zFix σ) : σ.2.2 2 5 = some 8 := h.at 18 rfl
theorem zx_10_0 {σ : zm_Sig} (h : zFix σ) : σ.2.2 10 0 = some 11 := h.at 19 rfl
theorem zx_10_1 {σ : zm_Sig} (h : zFix σ) : σ.2.2 10 1 = some 16 := h.at 20 rfl
theorem zx_11_0 {σ : zm_Sig} (h : zFix σ) : σ.2.2 11 0 = some 12 := h.at 21 rfl
theorem zx_11_1 {σ : zm_Sig} (h : zFix σ) : σ.2.2 11 1 = some 13 := h.at 22 rfl
theorem zx_11_2 {σ : zm_Sig} (h : zFix σ) : σ.2.2 11 2 = some 14 := h.at 23 rfl
theorem zx_11_3 {σ : zm_Sig} (h : zFix σ) : σ.2.2 11 3 = some 15 := h.at 24 rfl
theorem zx_17_0 {σ : zm_Sig} (h : zFix σ) : σ.2.2 17 0 = some 18 := h.at 25 rfl
theorem zx_19_0 {σ : zm_Sig} (h : zFix σ) : σ.2.2 19 0 = some 20 := h.at 26 rfl
theorem zx_19_1 {σ : zm_Sig} (h : zFix σ) : σ.2.2 19 1 = some 30 := h.at 27 rfl
theorem zx_19_2 {σ : zm_Sig} (h : zFix σ) : σ.2.2 19 2 = some 52 := h.at 28 rfl
theorem zx_20_0 {σ : zm_Sig} (h : zFix σ) : σ.2.2 20 0 = some 21 := h.at 29 rfl
theorem zx_20_1 {σ : zm_Sig} (h : zFix σ) : σ.2.2 20 1 = some 22 := h.at 30 rfl
theorem zx_20_3 {σ : zm_Sig} (h : zFix σ) : σ.2.2 20 3 = some 23 := h.at 31 rfl
theorem zx_20_4 {σ : zm_Sig} (h : zFix σ) : σ.2.2 20 4 = some 24 := h.at 32 rfl
theorem zx_20_5 {σ : zm_Sig} (h : zFix σ) : σ.2.2 20 5 = some 25 := h.at 33 rfl
theorem zx_20_6 {σ : zm_Sig} (h : zFix σ) : σ.2.2 20 6 = some 26 := h.at 34 rfl
theorem zx_20_7 {σ : zm_Sig} (h : zFix σ) : σ.2.2 20 7 = some 27 := h.at 35 rfl
theorem zx_20_8 {σ : zm_Sig} (h : zFix σ) : σ.2.2 20 8 = some 28 := h.at 36 rfl
theorem zx_20_9 {σ : zm_Sig} (h : zFix σ) : σ.2.2 20 9 = some 29 := h.at 37 rfl
theorem zx_30_0 {σ : zm_Sig} (h : zFix σ) : σ.2.2 30 0 = some 31 := h.at 38 rfl
theorem zx_30_1 {σ : zm_Sig} (h : zFix σ) : σ.2.2 30 1 = some 47 := h.at 39 rfl
theorem zx_30_4 {σ : zm_Sig} (h : zFix σ) : σ.2.2 30 4 = some 48 := h.at 40 rfl
theorem zx_30_5 {σ : zm_Sig} (h : zFix σ) : σ.2.2 30 5 = some 50 := h.at 41 rfl
theorem zx_48_0 {σ : zm_Sig} (h : zFix σ) : σ.2.2 48 0 = some 49 := h.at 42 rfl
theorem zx_50_0 {σ : zm_Sig} (h : zFix σ) : σ.2.2 50 0 = some 51 := h.at 43 rfl
theorem zx_52_0 {σ : zm_Sig} (h : zFix σ) : σ.2.2 52 0 = some 53 := h.at 44 rfl
theorem zx_52_1 {σ : zm_Sig} (h : zFix σ) : σ.2.2 52 1 = some 54 := h.at 45 rfl
theorem zx_52_2 {σ : zm_Sig} (h : zFix σ) : σ.2.2 52 2 = some 55 := h.at 46 rfl
theorem zx_56_0 {σ : zm_Sig} (h : zFix σ) : σ.2.2 56 0 = some 106 := h.at 47 rfl
theorem zx_56_1 {σ : zm_Sig} (h : zFix σ) : σ.2.2 56 1 = some 110 := h.at 48 rfl
theorem zx_56_2 {σ : zm_Sig} (h : zFix σ) : σ.2.2 56 2 = some 114 := h.at 49 rfl
theorem zx_57_0 {σ : zm_Sig} (h : zFix σ) : σ.2.2 57 0 = some 58 := h.at 50 rfl
theorem zx_59_0 {σ : zm_Sig} (h : zFix σ) : σ.2.2 59 0 = some 60 := h.at 51 rfl
theorem zx_80_3 {σ : zm_Sig} (h : zFix σ) : σ.2.2 80 3 = some 81 := h.at 52 rfl
theorem zx_80_4 {σ : zm_Sig} (h : zFix σ) : σ.2.2 80 4 = some 88 := h.at 53 rfl
theorem zx_80_5 {σ : zm_Sig} (h : zFix σ) : σ.2.2 80 5 = some 92 := h.at 54 rfl
theorem zx_81_0 {σ : zm_Sig} (h : zFix σ) : σ.2.2 81 0 = some 82 := h.at 55 rfl
theorem zx_81_1 {σ : zm_Sig} (h : zFix σ) : σ.2.2 81 1 = some 83 := h.at 56 rfl
theorem zx_81_2 {σ : zm_Sig} (h : zFix σ) : σ.2.2 81 2 = some 84 := h.at 57 rfl
theorem zx_81_3 {σ : zm_Sig} (h : zFix σ) : σ.2.2 81 3 = some 85 := h.at 58 rfl
theorem zx_81_4 {σ : zm_Sig} (h : zFix σ) : σ.2.2 81 4 = some 86 := h.at 59 rfl
theorem zx_81_5 {σ : zm_Sig} (h : zFix σ) : σ.2.2 81 5 = some 87 := h.at 60 rfl
theorem zx_88_0 {σ : zm_Sig} (h : zFix σ) : σ.2.2 88 0 = some 89 := h.at 61 rfl
theorem zx_88_1 {σ : zm_Sig} (h : zFix σ) : σ.2.2 88 1 = some 90 := h.at 62 rfl
theorem zx_88_2 {σ : zm_Sig} (h : zFix σ) : σ.2.2 88 2 = some 91 := h.at 63 rfl
theorem zx_93_3 {σ : zm_Sig} (h : zFix σ) : σ.2.2 93 3 = some 94 := h.at 64 rfl
theorem zx_93_4 {σ : zm_Sig} (h : zFix σ) : σ.2.2 93 4 = some 101 := h.at 65 rfl
theorem zx_93_5 {σ : zm_Sig} (h : zFix σ) : σ.2.2 93 5 = some 105 := h.at 66 rfl
theorem zx_94_0 {σ : zm_Sig} (h : zFix σ) : σ.2.2 94 0 = some 95 := h.at 67 rfl
theorem zx_94_1 {σ : zm_Sig} (h : zFix σ) : σ.2.2 94 1 = some 96 := h.at 68 rfl
theorem zx_94_2 {σ : zm_Sig} (h : zFix σ) : σ.2.2 94 2 = some 97 := h.at 69 rfl
theorem zx_94_3 {σ : zm_Sig} (h : zFix σ) : σ.2.2 94 3 = some 98 := h.at 70 rfl
theorem zx_94_4 {σ : zm_Sig} (h : zFix σ) : σ.2.2 94 4 = some 99 := h.at 71 rfl
theorem zx_94_5 {σ : zm_Sig} (h : zFix σ) : σ.2.2 94 5 = some 100 := h.at 72 rfl
theorem zx_101_0 {σ : zm_Sig} (h : zFix σ) : σ.2.2 101 0 = some 102 := h.at 73 rfl
theorem zx_101_1 {σ : zm_Sig} (h : zFix σ) : σ.2.2 101 1 = some 103 := h.at 74 rfl
theorem zx_101_2 {σ : zm_Sig} (h : zFix σ) : σ.2.2 101 2 = some 104 := h.at 75 rfl
theorem zx_106_0 {σ : zm_Sig} (h : zFix σ) : σ.2.2 106 0 = some 107 := h.at 76 rfl
theorem zx_106_1 {σ : zm_Sig} (h : zFix σ) : σ.2.2 106 1 = some 108 := h.at 77 rfl
theorem zx_106_2 {σ : zm_Sig} (h : zFix σ) : σ.2.2 106 2 = some 109 := h.at 78 rfl
theorem zx_110_0 {σ : zm_Sig} (h : zFix σ) : σ.2.2 110 0 = some 111 := h.at 79 rfl
theorem zx_110_1 {σ : zm_Sig} (h : zFix σ) : σ.2.2 110 1 = some 112 := h.at 80 rfl
theorem zx_110_2 {σ : zm_Sig} (h : zFix σ) : σ.2.2 110 2 = some 113 := h.at 81 rfl
theorem zx_114_0 {σ : zm_Sig} (h : zFix σ) : σ.2.2 114 0 = some 115 := h.at 82 rfl
theorem zx_114_1 {σ : zm_Sig} (h : zFix σ) : σ.2.2 114 1 = some 116 := h.at 83 rfl
theorem zx_114_2 {σ : zm_Sig} (h : zFix σ) : σ.2.2 114 2 = some 117 := h.at 84 rfl
theorem zx_118_0 {σ : zm_Sig} (h : zFix σ) : σ.2.2 118 0 = some 119 := h.at 85 rfl
theorem zx_118_1 {σ : zm_Sig} (h : zFix σ) : σ.2.2 118 1 = some 120 := h.at 86 rfl
theorem zx_118_2 {σ : zm_Sig} (h : zFix σ) : σ.2.2 118 2 = some 121 := h.at 87 rfl
theorem zx_118_3 {σ : zm_Sig} (h : zFix σ) : σ.2.2 118 3 = some 122 := h.at 88 rfl
theorem zx_118_7 {σ : zm_Sig} (h : zFix σ) : σ.2.2 118 7 = some 123 := h.at 89 rfl
theorem zx_118_8 {σ : zm_Sig} (h : zFix σ) : σ.2.2 118 8 = some 124 := h.at 90 rfl
theorem zx_118_9 {σ : zm_Sig} (h : zFix σ) : σ.2.2 118 9 = some 125 := h.at 91 rfl
theorem zx_118_10 {σ : zm_Sig} (h : zFix σ) : σ.2.2 118 10 = some 126 := h.at 92 rfl
theorem zx_118_11 {σ : zm_Sig} (h : zFix σ) : σ.2.2 118 11 = some 127 := h.at 93 rfl
theorem zx_118_12 {σ : zm_Sig} (h : zFix σ) : σ.2.2 118 12 = some 128 := h.at 94 rfl
theorem zx_118_13 {σ : zm_Sig} (h : zFix σ) : σ.2.2 118 13 = some 129 := h.at 95 rfl
theorem zx_118_14 {σ : zm_Sig} (h : zFix σ) : σ.2.2 118 14 = some 130 := h.at 96 rfl
theorem zx_118_15 {σ : zm_Sig} (h : zFix σ) : σ.2.2 118 15 = some 131 := h.at 97 rfl
theorem zx_118_17 {σ : zm_Sig} (h : zFix σ) : σ.2.2 118 17 = some 132 := h.at 98 rfl
theorem zx_118_18 {σ : zm_Sig} (h : zFix σ) : σ.2.2 118 18 = some 133 := h.at 99 rfl
theorem zx_118_19 {σ : zm_Sig} (h : zFix σ) : σ.2.2 118 19 = some 134 := h.at 100 rfl
theorem zx_118_21 {σ : zm_Sig} (h : zFix σ) : σ.2.2 118 21 = some 135 := h.at 101 rfl
theorem zx_118_22 {σ : zm_Sig} (h : zFix σ) : σ.2.2 118 22 = some 136 := h.at 102 rfl
theorem zx_118_24 {σ : zm_Sig} (h : zFix σ) : σ.2.2 118 24 = some 137 := h.at 103 rfl
theorem zx_118_25 {σ : zm_Sig} (h : zFix σ) : σ.2.2 118 25 = some 138 := h.at 104 rfl
theorem zx_118_30 {σ : zm_Sig} (h : zFix σ) : σ.2.2 118 30 = some 139 := h.at 105 rfl
theorem zx_118_35 {σ : zm_Sig} (h : zFix σ) : σ.2.2 118 35 = some 140 := h.at 106 rfl
theorem zx_118_36 {σ : zm_Sig} (h : zFix σ) : σ.2.2 118 36 = some 141 := h.at 107 rfl
theorem zx_118_37 {σ : zm_Sig} (h : zFix σ) : σ.2.2 118 37 = some 142 := h.at 108 rfl
theorem zx_118_38 {σ : zm_Sig} (h : zFix σ) : σ.2.2 118 38 = some 143 := h.at 109 rfl
theorem zx_118_39 {σ : zm_Sig} (h : zFix σ) : σ.2.2 118 39 = some 144 := h.at 110 rfl
theorem zx_118_41 {σ : zm_Sig} (h : zFix σ) : σ.2.2 118 41 = some 145 := h.at 111 rfl
theorem zx_118_42 {σ : zm_Sig} (h : zFix σ) : σ.2.2 118 42 = some 146 := h.at 112 rfl
theorem zx_118_44 {σ : zm_Sig} (h : zFix σ) : σ.2.2 118 44 = some 147 := h.at 113 rfl
theorem zx_118_45 {σ : zm_Sig} (h : zFix σ) : σ.2.2 118 45 = some 148 := h.at 114 rfl
theorem zx_118_46 {σ : zm_Sig} (h : zFix σ) : σ.2.2 118 46 = some 149 := h.at 115 rfl
theorem zFix.wI {σ : zm_Sig} (h : zFix σ) (a i : Nat) (v : Int32) : zFix (zm_wI σ a i v) := h
theorem zFix.wL {σ : zm_Sig} (h : zFix σ) (a i : Nat) (v : Int64) : zFix (zm_wL σ a i v) := h
/-- small rows -/
theorem zw_R (σ : zm_Sig) (a i : Nat) (v : Int32) : (zm_wI σ a i v).2 = σ.2 := rfl
theorem zw_RL (σ : zm_Sig) (a i : Nat) (v : Int64) : (zm_wL σ a i v).2.2 = σ.2.2 := rfl
theorem zw_I (σ : zm_Sig) (a i : Nat) (v : Int64) : (zm_wL σ a i v).1 = σ.1 := rfl
theorem zw_same (σ : zm_Sig) (a i : Nat) (v : Int32) : (zm_wI σ a i v).1 a i = v := by simp [zm_wI, va_up, upd]
theorem zw_ne (σ : zm_Sig) {a i b j : Nat} (v : Int32) (h : b ≠ a ∨ j ≠ i) : (zm_wI σ a i v).1 b j = σ.1 b j := by
  by_cases e : b = a
  · subst e
    have hj : j ≠ i := h.resolve_left (fun q => q rfl)
    simp [zm_wI, va_up, upd, hj]
  · simp [zm_wI, va_up, e]
theorem zw_cell (σ : zm_Sig) {a i b : Nat} (v : Int32) (h : b ≠ a) : (zm_wI σ a i v).1 b = σ.1 b := by simp [zm_wI, va_up, h]
theorem zgI {lay : zm_Lay} {σ : zm_Sig} {a n j : Nat} (h : lay[a]? = some (1, n)) (hj : j < n) (hn : n < 2147483648) : zm_gI lay σ a (nI j) = some (σ.1 a j) := by
  unfold zm_gI
  rw [h]
  have h1 : ¬ (nI j < 0 ∨ n ≤ (nI j).toNatClampNeg) := vp_in_nI hj hn
  show (if nI j < 0 ∨ n ≤ (nI j).toNatClampNeg then none else some _) = _
  rw [if_neg h1, nI_clamp (show j < 2 ^ 31 by omega)]
theorem zsI {lay : zm_Lay} {σ : zm_Sig} {a n j : Nat} {v : Int32} (h : lay[a]? = some (1, n)) (hj : j < n) (hn : n < 2147483648) : zm_sI lay σ a (nI j) v = some (zm_wI σ a j v) := by
  unfold zm_sI
  rw [h]
  have h1 : ¬ (nI j < 0 ∨ n ≤ (nI j).toNatClampNeg) := vp_in_nI hj hn
  show (if nI j < 0 ∨ n ≤ (nI j).toNatClampNeg then none else some _) = _
  rw [if_neg h1, nI_clamp (show j < 2 ^ 31 by omega)]
theorem zgR4 {lay : zm_Lay} {σ : zm_Sig} {a n j : Nat} (h : lay[a]? = some (4, n)) (hj : j < n) (hn : n < 2147483648) : zm_gR lay σ a (nI j) = some (σ.2.2 a j) := by
  unfold zm_gR
  rw [h]
  have h1 : ¬ (nI j < 0 ∨ n ≤ (nI j).toNatClampNeg) := vp_in_nI hj hn
  show (if nI j < 0 ∨ n ≤ (nI j).toNatClampNeg then none else some _) = _
  rw [if_neg h1, nI_clamp (show j < 2 ^ 31 by omega)]
theorem zlen {lay : zm_Lay} {a k n : Nat} (h : lay[a]? = some (k + 1, n)) : zm_len lay a = some (nI n) := by
  unfold zm_len
  rw [h]
  rfl
theorem zis {lay : zm_Lay} {a c : Nat} (h : lay[a]? = some (0, c)) : zm_is lay a c = some () := by
  unfold zm_is
  rw [h]
  simp
theorem zai {o : zm_Out} {v : Int32} {l : zm_Lay} {s : zm_Sig} (h : o = (some (.int v), l, s)) : zm_ai (some o) = some (v, l, s) := by rw [h]; rfl
theorem zopt {β : Type} {o : Option Nat} {q : Nat} {ks : Nat → Option β} {kn : Option β} (h : o = some q) : zm_opt o ks kn = ks q := by rw [h]; rfl
theorem zi_0 : zm_is zL 0 9 = some () := zis rfl
theorem zi_1 : zm_is zL 1 5 = some () := zis rfl
theorem zi_10 : zm_is zL 10 5 = some () := zis rfl
theorem zi_17 : zm_is zL 17 3 = some () := zis rfl
theorem zi_19 : zm_is zL 19 0 = some () := zis rfl
theorem zi_20 : zm_is zL 20 7 = some () := zis rfl
theorem zi_30 : zm_is zL 30 4 = some () := zis rfl
theorem zi_48 : zm_is zL 48 8 = some () := zis rfl
theorem zi_50 : zm_is zL 50 8 = some () := zis rfl
theorem zi_52 : zm_is zL 52 6 = some () := zis rfl
theorem zi_57 : zm_is zL 57 8 = some () := zis rfl
theorem zi_59 : zm_is zL 59 2 = some () := zis rfl
theorem zi_80 : zm_is zL 80 1 = some () := zis rfl
theorem zi_93 : zm_is zL 93 1 = some () := zis rfl
theorem zi_106 : zm_is zL 106 6 = some () := zis rfl
theorem zi_110 : zm_is zL 110 6 = some () := zis rfl
theorem zi_114 : zm_is zL 114 6 = some () := zis rfl
theorem zi_118 : zm_is zL 118 10 = some () := zis rfl
theorem zgI_9 {σ : zm_Sig} {j : Nat} (hj : j < 6) : zm_gI zL σ 9 (nI j) = some (σ.1 9 j) := zgI rfl hj (by decide)
theorem zgI_9_0 {σ : zm_Sig} : zm_gI zL σ 9 0 = some (σ.1 9 0) := zgI_9 (j := 0) (by decide)
theorem zgI_9_1 {σ : zm_Sig} : zm_gI zL σ 9 1 = some (σ.1 9 1) := zgI_9 (j := 1) (by decide)
theorem zsI_9 {σ : zm_Sig} {j : Nat} {v : Int32} (hj : j < 6) : zm_sI zL σ 9 (nI j) v = some (zm_wI σ 9 j v) := zsI rfl hj (by decide)
theorem zsI_9_0 {σ : zm_Sig} {v : Int32} : zm_sI zL σ 9 0 v = some (zm_wI σ 9 0 v) := zsI_9 (j := 0) (by decide)
theorem zsI_9_1 {σ : zm_Sig} {v : Int32} : zm_sI zL σ 9 1 v = some (zm_wI σ 9 1 v) := zsI_9 (j := 1) (by decide)
theorem zgI_16 {σ : zm_Sig} {j : Nat} (hj : j < 4) : zm_gI zL σ 16 (nI j) = some (σ.1 16 j) := zgI rfl hj (by decide)
theorem zgI_16_0 {σ : zm_Sig} : zm_gI zL σ 16 0 = some (σ.1 16 0) := zgI_16 (j := 0) (by decide)
theorem zgI_16_1 {σ : zm_Sig} : zm_gI zL σ 16 1 = some (σ.1 16 1) := zgI_16 (j := 1) (by decide)
theorem zsI_16 {σ : zm_Sig} {j : Nat} {v : Int32} (hj : j < 4) : zm_sI zL σ 16 (nI j) v = some (zm_wI σ 16 j v) := zsI rfl hj (by decide)
theorem zsI_16_0 {σ : zm_Sig} {v : Int32} : zm_sI zL σ 16 0 v = some (zm_wI σ 16 0 v) := zsI_16 (j := 0) (by decide)
theorem zsI_16_1 {σ : zm_Sig} {v : Int32} : zm_sI zL σ 16 1 v = some (zm_wI σ 16 1 v) := zsI_16 (j := 1) (by decide)
theorem zgI_18 {σ : zm_Sig} {j : Nat} (hj : j < 60) : zm_gI zL σ 18 (nI j) = some (σ.1 18 j) := zgI rfl hj (by decide)
theorem zgI_18_0 {σ : zm_Sig} : zm_gI zL σ 18 0 = some (σ.1 18 0) := zgI_18 (j := 0) (by decide)
theorem zgI_18_1 {σ : zm_Sig} : zm_gI zL σ 18 1 = some (σ.1 18 1) := zgI_18 (j := 1) (by decide)
theorem zsI_18 {σ : zm_Sig} {j : Nat} {v : Int32} (hj : j < 60) : zm_sI zL σ 18 (nI j) v = some (zm_wI σ 18 j v) := zsI rfl hj (by decide)
theorem zsI_18_0 {σ : zm_Sig} {v : Int32} : zm_sI zL σ 18 0 v = some (zm_wI σ 18 0 v) := zsI_18 (j := 0) (by decide)
theorem zsI_18_1 {σ : zm_Sig} {v : Int32} : zm_sI zL σ 18 1 v = some (zm_wI σ 18 1 v) := zsI_18 (j := 1) (by decide)
theorem zgI_21 {σ : zm_Sig} {j : Nat} (hj : j < 15) : zm_gI zL σ 21 (nI j) = some (σ.1 21 j) := zgI rfl hj (by decide)
theorem zgI_21_0 {σ : zm_Sig} : zm_gI zL σ 21 0 = some (σ.1 21 0) := zgI_21 (j := 0) (by decide)
theorem zgI_21_1 {σ : zm_Sig} : zm_gI zL σ 21 1 = some (σ.1 21 1) := zgI_21 (j := 1) (by decide)
theorem zsI_21 {σ : zm_Sig} {j : Nat} {v : Int32} (hj : j < 15) : zm_sI zL σ 21 (nI j) v = some (zm_wI σ 21 j v) := zsI rfl hj (by decide)
theorem zsI_21_0 {σ : zm_Sig} {v : Int32} : zm_sI zL σ 21 0 v = some (zm_wI σ 21 0 v) := zsI_21 (j := 0) (by decide)
theorem zsI_21_1 {σ : zm_Sig} {v : Int32} : zm_sI zL σ 21 1 v = some (zm_wI σ 21 1 v) := zsI_21 (j := 1) (by decide)
theorem zgI_22 {σ : zm_Sig} {j : Nat} (hj : j < 15) : zm_gI zL σ 22 (nI j) = some (σ.1 22 j) := zgI rfl hj (by decide)
theorem zgI_22_0 {σ : zm_Sig} : zm_gI zL σ 22 0 = some (σ.1 22 0) := zgI_22 (j := 0) (by decide)
theorem zgI_22_1 {σ : zm_Sig} : zm_gI zL σ 22 1 = some (σ.1 22 1) := zgI_22 (j := 1) (by decide)
theorem zsI_22 {σ : zm_Sig} {j : Nat} {v : Int32} (hj : j < 15) : zm_sI zL σ 22 (nI j) v = some (zm_wI σ 22 j v) := zsI rfl hj (by decide)
theorem zsI_22_0 {σ : zm_Sig} {v : Int32} : zm_sI zL σ 22 0 v = some (zm_wI σ 22 0 v) := zsI_22 (j := 0) (by decide)
theorem zsI_22_1 {σ : zm_Sig} {v : Int32} : zm_sI zL σ 22 1 v = some (zm_wI σ 22 1 v) := zsI_22 (j := 1) (by decide)
theorem zgI_23 {σ : zm_Sig} {j : Nat} (hj : j < 5) : zm_gI zL σ 23 (nI j) = some (σ.1 23 j) := zgI rfl hj (by decide)
theorem zgI_23_0 {σ : zm_Sig} : zm_gI zL σ 23 0 = some (σ.1 23 0) := zgI_23 (j := 0) (by decide)
theorem zgI_23_1 {σ : zm_Sig} : zm_gI zL σ 23 1 = some (σ.1 23 1) := zgI_23 (j := 1) (by decide)
theorem zsI_23 {σ : zm_Sig} {j : Nat} {v : Int32} (hj : j < 5) : zm_sI zL σ 23 (nI j) v = some (zm_wI σ 23 j v) := zsI rfl hj (by decide)
theorem zsI_23_0 {σ : zm_Sig} {v : Int32} : zm_sI zL σ 23 0 v = some (zm_wI σ 23 0 v) := zsI_23 (j := 0) (by decide)
theorem zsI_23_1 {σ : zm_Sig} {v : Int32} : zm_sI zL σ 23 1 v = some (zm_wI σ 23 1 v) := zsI_23 (j := 1) (by decide)
theorem zgI_24 {σ : zm_Sig} {j : Nat} (hj : j < 5) : zm_gI zL σ 24 (nI j) = some (σ.1 24 j) := zgI rfl hj (by decide)
theorem zgI_24_0 {σ : zm_Sig} : zm_gI zL σ 24 0 = some (σ.1 24 0) := zgI_24 (j := 0) (by decide)
theorem zgI_24_1 {σ : zm_Sig} : zm_gI zL σ 24 1 = some (σ.1 24 1) := zgI_24 (j := 1) (by decide)
theorem zsI_24 {σ : zm_Sig} {j : Nat} {v : Int32} (hj : j < 5) : zm_sI zL σ 24 (nI j) v = some (zm_wI σ 24 j v) := zsI rfl hj (by decide)
theorem zsI_24_0 {σ : zm_Sig} {v : Int32} : zm_sI zL σ 24 0 v = some (zm_wI σ 24 0 v) := zsI_24 (j := 0) (by decide)
theorem zsI_24_1 {σ : zm_Sig} {v : Int32} : zm_sI zL σ 24 1 v = some (zm_wI σ 24 1 v) := zsI_24 (j := 1) (by decide)
theorem zgI_25 {σ : zm_Sig} {j : Nat} (hj : j < 5) : zm_gI zL σ 25 (nI j) = some (σ.1 25 j) := zgI rfl hj (by decide)
theorem zgI_25_0 {σ : zm_Sig} : zm_gI zL σ 25 0 = some (σ.1 25 0) := zgI_25 (j := 0) (by decide)
theorem zgI_25_1 {σ : zm_Sig} : zm_gI zL σ 25 1 = some (σ.1 25 1) := zgI_25 (j := 1) (by decide)
theorem zsI_25 {σ : zm_Sig} {j : Nat} {v : Int32} (hj : j < 5) : zm_sI zL σ 25 (nI j) v = some (zm_wI σ 25 j v) := zsI rfl hj (by decide)
theorem zsI_25_0 {σ : zm_Sig} {v : Int32} : zm_sI zL σ 25 0 v = some (zm_wI σ 25 0 v) := zsI_25 (j := 0) (by decide)
theorem zsI_25_1 {σ : zm_Sig} {v : Int32} : zm_sI zL σ 25 1 v = some (zm_wI σ 25 1 v) := zsI_25 (j := 1) (by decide)
theorem zgI_26 {σ : zm_Sig} {j : Nat} (hj : j < 5) : zm_gI zL σ 26 (nI j) = some (σ.1 26 j) := zgI rfl hj (by decide)
theorem zgI_26_0 {σ : zm_Sig} : zm_gI zL σ 26 0 = some (σ.1 26 0) := zgI_26 (j := 0) (by decide)
theorem zgI_26_1 {σ : zm_Sig} : zm_gI zL σ 26 1 = some (σ.1 26 1) := zgI_26 (j := 1) (by decide)
theorem zsI_26 {σ : zm_Sig} {j : Nat} {v : Int32} (hj : j < 5) : zm_sI zL σ 26 (nI j) v = some (zm_wI σ 26 j v) := zsI rfl hj (by decide)
theorem zsI_26_0 {σ : zm_Sig} {v : Int32} : zm_sI zL σ 26 0 v = some (zm_wI σ 26 0 v) := zsI_26 (j := 0) (by decide)
theorem zsI_26_1 {σ : zm_Sig} {v : Int32} : zm_sI zL σ 26 1 v = some (zm_wI σ 26 1 v) := zsI_26 (j := 1) (by decide)
theorem zgI_27 {σ : zm_Sig} {j : Nat} (hj : j < 5) : zm_gI zL σ 27 (nI j) = some (σ.1 27 j) := zgI rfl hj (by decide)
theorem zgI_27_0 {σ : zm_Sig} : zm_gI zL σ 27 0 = some (σ.1 27 0) := zgI_27 (j := 0) (by decide)
theorem zgI_27_1 {σ : zm_Sig} : zm_gI zL σ 27 1 = some (σ.1 27 1) := zgI_27 (j := 1) (by decide)
theorem zsI_27 {σ : zm_Sig} {j : Nat} {v : Int32} (hj : j < 5) : zm_sI zL σ 27 (nI j) v = some (zm_wI σ 27 j v) := zsI rfl hj (by decide)
theorem zsI_27_0 {σ : zm_Sig} {v : Int32} : zm_sI zL σ 27 0 v = some (zm_wI σ 27 0 v) := zsI_27 (j := 0) (by decide)
theorem zsI_27_1 {σ : zm_Sig} {v : Int32} : zm_sI zL σ 27 1 v = some (zm_wI σ 27 1 v) := zsI_27 (j := 1) (by decide)
theorem zgI_28 {σ : zm_Sig} {j : Nat} (hj : j < 16) : zm_gI zL σ 28 (nI j) = some (σ.1 28 j) := zgI rfl hj (by decide)
theorem zgI_28_0 {σ : zm_Sig} : zm_gI zL σ 28 0 = some (σ.1 28 0) := zgI_28 (j := 0) (by decide)
theorem zgI_28_1 {σ : zm_Sig} : zm_gI zL σ 28 1 = some (σ.1 28 1) := zgI_28 (j := 1) (by decide)
theorem zsI_28 {σ : zm_Sig} {j : Nat} {v : Int32} (hj : j < 16) : zm_sI zL σ 28 (nI j) v = some (zm_wI σ 28 j v) := zsI rfl hj (by decide)
theorem zsI_28_0 {σ : zm_Sig} {v : Int32} : zm_sI zL σ 28 0 v = some (zm_wI σ 28 0 v) := zsI_28 (j := 0) (by decide)
theorem zsI_28_1 {σ : zm_Sig} {v : Int32} : zm_sI zL σ 28 1 v = some (zm_wI σ 28 1 v) := zsI_28 (j := 1) (by decide)
theorem zgI_29 {σ : zm_Sig} {j : Nat} (hj : j < 5) : zm_gI zL σ 29 (nI j) = some (σ.1 29 j) := zgI rfl hj (by decide)
theorem zgI_29_0 {σ : zm_Sig} : zm_gI zL σ 29 0 = some (σ.1 29 0) := zgI_29 (j := 0) (by decide)
theorem zgI_29_1 {σ : zm_Sig} : zm_gI zL σ 29 1 = some (σ.1 29 1) := zgI_29 (j := 1) (by decide)
theorem zsI_29 {σ : zm_Sig} {j : Nat} {v : Int32} (hj : j < 5) : zm_sI zL σ 29 (nI j) v = some (zm_wI σ 29 j v) := zsI rfl hj (by decide)
theorem zsI_29_0 {σ : zm_Sig} {v : Int32} : zm_sI zL σ 29 0 v = some (zm_wI σ 29 0 v) := zsI_29 (j := 0) (by decide)
theorem zsI_29_1 {σ : zm_Sig} {v : Int32} : zm_sI zL σ 29 1 v = some (zm_wI σ 29 1 v) := zsI_29 (j := 1) (by decide)
theorem zgI_47 {σ : zm_Sig} {j : Nat} (hj : j < 15) : zm_gI zL σ 47 (nI j) = some (σ.1 47 j) := zgI rfl hj (by decide)
theorem zgI_47_0 {σ : zm_Sig} : zm_gI zL σ 47 0 = some (σ.1 47 0) := zgI_47 (j := 0) (by decide)
theorem zgI_47_1 {σ : zm_Sig} : zm_gI zL σ 47 1 = some (σ.1 47 1) := zgI_47 (j := 1) (by decide)
theorem zsI_47 {σ : zm_Sig} {j : Nat} {v : Int32} (hj : j < 15) : zm_sI zL σ 47 (nI j) v = some (zm_wI σ 47 j v) := zsI rfl hj (by decide)
theorem zsI_47_0 {σ : zm_Sig} {v : Int32} : zm_sI zL σ 47 0 v = some (zm_wI σ 47 0 v) := zsI_47 (j := 0) (by decide)
theorem zsI_47_1 {σ : zm_Sig} {v : Int32} : zm_sI zL σ 47 1 v = some (zm_wI σ 47 1 v) := zsI_47 (j := 1) (by decide)
theorem zgI_49 {σ : zm_Sig} {j : Nat} (hj : j < 400) : zm_gI zL σ 49 (nI j) = some (σ.1 49 j) := zgI rfl hj (by decide)
theorem zgI_49_0 {σ : zm_Sig} : zm_gI zL σ 49 0 = some (σ.1 49 0) := zgI_49 (j := 0) (by decide)
theorem zgI_49_1 {σ : zm_Sig} : zm_gI zL σ 49 1 = some (σ.1 49 1) := zgI_49 (j := 1) (by decide)
theorem zsI_49 {σ : zm_Sig} {j : Nat} {v : Int32} (hj : j < 400) : zm_sI zL σ 49 (nI j) v = some (zm_wI σ 49 j v) := zsI rfl hj (by decide)
theorem zsI_49_0 {σ : zm_Sig} {v : Int32} : zm_sI zL σ 49 0 v = some (zm_wI σ 49 0 v) := zsI_49 (j := 0) (by decide)
theorem zsI_49_1 {σ : zm_Sig} {v : Int32} : zm_sI zL σ 49 1 v = some (zm_wI σ 49 1 v) := zsI_49 (j := 1) (by decide)
theorem zgI_51 {σ : zm_Sig} {j : Nat} (hj : j < 400) : zm_gI zL σ 51 (nI j) = some (σ.1 51 j) := zgI rfl hj (by decide)
theorem zgI_51_0 {σ : zm_Sig} : zm_gI zL σ 51 0 = some (σ.1 51 0) := zgI_51 (j := 0) (by decide)
theorem zgI_51_1 {σ : zm_Sig} : zm_gI zL σ 51 1 = some (σ.1 51 1) := zgI_51 (j := 1) (by decide)
theorem zsI_51 {σ : zm_Sig} {j : Nat} {v : Int32} (hj : j < 400) : zm_sI zL σ 51 (nI j) v = some (zm_wI σ 51 j v) := zsI rfl hj (by decide)
theorem zsI_51_0 {σ : zm_Sig} {v : Int32} : zm_sI zL σ 51 0 v = some (zm_wI σ 51 0 v) := zsI_51 (j := 0) (by decide)
theorem zsI_51_1 {σ : zm_Sig} {v : Int32} : zm_sI zL σ 51 1 v = some (zm_wI σ 51 1 v) := zsI_51 (j := 1) (by decide)
theorem zgI_53 {σ : zm_Sig} {j : Nat} (hj : j < 20) : zm_gI zL σ 53 (nI j) = some (σ.1 53 j) := zgI rfl hj (by decide)
theorem zgI_53_0 {σ : zm_Sig} : zm_gI zL σ 53 0 = some (σ.1 53 0) := zgI_53 (j := 0) (by decide)
theorem zgI_53_1 {σ : zm_Sig} : zm_gI zL σ 53 1 = some (σ.1 53 1) := zgI_53 (j := 1) (by decide)
theorem zsI_53 {σ : zm_Sig} {j : Nat} {v : Int32} (hj : j < 20) : zm_sI zL σ 53 (nI j) v = some (zm_wI σ 53 j v) := zsI rfl hj (by decide)
theorem zsI_53_0 {σ : zm_Sig} {v : Int32} : zm_sI zL σ 53 0 v = some (zm_wI σ 53 0 v) := zsI_53 (j := 0) (by decide)
theorem zsI_53_1 {σ : zm_Sig} {v : Int32} : zm_sI zL σ 53 1 v = some (zm_wI σ 53 1 v) := zsI_53 (j := 1) (by decide)
theorem zgI_54 {σ : zm_Sig} {j : Nat} (hj : j < 20) : zm_gI zL σ 54 (nI j) = some (σ.1 54 j) := zgI rfl hj (by decide)
theorem zgI_54_0 {σ : zm_Sig} : zm_gI zL σ 54 0 = some (σ.1 54 0) := zgI_54 (j := 0) (by decide)
theorem zgI_54_1 {σ : zm_Sig} : zm_gI zL σ 54 1 = some (σ.1 54 1) := zgI_54 (j := 1) (by decide)
theorem zsI_54 {σ : zm_Sig} {j : Nat} {v : Int32} (hj : j < 20) : zm_sI zL σ 54 (nI j) v = some (zm_wI σ 54 j v) := zsI rfl hj (by decide)
theorem zsI_54_0 {σ : zm_Sig} {v : Int32} : zm_sI zL σ 54 0 v = some (zm_wI σ 54 0 v) := zsI_54 (j := 0) (by decide)
theorem zsI_54_1 {σ : zm_Sig} {v : Int32} : zm_sI zL σ 54 1 v = some (zm_wI σ 54 1 v) := zsI_54 (j := 1) (by decide)
theorem zgI_55 {σ : zm_Sig} {j : Nat} (hj : j < 20) : zm_gI zL σ 55 (nI j) = some (σ.1 55 j) := zgI rfl hj (by decide)
theorem zgI_55_0 {σ : zm_Sig} : zm_gI zL σ 55 0 = some (σ.1 55 0) := zgI_55 (j := 0) (by decide)
theorem zgI_55_1 {σ : zm_Sig} : zm_gI zL σ 55 1 = some (σ.1 55 1) := zgI_55 (j := 1) (by decide)
theorem zsI_55 {σ : zm_Sig} {j : Nat} {v : Int32} (hj : j < 20) : zm_sI zL σ 55 (nI j) v = some (zm_wI σ 55 j v) := zsI rfl hj (by decide)
theorem zsI_55_0 {σ : zm_Sig} {v : Int32} : zm_sI zL σ 55 0 v = some (zm_wI σ 55 0 v) := zsI_55 (j := 0) (by decide)
theorem zsI_55_1 {σ : zm_Sig} {v : Int32} : zm_sI zL σ 55 1 v = some (zm_wI σ 55 1 v) := zsI_55 (j := 1) (by decide)
theorem zgI_58 {σ : zm_Sig} {j : Nat} (hj : j < 400) : zm_gI zL σ 58 (nI j) = some (σ.1 58 j) := zgI rfl hj (by decide)
theorem zgI_58_0 {σ : zm_Sig} : zm_gI zL σ 58 0 = some (σ.1 58 0) := zgI_58 (j := 0) (by decide)
theorem zgI_58_1 {σ : zm_Sig} : zm_gI zL σ 58 1 = some (σ.1 58 1) := zgI_58 (j := 1) (by decide)
theorem zsI_58 {σ : zm_Sig} {j : Nat} {v : Int32} (hj : j < 400) : zm_sI zL σ 58 (nI j) v = some (zm_wI σ 58 j v) := zsI rfl hj (by decide)
theorem zsI_58_0 {σ : zm_Sig} {v : Int32} : zm_sI zL σ 58 0 v = some (zm_wI σ 58 0 v) := zsI_58 (j := 0) (by decide)
theorem zsI_58_1 {σ : zm_Sig} {v : Int32} : zm_sI zL σ 58 1 v = some (zm_wI σ 58 1 v) := zsI_58 (j := 1) (by decide)
theorem zgI_76 {σ : zm_Sig} {j : Nat} (hj : j < 6) : zm_gI zL σ 76 (nI j) = some (σ.1 76 j) := zgI rfl hj (by decide)
theorem zgI_76_0 {σ : zm_Sig} : zm_gI zL σ 76 0 = some (σ.1 76 0) := zgI_76 (j := 0) (by decide)
theorem zgI_76_1 {σ : zm_Sig} : zm_gI zL σ 76 1 = some (σ.1 76 1) := zgI_76 (j := 1) (by decide)
theorem zsI_76 {σ : zm_Sig} {j : Nat} {v : Int32} (hj : j < 6) : zm_sI zL σ 76 (nI j) v = some (zm_wI σ 76 j v) := zsI rfl hj (by decide)
theorem zsI_76_0 {σ : zm_Sig} {v : Int32} : zm_sI zL σ 76 0 v = some (zm_wI σ 76 0 v) := zsI_76 (j := 0) (by decide)
theorem zsI_76_1 {σ : zm_Sig} {v : Int32} : zm_sI zL σ 76 1 v = some (zm_wI σ 76 1 v) := zsI_76 (j := 1) (by decide)
theorem zgI_79 {σ : zm_Sig} {j : Nat} (hj : j < 4) : zm_gI zL σ 79 (nI j) = some (σ.1 79 j) := zgI rfl hj (by decide)
theorem zgI_79_0 {σ : zm_Sig} : zm_gI zL σ 79 0 = some (σ.1 79 0) := zgI_79 (j := 0) (by decide)
theorem zgI_79_1 {σ : zm_Sig} : zm_gI zL σ 79 1 = some (σ.1 79 1) := zgI_79 (j := 1) (by decide)
theorem zsI_79 {σ : zm_Sig} {j : Nat} {v : Int32} (hj : j < 4) : zm_sI zL σ 79 (nI j) v = some (zm_wI σ 79 j v) := zsI rfl hj (by decide)
theorem zsI_79_0 {σ : zm_Sig} {v : Int32} : zm_sI zL σ 79 0 v = some (zm_wI σ 79 0 v) := zsI_79 (j := 0) (by decide)
theorem zsI_79_1 {σ : zm_Sig} {v : Int32} : zm_sI zL σ 79 1 v = some (zm_wI σ 79 1 v) := zsI_79 (j := 1) (by decide)
theorem zgI_119 {σ : zm_Sig} {j : Nat} (hj : j < 6) : zm_gI zL σ 119 (nI j) = some (σ.1 119 j) := zgI rfl hj (by decide)
theorem zgI_119_0 {σ : zm_Sig} : zm_gI zL σ 119 0 = some (σ.1 119 0) := zgI_119 (j := 0) (by decide)
theorem zgI_119_1 {σ : zm_Sig} : zm_gI zL σ 119 1 = some (σ.1 119 1) := zgI_119 (j := 1) (by decide)
theorem zsI_119 {σ : zm_Sig} {j : Nat} {v : Int32} (hj : j < 6) : zm_sI zL σ 119 (nI j) v = some (zm_wI σ 119 j v) := zsI rfl hj (by decide)
theorem zsI_119_0 {σ : zm_Sig} {v : Int32} : zm_sI zL σ 119 0 v = some (zm_wI σ 119 0 v) := zsI_119 (j := 0) (by decide)
theorem zsI_119_1 {σ : zm_Sig} {v : Int32} : zm_sI zL σ 119 1 v = some (zm_wI σ 119 1 v) := zsI_119 (j := 1) (by decide)
theorem zgI_120 {σ : zm_Sig} {j : Nat} (hj : j < 240) : zm_gI zL σ 120 (nI j) = some (σ.1 120 j) := zgI rfl hj (by decide)
theorem zgI_120_0 {σ : zm_Sig} : zm_gI zL σ 120 0 = some (σ.1 120 0) := zgI_120 (j := 0) (by decide)
theorem zgI_120_1 {σ : zm_Sig} : zm_gI zL σ 120 1 = some (σ.1 120 1) := zgI_120 (j := 1) (by decide)
theorem zsI_120 {σ : zm_Sig} {j : Nat} {v : Int32} (hj : j < 240) : zm_sI zL σ 120 (nI j) v = some (zm_wI σ 120 j v) := zsI rfl hj (by decide)
theorem zsI_120_0 {σ : zm_Sig} {v : Int32} : zm_sI zL σ 120 0 v = some (zm_wI σ 120 0 v) := zsI_120 (j := 0) (by decide)
theorem zsI_120_1 {σ : zm_Sig} {v : Int32} : zm_sI zL σ 120 1 v = some (zm_wI σ 120 1 v) := zsI_120 (j := 1) (by decide)
theorem zgI_121 {σ : zm_Sig} {j : Nat} (hj : j < 4) : zm_gI zL σ 121 (nI j) = some (σ.1 121 j) := zgI rfl hj (by decide)
theorem zgI_121_0 {σ : zm_Sig} : zm_gI zL σ 121 0 = some (σ.1 121 0) := zgI_121 (j := 0) (by decide)
theorem zgI_121_1 {σ : zm_Sig} : zm_gI zL σ 121 1 = some (σ.1 121 1) := zgI_121 (j := 1) (by decide)
theorem zsI_121 {σ : zm_Sig} {j : Nat} {v : Int32} (hj : j < 4) : zm_sI zL σ 121 (nI j) v = some (zm_wI σ 121 j v) := zsI rfl hj (by decide)
theorem zsI_121_0 {σ : zm_Sig} {v : Int32} : zm_sI zL σ 121 0 v = some (zm_wI σ 121 0 v) := zsI_121 (j := 0) (by decide)
theorem zsI_121_1 {σ : zm_Sig} {v : Int32} : zm_sI zL σ 121 1 v = some (zm_wI σ 121 1 v) := zsI_121 (j := 1) (by decide)
theorem zgI_122 {σ : zm_Sig} {j : Nat} (hj : j < 240) : zm_gI zL σ 122 (nI j) = some (σ.1 122 j) := zgI rfl hj (by decide)
theorem zgI_122_0 {σ : zm_Sig} : zm_gI zL σ 122 0 = some (σ.1 122 0) := zgI_122 (j := 0) (by decide)
theorem zgI_122_1 {σ : zm_Sig} : zm_gI zL σ 122 1 = some (σ.1 122 1) := zgI_122 (j := 1) (by decide)
theorem zsI_122 {σ : zm_Sig} {j : Nat} {v : Int32} (hj : j < 240) : zm_sI zL σ 122 (nI j) v = some (zm_wI σ 122 j v) := zsI rfl hj (by decide)
theorem zsI_122_0 {σ : zm_Sig} {v : Int32} : zm_sI zL σ 122 0 v = some (zm_wI σ 122 0 v) := zsI_122 (j := 0) (by decide)
theorem zsI_122_1 {σ : zm_Sig} {v : Int32} : zm_sI zL σ 122 1 v = some (zm_wI σ 122 1 v) := zsI_122 (j := 1) (by decide)
theorem zgI_123 {σ : zm_Sig} {j : Nat} (hj : j < 15) : zm_gI zL σ 123 (nI j) = some (σ.1 123 j) := zgI rfl hj (by decide)
theorem zgI_123_0 {σ : zm_Sig} : zm_gI zL σ 123 0 = some (σ.1 123 0) := zgI_123 (j := 0) (by decide)
theorem zgI_123_1 {σ : zm_Sig} : zm_gI zL σ 123 1 = some (σ.1 123 1) := zgI_123 (j := 1) (by decide)
theorem zsI_123 {σ : zm_Sig} {j : Nat} {v : Int32} (hj : j < 15) : zm_sI zL σ 123 (nI j) v = some (zm_wI σ 123 j v) := zsI rfl hj (by decide)
theorem zsI_123_0 {σ : zm_Sig} {v : Int32} : zm_sI zL σ 123 0 v = some (zm_wI σ 123 0 v) := zsI_123 (j := 0) (by decide)
theorem zsI_123_1 {σ : zm_Sig} {v : Int32} : zm_sI zL σ 123 1 v = some (zm_wI σ 123 1 v) := zsI_123 (j := 1) (by decide)
theorem zgI_124 {σ : zm_Sig} {j : Nat} (hj : j < 15) : zm_gI zL σ 124 (nI j) = some (σ.1 124 j) := zgI rfl hj (by decide)
theorem zgI_124_0 {σ : zm_Sig} : zm_gI zL σ 124 0 = some (σ.1 124 0) := zgI_124 (j := 0) (by decide)
theorem zgI_124_1 {σ : zm_Sig} : zm_gI zL σ 124 1 = some (σ.1 124 1) := zgI_124 (j := 1) (by decide)
theorem zsI_124 {σ : zm_Sig} {j : Nat} {v : Int32} (hj : j < 15) : zm_sI zL σ 124 (nI j) v = some (zm_wI σ 124 j v) := zsI rfl hj (by decide)
theorem zsI_124_0 {σ : zm_Sig} {v : Int32} : zm_sI zL σ 124 0 v = some (zm_wI σ 124 0 v) := zsI_124 (j := 0) (by decide)
theorem zsI_124_1 {σ : zm_Sig} {v : Int32} : zm_sI zL σ 124 1 v = some (zm_wI σ 124 1 v) := zsI_124 (j := 1) (by decide)
theorem zgI_125 {σ : zm_Sig} {j : Nat} (hj : j < 3) : zm_gI zL σ 125 (nI j) = some (σ.1 125 j) := zgI rfl hj (by decide)
theorem zgI_125_0 {σ : zm_Sig} : zm_gI zL σ 125 0 = some (σ.1 125 0) := zgI_125 (j := 0) (by decide)
theorem zgI_125_1 {σ : zm_Sig} : zm_gI zL σ 125 1 = some (σ.1 125 1) := zgI_125 (j := 1) (by decide)
theorem zsI_125 {σ : zm_Sig} {j : Nat} {v : Int32} (hj : j < 3) : zm_sI zL σ 125 (nI j) v = some (zm_wI σ 125 j v) := zsI rfl hj (by decide)
theorem zsI_125_0 {σ : zm_Sig} {v : Int32} : zm_sI zL σ 125 0 v = some (zm_wI σ 125 0 v) := zsI_125 (j := 0) (by decide)
theorem zsI_125_1 {σ : zm_Sig} {v : Int32} : zm_sI zL σ 125 1 v = some (zm_wI σ 125 1 v) := zsI_125 (j := 1) (by decide)
theorem zgI_126 {σ : zm_Sig} {j : Nat} (hj : j < 24) : zm_gI zL σ 126 (nI j) = some (σ.1 126 j) := zgI rfl hj (by decide)
theorem zgI_126_0 {σ : zm_Sig} : zm_gI zL σ 126 0 = some (σ.1 126 0) := zgI_126 (j := 0) (by decide)
theorem zgI_126_1 {σ : zm_Sig} : zm_gI zL σ 126 1 = some (σ.1 126 1) := zgI_126 (j := 1) (by decide)
theorem zsI_126 {σ : zm_Sig} {j : Nat} {v : Int32} (hj : j < 24) : zm_sI zL σ 126 (nI j) v = some (zm_wI σ 126 j v) := zsI rfl hj (by decide)
theorem zsI_126_0 {σ : zm_Sig} {v : Int32} : zm_sI zL σ 126 0 v = some (zm_wI σ 126 0 v) := zsI_126 (j := 0) (by decide)
theorem zsI_126_1 {σ : zm_Sig} {v : Int32} : zm_sI zL σ 126 1 v = some (zm_wI σ 126 1 v) := zsI_126 (j := 1) (by decide)
theorem zgI_127 {σ : zm_Sig} {j : Nat} (hj : j < 5) : zm_gI zL σ 127 (nI j) = some (σ.1 127 j) := zgI rfl hj (by decide)
theorem zgI_127_0 {σ : zm_Sig} : zm_gI zL σ 127 0 = some (σ.1 127 0) := zgI_127 (j := 0) (by decide)
theorem zgI_127_1 {σ : zm_Sig} : zm_gI zL σ 127 1 = some (σ.1 127 1) := zgI_127 (j := 1) (by decide)
theorem zsI_127 {σ : zm_Sig} {j : Nat} {v : Int32} (hj : j < 5) : zm_sI zL σ 127 (nI j) v = some (zm_wI σ 127 j v) := zsI rfl hj (by decide)
theorem zsI_127_0 {σ : zm_Sig} {v : Int32} : zm_sI zL σ 127 0 v = some (zm_wI σ 127 0 v) := zsI_127 (j := 0) (by decide)
theorem zsI_127_1 {σ : zm_Sig} {v : Int32} : zm_sI zL σ 127 1 v = some (zm_wI σ 127 1 v) := zsI_127 (j := 1) (by decide)
theorem zgI_128 {σ : zm_Sig} {j : Nat} (hj : j < 5) : zm_gI zL σ 128 (nI j) = some (σ.1 128 j) := zgI rfl hj (by decide)
theorem zgI_128_0 {σ : zm_Sig} : zm_gI zL σ 128 0 = some (σ.1 128 0) := zgI_128 (j := 0) (by decide)
theorem zgI_128_1 {σ : zm_Sig} : zm_gI zL σ 128 1 = some (σ.1 128 1) := zgI_128 (j := 1) (by decide)
theorem zsI_128 {σ : zm_Sig} {j : Nat} {v : Int32} (hj : j < 5) : zm_sI zL σ 128 (nI j) v = some (zm_wI σ 128 j v) := zsI rfl hj (by decide)
theorem zsI_128_0 {σ : zm_Sig} {v : Int32} : zm_sI zL σ 128 0 v = some (zm_wI σ 128 0 v) := zsI_128 (j := 0) (by decide)
theorem zsI_128_1 {σ : zm_Sig} {v : Int32} : zm_sI zL σ 128 1 v = some (zm_wI σ 128 1 v) := zsI_128 (j := 1) (by decide)
theorem zgI_129 {σ : zm_Sig} {j : Nat} (hj : j < 5) : zm_gI zL σ 129 (nI j) = some (σ.1 129 j) := zgI rfl hj (by decide)
theorem zgI_129_0 {σ : zm_Sig} : zm_gI zL σ 129 0 = some (σ.1 129 0) := zgI_129 (j := 0) (by decide)
theorem zgI_129_1 {σ : zm_Sig} : zm_gI zL σ 129 1 = some (σ.1 129 1) := zgI_129 (j := 1) (by decide)
theorem zsI_129 {σ : zm_Sig} {j : Nat} {v : Int32} (hj : j < 5) : zm_sI zL σ 129 (nI j) v = some (zm_wI σ 129 j v) := zsI rfl hj (by decide)
theorem zsI_129_0 {σ : zm_Sig} {v : Int32} : zm_sI zL σ 129 0 v = some (zm_wI σ 129 0 v) := zsI_129 (j := 0) (by decide)
theorem zsI_129_1 {σ : zm_Sig} {v : Int32} : zm_sI zL σ 129 1 v = some (zm_wI σ 129 1 v) := zsI_129 (j := 1) (by decide)
theorem zgI_130 {σ : zm_Sig} {j : Nat} (hj : j < 5) : zm_gI zL σ 130 (nI j) = some (σ.1 130 j) := zgI rfl hj (by decide)
theorem zgI_130_0 {σ : zm_Sig} : zm_gI zL σ 130 0 = some (σ.1 130 0) := zgI_130 (j := 0) (by decide)
theorem zgI_130_1 {σ : zm_Sig} : zm_gI zL σ 130 1 = some (σ.1 130 1) := zgI_130 (j := 1) (by decide)
theorem zsI_130 {σ : zm_Sig} {j : Nat} {v : Int32} (hj : j < 5) : zm_sI zL σ 130 (nI j) v = some (zm_wI σ 130 j v) := zsI rfl hj (by decide)
theorem zsI_130_0 {σ : zm_Sig} {v : Int32} : zm_sI zL σ 130 0 v = some (zm_wI σ 130 0 v) := zsI_130 (j := 0) (by decide)
theorem zsI_130_1 {σ : zm_Sig} {v : Int32} : zm_sI zL σ 130 1 v = some (zm_wI σ 130 1 v) := zsI_130 (j := 1) (by decide)
theorem zgI_131 {σ : zm_Sig} {j : Nat} (hj : j < 5) : zm_gI zL σ 131 (nI j) = some (σ.1 131 j) := zgI rfl hj (by decide)
theorem zgI_131_0 {σ : zm_Sig} : zm_gI zL σ 131 0 = some (σ.1 131 0) := zgI_131 (j := 0) (by decide)
theorem zgI_131_1 {σ : zm_Sig} : zm_gI zL σ 131 1 = some (σ.1 131 1) := zgI_131 (j := 1) (by decide)
theorem zsI_131 {σ : zm_Sig} {j : Nat} {v : Int32} (hj : j < 5) : zm_sI zL σ 131 (nI j) v = some (zm_wI σ 131 j v) := zsI rfl hj (by decide)
theorem zsI_131_0 {σ : zm_Sig} {v : Int32} : zm_sI zL σ 131 0 v = some (zm_wI σ 131 0 v) := zsI_131 (j := 0) (by decide)
theorem zsI_131_1 {σ : zm_Sig} {v : Int32} : zm_sI zL σ 131 1 v = some (zm_wI σ 131 1 v) := zsI_131 (j := 1) (by decide)
theorem zgI_132 {σ : zm_Sig} {j : Nat} (hj : j < 15) : zm_gI zL σ 132 (nI j) = some (σ.1 132 j) := zgI rfl hj (by decide)
theorem zgI_132_0 {σ : zm_Sig} : zm_gI zL σ 132 0 = some (σ.1 132 0) := zgI_132 (j := 0) (by decide)
theorem zgI_132_1 {σ : zm_Sig} : zm_gI zL σ 132 1 = some (σ.1 132 1) := zgI_132 (j := 1) (by decide)
theorem zsI_132 {σ : zm_Sig} {j : Nat} {v : Int32} (hj : j < 15) : zm_sI zL σ 132 (nI j) v = some (zm_wI σ 132 j v) := zsI rfl hj (by decide)
theorem zsI_132_0 {σ : zm_Sig} {v : Int32} : zm_sI zL σ 132 0 v = some (zm_wI σ 132 0 v) := zsI_132 (j := 0) (by decide)
theorem zsI_132_1 {σ : zm_Sig} {v : Int32} : zm_sI zL σ 132 1 v = some (zm_wI σ 132 1 v) := zsI_132 (j := 1) (by decide)
theorem zgI_133 {σ : zm_Sig} {j : Nat} (hj : j < 15) : zm_gI zL σ 133 (nI j) = some (σ.1 133 j) := zgI rfl hj (by decide)
theorem zgI_133_0 {σ : zm_Sig} : zm_gI zL σ 133 0 = some (σ.1 133 0) := zgI_133 (j := 0) (by decide)
theorem zgI_133_1 {σ : zm_Sig} : zm_gI zL σ 133 1 = some (σ.1 133 1) := zgI_133 (j := 1) (by decide)
theorem zsI_133 {σ : zm_Sig} {j : Nat} {v : Int32} (hj : j < 15) : zm_sI zL σ 133 (nI j) v = some (zm_wI σ 133 j v) := zsI rfl hj (by decide)
theorem zsI_133_0 {σ : zm_Sig} {v : Int32} : zm_sI zL σ 133 0 v = some (zm_wI σ 133 0 v) := zsI_133 (j := 0) (by decide)
theorem zsI_133_1 {σ : zm_Sig} {v : Int32} : zm_sI zL σ 133 1 v = some (zm_wI σ 133 1 v) := zsI_133 (j := 1) (by decide)
theorem zgI_134 {σ : zm_Sig} {j : Nat} (hj : j < 16) : zm_gI zL σ 134 (nI j) = some (σ.1 134 j) := zgI rfl hj (by decide)
theorem zgI_134_0 {σ : zm_Sig} : zm_gI zL σ 134 0 = some (σ.1 134 0) := zgI_134 (j := 0) (by decide)
theorem zgI_134_1 {σ : zm_Sig} : zm_gI zL σ 134 1 = some (σ.1 134 1) := zgI_134 (j := 1) (by decide)
theorem zsI_134 {σ : zm_Sig} {j : Nat} {v : Int32} (hj : j < 16) : zm_sI zL σ 134 (nI j) v = some (zm_wI σ 134 j v) := zsI rfl hj (by decide)
theorem zsI_134_0 {σ : zm_Sig} {v : Int32} : zm_sI zL σ 134 0 v = some (zm_wI σ 134 0 v) := zsI_134 (j := 0) (by decide)
theorem zsI_134_1 {σ : zm_Sig} {v : Int32} : zm_sI zL σ 134 1 v = some (zm_wI σ 134 1 v) := zsI_134 (j := 1) (by decide)
theorem zgI_135 {σ : zm_Sig} {j : Nat} (hj : j < 258) : zm_gI zL σ 135 (nI j) = some (σ.1 135 j) := zgI rfl hj (by decide)
theorem zgI_135_0 {σ : zm_Sig} : zm_gI zL σ 135 0 = some (σ.1 135 0) := zgI_135 (j := 0) (by decide)
theorem zgI_135_1 {σ : zm_Sig} : zm_gI zL σ 135 1 = some (σ.1 135 1) := zgI_135 (j := 1) (by decide)
theorem zsI_135 {σ : zm_Sig} {j : Nat} {v : Int32} (hj : j < 258) : zm_sI zL σ 135 (nI j) v = some (zm_wI σ 135 j v) := zsI rfl hj (by decide)
theorem zsI_135_0 {σ : zm_Sig} {v : Int32} : zm_sI zL σ 135 0 v = some (zm_wI σ 135 0 v) := zsI_135 (j := 0) (by decide)
theorem zsI_135_1 {σ : zm_Sig} {v : Int32} : zm_sI zL σ 135 1 v = some (zm_wI σ 135 1 v) := zsI_135 (j := 1) (by decide)
theorem zgI_136 {σ : zm_Sig} {j : Nat} (hj : j < 5160) : zm_gI zL σ 136 (nI j) = some (σ.1 136 j) := zgI rfl hj (by decide)
theorem zgI_136_0 {σ : zm_Sig} : zm_gI zL σ 136 0 = some (σ.1 136 0) := zgI_136 (j := 0) (by decide)
theorem zgI_136_1 {σ : zm_Sig} : zm_gI zL σ 136 1 = some (σ.1 136 1) := zgI_136 (j := 1) (by decide)
theorem zsI_136 {σ : zm_Sig} {j : Nat} {v : Int32} (hj : j < 5160) : zm_sI zL σ 136 (nI j) v = some (zm_wI σ 136 j v) := zsI rfl hj (by decide)
theorem zsI_136_0 {σ : zm_Sig} {v : Int32} : zm_sI zL σ 136 0 v = some (zm_wI σ 136 0 v) := zsI_136 (j := 0) (by decide)
theorem zsI_136_1 {σ : zm_Sig} {v : Int32} : zm_sI zL σ 136 1 v = some (zm_wI σ 136 1 v) := zsI_136 (j := 1) (by decide)
theorem zgI_137 {σ : zm_Sig} {j : Nat} (hj : j < 16257) : zm_gI zL σ 137 (nI j) = some (σ.1 137 j) := zgI rfl hj (by decide)
theorem zgI_137_0 {σ : zm_Sig} : zm_gI zL σ 137 0 = some (σ.1 137 0) := zgI_137 (j := 0) (by decide)
theorem zgI_137_1 {σ : zm_Sig} : zm_gI zL σ 137 1 = some (σ.1 137 1) := zgI_137 (j := 1) (by decide)
theorem zsI_137 {σ : zm_Sig} {j : Nat} {v : Int32} (hj : j < 16257) : zm_sI zL σ 137 (nI j) v = some (zm_wI σ 137 j v) := zsI rfl hj (by decide)
theorem zsI_137_0 {σ : zm_Sig} {v : Int32} : zm_sI zL σ 137 0 v = some (zm_wI σ 137 0 v) := zsI_137 (j := 0) (by decide)
theorem zsI_137_1 {σ : zm_Sig} {v : Int32} : zm_sI zL σ 137 1 v = some (zm_wI σ 137 1 v) := zsI_137 (j := 1) (by decide)
theorem zgI_139 {σ : zm_Sig} {j : Nat} (hj : j < 6) : zm_gI zL σ 139 (nI j) = some (σ.1 139 j) := zgI rfl hj (by decide)
theorem zgI_139_0 {σ : zm_Sig} : zm_gI zL σ 139 0 = some (σ.1 139 0) := zgI_139 (j := 0) (by decide)
theorem zgI_139_1 {σ : zm_Sig} : zm_gI zL σ 139 1 = some (σ.1 139 1) := zgI_139 (j := 1) (by decide)
theorem zsI_139 {σ : zm_Sig} {j : Nat} {v : Int32} (hj : j < 6) : zm_sI zL σ 139 (nI j) v = some (zm_wI σ 139 j v) := zsI rfl hj (by decide)
theorem zsI_139_0 {σ : zm_Sig} {v : Int32} : zm_sI zL σ 139 0 v = some (zm_wI σ 139 0 v) := zsI_139 (j := 0) (by decide)
theorem zsI_139_1 {σ : zm_Sig} {v : Int32} : zm_sI zL σ 139 1 v = some (zm_wI σ 139 1 v) := zsI_139 (j := 1) (by decide)
theorem zgI_140 {σ : zm_Sig} {j : Nat} (hj : j < 15) : zm_gI zL σ 140 (nI j) = some (σ.1 140 j) := zgI rfl hj (by decide)
theorem zgI_140_0 {σ : zm_Sig} : zm_gI zL σ 140 0 = some (σ.1 140 0) := zgI_140 (j := 0) (by decide)
theorem zgI_140_1 {σ : zm_Sig} : zm_gI zL σ 140 1 = some (σ.1 140 1) := zgI_140 (j := 1) (by decide)
theorem zsI_140 {σ : zm_Sig} {j : Nat} {v : Int32} (hj : j < 15) : zm_sI zL σ 140 (nI j) v = some (zm_wI σ 140 j v) := zsI rfl hj (by decide)
theorem zsI_140_0 {σ : zm_Sig} {v : Int32} : zm_sI zL σ 140 0 v = some (zm_wI σ 140 0 v) := zsI_140 (j := 0) (by decide)
theorem zsI_140_1 {σ : zm_Sig} {v : Int32} : zm_sI zL σ 140 1 v = some (zm_wI σ 140 1 v) := zsI_140 (j := 1) (by decide)
theorem zgI_141 {σ : zm_Sig} {j : Nat} (hj : j < 15) : zm_gI zL σ 141 (nI j) = some (σ.1 141 j) := zgI rfl hj (by decide)
theorem zgI_141_0 {σ : zm_Sig} : zm_gI zL σ 141 0 = some (σ.1 141 0) := zgI_141 (j := 0) (by decide)
theorem zgI_141_1 {σ : zm_Sig} : zm_gI zL σ 141 1 = some (σ.1 141 1) := zgI_141 (j := 1) (by decide)
theorem zsI_141 {σ : zm_Sig} {j : Nat} {v : Int32} (hj : j < 15) : zm_sI zL σ 141 (nI j) v = some (zm_wI σ 141 j v) := zsI rfl hj (by decide)
theorem zsI_141_0 {σ : zm_Sig} {v : Int32} : zm_sI zL σ 141 0 v = some (zm_wI σ 141 0 v) := zsI_141 (j := 0) (by decide)
theorem zsI_141_1 {σ : zm_Sig} {v : Int32} : zm_sI zL σ 141 1 v = some (zm_wI σ 141 1 v) := zsI_141 (j := 1) (by decide)
theorem zgI_142 {σ : zm_Sig} {j : Nat} (hj : j < 3) : zm_gI zL σ 142 (nI j) = some (σ.1 142 j) := zgI rfl hj (by decide)
theorem zgI_142_0 {σ : zm_Sig} : zm_gI zL σ 142 0 = some (σ.1 142 0) := zgI_142 (j := 0) (by decide)
theorem zgI_142_1 {σ : zm_Sig} : zm_gI zL σ 142 1 = some (σ.1 142 1) := zgI_142 (j := 1) (by decide)
theorem zsI_142 {σ : zm_Sig} {j : Nat} {v : Int32} (hj : j < 3) : zm_sI zL σ 142 (nI j) v = some (zm_wI σ 142 j v) := zsI rfl hj (by decide)
theorem zsI_142_0 {σ : zm_Sig} {v : Int32} : zm_sI zL σ 142 0 v = some (zm_wI σ 142 0 v) := zsI_142 (j := 0) (by decide)
theorem zsI_142_1 {σ : zm_Sig} {v : Int32} : zm_sI zL σ 142 1 v = some (zm_wI σ 142 1 v) := zsI_142 (j := 1) (by decide)
theorem zgI_143 {σ : zm_Sig} {j : Nat} (hj : j < 24) : zm_gI zL σ 143 (nI j) = some (σ.1 143 j) := zgI rfl hj (by decide)
theorem zgI_143_0 {σ : zm_Sig} : zm_gI zL σ 143 0 = some (σ.1 143 0) := zgI_143 (j := 0) (by decide)
theorem zgI_143_1 {σ : zm_Sig} : zm_gI zL σ 143 1 = some (σ.1 143 1) := zgI_143 (j := 1) (by decide)
theorem zsI_143 {σ : zm_Sig} {j : Nat} {v : Int32} (hj : j < 24) : zm_sI zL σ 143 (nI j) v = some (zm_wI σ 143 j v) := zsI rfl hj (by decide)
theorem zsI_143_0 {σ : zm_Sig} {v : Int32} : zm_sI zL σ 143 0 v = some (zm_wI σ 143 0 v) := zsI_143 (j := 0) (by decide)
theorem zsI_143_1 {σ : zm_Sig} {v : Int32} : zm_sI zL σ 143 1 v = some (zm_wI σ 143 1 v) := zsI_143 (j := 1) (by decide)
theorem zgI_144 {σ : zm_Sig} {j : Nat} (hj : j < 700) : zm_gI zL σ 144 (nI j) = some (σ.1 144 j) := zgI rfl hj (by decide)
theorem zgI_144_0 {σ : zm_Sig} : zm_gI zL σ 144 0 = some (σ.1 144 0) := zgI_144 (j := 0) (by decide)
theorem zgI_144_1 {σ : zm_Sig} : zm_gI zL σ 144 1 = some (σ.1 144 1) := zgI_144 (j := 1) (by decide)
theorem zsI_144 {σ : zm_Sig} {j : Nat} {v : Int32} (hj : j < 700) : zm_sI zL σ 144 (nI j) v = some (zm_wI σ 144 j v) := zsI rfl hj (by decide)
theorem zsI_144_0 {σ : zm_Sig} {v : Int32} : zm_sI zL σ 144 0 v = some (zm_wI σ 144 0 v) := zsI_144 (j := 0) (by decide)
theorem zsI_144_1 {σ : zm_Sig} {v : Int32} : zm_sI zL σ 144 1 v = some (zm_wI σ 144 1 v) := zsI_144 (j := 1) (by decide)
theorem zgI_145 {σ : zm_Sig} {j : Nat} (hj : j < 5) : zm_gI zL σ 145 (nI j) = some (σ.1 145 j) := zgI rfl hj (by decide)
theorem zgI_145_0 {σ : zm_Sig} : zm_gI zL σ 145 0 = some (σ.1 145 0) := zgI_145 (j := 0) (by decide)
theorem zgI_145_1 {σ : zm_Sig} : zm_gI zL σ 145 1 = some (σ.1 145 1) := zgI_145 (j := 1) (by decide)
theorem zsI_145 {σ : zm_Sig} {j : Nat} {v : Int32} (hj : j < 5) : zm_sI zL σ 145 (nI j) v = some (zm_wI σ 145 j v) := zsI rfl hj (by decide)
theorem zsI_145_0 {σ : zm_Sig} {v : Int32} : zm_sI zL σ 145 0 v = some (zm_wI σ 145 0 v) := zsI_145 (j := 0) (by decide)
theorem zsI_145_1 {σ : zm_Sig} {v : Int32} : zm_sI zL σ 145 1 v = some (zm_wI σ 145 1 v) := zsI_145 (j := 1) (by decide)
theorem zgI_146 {σ : zm_Sig} {j : Nat} (hj : j < 16) : zm_gI zL σ 146 (nI j) = some (σ.1 146 j) := zgI rfl hj (by decide)
theorem zgI_146_0 {σ : zm_Sig} : zm_gI zL σ 146 0 = some (σ.1 146 0) := zgI_146 (j := 0) (by decide)
theorem zgI_146_1 {σ : zm_Sig} : zm_gI zL σ 146 1 = some (σ.1 146 1) := zgI_146 (j := 1) (by decide)
theorem zsI_146 {σ : zm_Sig} {j : Nat} {v : Int32} (hj : j < 16) : zm_sI zL σ 146 (nI j) v = some (zm_wI σ 146 j v) := zsI rfl hj (by decide)
theorem zsI_146_0 {σ : zm_Sig} {v : Int32} : zm_sI zL σ 146 0 v = some (zm_wI σ 146 0 v) := zsI_146 (j := 0) (by decide)
theorem zsI_146_1 {σ : zm_Sig} {v : Int32} : zm_sI zL σ 146 1 v = some (zm_wI σ 146 1 v) := zsI_146 (j := 1) (by decide)
theorem zgI_147 {σ : zm_Sig} {j : Nat} (hj : j < 240) : zm_gI zL σ 147 (nI j) = some (σ.1 147 j) := zgI rfl hj (by decide)
theorem zgI_147_0 {σ : zm_Sig} : zm_gI zL σ 147 0 = some (σ.1 147 0) := zgI_147 (j := 0) (by decide)
theorem zgI_147_1 {σ : zm_Sig} : zm_gI zL σ 147 1 = some (σ.1 147 1) := zgI_147 (j := 1) (by decide)
theorem zsI_147 {σ : zm_Sig} {j : Nat} {v : Int32} (hj : j < 240) : zm_sI zL σ 147 (nI j) v = some (zm_wI σ 147 j v) := zsI rfl hj (by decide)
theorem zsI_147_0 {σ : zm_Sig} {v : Int32} : zm_sI zL σ 147 0 v = some (zm_wI σ 147 0 v) := zsI_147 (j := 0) (by decide)
theorem zsI_147_1 {σ : zm_Sig} {v : Int32} : zm_sI zL σ 147 1 v = some (zm_wI σ 147 1 v) := zsI_147 (j := 1) (by decide)
