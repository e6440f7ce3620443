/-! small rows with what follows -/
theorem zib_0 {β : Type} (f : Unit → Option β) : (zm_is zL 0 9).bind f = f () := rfl
theorem zib_1 {β : Type} (f : Unit → Option β) : (zm_is zL 1 5).bind f = f () := rfl
theorem zib_10 {β : Type} (f : Unit → Option β) : (zm_is zL 10 5).bind f = f () := rfl
theorem zib_17 {β : Type} (f : Unit → Option β) : (zm_is zL 17 3).bind f = f () := rfl
theorem zib_19 {β : Type} (f : Unit → Option β) : (zm_is zL 19 0).bind f = f () := rfl
theorem zib_20 {β : Type} (f : Unit → Option β) : (zm_is zL 20 7).bind f = f () := rfl
theorem zib_30 {β : Type} (f : Unit → Option β) : (zm_is zL 30 4).bind f = f () := rfl
theorem zib_48 {β : Type} (f : Unit → Option β) : (zm_is zL 48 8).bind f = f () := rfl
theorem zib_50 {β : Type} (f : Unit → Option β) : (zm_is zL 50 8).bind f = f () := rfl
theorem zib_52 {β : Type} (f : Unit → Option β) : (zm_is zL 52 6).bind f = f () := rfl
theorem zib_57 {β : Type} (f : Unit → Option β) : (zm_is zL 57 8).bind f = f () := rfl
theorem zib_59 {β : Type} (f : Unit → Option β) : (zm_is zL 59 2).bind f = f () := rfl
theorem zib_80 {β : Type} (f : Unit → Option β) : (zm_is zL 80 1).bind f = f () := rfl
theorem zib_93 {β : Type} (f : Unit → Option β) : (zm_is zL 93 1).bind f = f () := rfl
theorem zib_106 {β : Type} (f : Unit → Option β) : (zm_is zL 106 6).bind f = f () := rfl
theorem zib_110 {β : Type} (f : Unit → Option β) : (zm_is zL 110 6).bind f = f () := rfl
theorem zib_114 {β : Type} (f : Unit → Option β) : (zm_is zL 114 6).bind f = f () := rfl
theorem zib_118 {β : Type} (f : Unit → Option β) : (zm_is zL 118 10).bind f = f () := rfl
theorem zxb_0_0 {σ : zm_Sig} (h : zFix σ) {β : Type} (f : Nat → Option β) (g : Option β) : zm_opt (σ.2.2 0 0) f g = f 1 := by rw [zx_0_0 h]; rfl
theorem zxb_0_1 {σ : zm_Sig} (h : zFix σ) {β : Type} (f : Nat → Option β) (g : Option β) : zm_opt (σ.2.2 0 1) f g = f 10 := by rw [zx_0_1 h]; rfl
theorem zxb_0_2 {σ : zm_Sig} (h : zFix σ) {β : Type} (f : Nat → Option β) (g : Option β) : zm_opt (σ.2.2 0 2) f g = f 17 := by rw [zx_0_2 h]; rfl
theorem zxb_0_3 {σ : zm_Sig} (h : zFix σ) {β : Type} (f : Nat → Option β) (g : Option β) : zm_opt (σ.2.2 0 3) f g = f 19 := by rw [zx_0_3 h]; rfl
theorem zxb_0_4 {σ : zm_Sig} (h : zFix σ) {β : Type} (f : Nat → Option β) (g : Option β) : zm_opt (σ.2.2 0 4) f g = f 56 := by rw [zx_0_4 h]; rfl
theorem zxb_0_5 {σ : zm_Sig} (h : zFix σ) {β : Type} (f : Nat → Option β) (g : Option β) : zm_opt (σ.2.2 0 5) f g = f 57 := by rw [zx_0_5 h]; rfl
theorem zxb_0_6 {σ : zm_Sig} (h : zFix σ) {β : Type} (f : Nat → Option β) (g : Option β) : zm_opt (σ.2.2 0 6) f g = f 59 := by rw [zx_0_6 h]; rfl
theorem zxb_0_7 {σ : zm_Sig} (h : zFix σ) {β : Type} (f : Nat → Option β) (g : Option β) : zm_opt (σ.2.2 0 7) f g = f 76 := by rw [zx_0_7 h]; rfl
theorem zxb_0_8 {σ : zm_Sig} (h : zFix σ) {β : Type} (f : Nat → Option β) (g : Option β) : zm_opt (σ.2.2 0 8) f g = f 77 := by rw [zx_0_8 h]; rfl
theorem zxb_0_9 {σ : zm_Sig} (h : zFix σ) {β : Type} (f : Nat → Option β) (g : Option β) : zm_opt (σ.2.2 0 9) f g = f 78 := by rw [zx_0_9 h]; rfl
theorem zxb_0_10 {σ : zm_Sig} (h : zFix σ) {β : Type} (f : Nat → Option β) (g : Option β) : zm_opt (σ.2.2 0 10) f g = f 79 := by rw [zx_0_10 h]; rfl
theorem zxb_1_0 {σ : zm_Sig} (h : zFix σ) {β : Type} (f : Nat → Option β) (g : Option β) : zm_opt (σ.2.2 1 0) f g = f 2 := by rw [zx_1_0 h]; rfl
theorem zxb_1_1 {σ : zm_Sig} (h : zFix σ) {β : Type} (f : Nat → Option β) (g : Option β) : zm_opt (σ.2.2 1 1) f g = f 9 := by rw [zx_1_1 h]; rfl
theorem zxb_2_0 {σ : zm_Sig} (h : zFix σ) {β : Type} (f : Nat → Option β) (g : Option β) : zm_opt (σ.2.2 2 0) f g = f 3 := by rw [zx_2_0 h]; rfl
theorem zxb_2_1 {σ : zm_Sig} (h : zFix σ) {β : Type} (f : Nat → Option β) (g : Option β) : zm_opt (σ.2.2 2 1) f g = f 4 := by rw [zx_2_1 h]; rfl
theorem zxb_2_2 {σ : zm_Sig} (h : zFix σ) {β : Type} (f : Nat → Option β) (g : Option β) : zm_opt (σ.2.2 2 2) f g = f 5 := by rw [zx_2_2 h]; rfl
theorem zxb_2_3 {σ : zm_Sig} (h : zFix σ) {β : Type} (f : Nat → Option β) (g : Option β) : zm_opt (σ.2.2 2 3) f g = f 6 := by rw [zx_2_3 h]; rfl
theorem zxb_2_4 {σ : zm_Sig} (h : zFix σ) {β : Type} (f : Nat → Option β) (g : Option β) : zm_opt (σ.2.2 2 4) f g = f 7 := by rw [zx_2_4 h]; rfl
theorem zxb_2_5 {σ : zm_Sig} (h : zFix σ) {β : Type} (f : Nat → Option β) (g : Option β) : zm_opt (σ.2.2 2 5) f g = f 8 := by rw [zx_2_5 h]; rfl
theorem zxb_10_0 {σ : zm_Sig} (h : zFix σ) {β : Type} (f : Nat → Option β) (g : Option β) : zm_opt (σ.2.2 10 0) f g = f 11 := by rw [zx_10_0 h]; rfl
theorem zxb_10_1 {σ : zm_Sig} (h : zFix σ) {β : Type} (f : Nat → Option β) (g : Option β) : zm_opt (σ.2.2 10 1) f g = f 16 := by rw [zx_10_1 h]; rfl
theorem zxb_11_0 {σ : zm_Sig} (h : zFix σ) {β : Type} (f : Nat → Option β) (g : Option β) : zm_opt (σ.2.2 11 0) f g = f 12 := by rw [zx_11_0 h]; rfl
theorem zxb_11_1 {σ : zm_Sig} (h : zFix σ) {β : Type} (f : Nat → Option β) (g : Option β) : zm_opt (σ.2.2 11 1) f g = f 13 := by rw [zx_11_1 h]; rfl
theorem zxb_11_2 {σ : zm_Sig} (h : zFix σ) {β : Type} (f : Nat → Option β) (g : Option β) : zm_opt (σ.2.2 11 2) f g = f 14 := by rw [zx_11_2 h]; rfl
theorem zxb_11_3 {σ : zm_Sig} (h : zFix σ) {β : Type} (f : Nat → Option β) (g : Option β) : zm_opt (σ.2.2 11 3) f g = f 15 := by rw [zx_11_3 h]; rfl
theorem zxb_17_0 {σ : zm_Sig} (h : zFix σ) {β : Type} (f : Nat → Option β) (g : Option β) : zm_opt (σ.2.2 17 0) f g = f 18 := by rw [zx_17_0 h]; rfl
theorem zxb_19_0 {σ : zm_Sig} (h : zFix σ) {β : Type} (f : Nat → Option β) (g : Option β) : zm_opt (σ.2.2 19 0) f g = f 20 := by rw [zx_19_0 h]; rfl
theorem zxb_19_1 {σ : zm_Sig} (h : zFix σ) {β : Type} (f : Nat → Option β) (g : Option β) : zm_opt (σ.2.2 19 1) f g = f 30 := by rw [zx_19_1 h]; rfl
theorem zxb_19_2 {σ : zm_Sig} (h : zFix σ) {β : Type} (f : Nat → Option β) (g : Option β) : zm_opt (σ.2.2 19 2) f g = f 52 := by rw [zx_19_2 h]; rfl
theorem zxb_20_0 {σ : zm_Sig} (h : zFix σ) {β : Type} (f : Nat → Option β) (g : Option β) : zm_opt (σ.2.2 20 0) f g = f 21 := by rw [zx_20_0 h]; rfl
theorem zxb_20_1 {σ : zm_Sig} (h : zFix σ) {β : Type} (f : Nat → Option β) (g : Option β) : zm_opt (σ.2.2 20 1) f g = f 22 := by rw [zx_20_1 h]; rfl
theorem zxb_20_3 {σ : zm_Sig} (h : zFix σ) {β : Type} (f : Nat → Option β) (g : Option β) : zm_opt (σ.2.2 20 3) f g = f 23 := by rw [zx_20_3 h]; rfl
theorem zxb_20_4 {σ : zm_Sig} (h : zFix σ) {β : Type} (f : Nat → Option β) (g : Option β) : zm_opt (σ.2.2 20 4) f g = f 24 := by rw [zx_20_4 h]; rfl
theorem zxb_20_5 {σ : zm_Sig} (h : zFix σ) {β : Type} (f : Nat → Option β) (g : Option β) : zm_opt (σ.2.2 20 5) f g = f 25 := by rw [zx_20_5 h]; rfl
theorem zxb_20_6 {σ : zm_Sig} (h : zFix σ) {β : Type} (f : Nat → Option β) (g : Option β) : zm_opt (σ.2.2 20 6) f g = f 26 := by rw [zx_20_6 h]; rfl
theorem zxb_20_7 {σ : zm_Sig} (h : zFix σ) {β : Type} (f : Nat → Option β) (g : Option β) : zm_opt (σ.2.2 20 7) f g = f 27 := by rw [zx_20_7 h]; rfl
theorem zxb_20_8 {σ : zm_Sig} (h : zFix σ) {β : Type} (f : Nat → Option β) (g : Option β) : zm_opt (σ.2.2 20 8) f g = f 28 := by rw [zx_20_8 h]; rfl
theorem zxb_20_9 {σ : zm_Sig} (h : zFix σ) {β : Type} (f : Nat → Option β) (g : Option β) : zm_opt (σ.2.2 20 9) f g = f 29 := by rw [zx_20_9 h]; rfl
theorem zxb_30_0 {σ : zm_Sig} (h : zFix σ) {β : Type} (f : Nat → Option β) (g : Option β) : zm_opt (σ.2.2 30 0) f g = f 31 := by rw [zx_30_0 h]; rfl
theorem zxb_30_1 {σ : zm_Sig} (h : zFix σ) {β : Type} (f : Nat → Option β) (g : Option β) : zm_opt (σ.2.2 30 1) f g = f 47 := by rw [zx_30_1 h]; rfl
theorem zxb_30_4 {σ : zm_Sig} (h : zFix σ) {β : Type} (f : Nat → Option β) (g : Option β) : zm_opt (σ.2.2 30 4) f g = f 48 := by rw [zx_30_4 h]; rfl
theorem zxb_30_5 {σ : zm_Sig} (h : zFix σ) {β : Type} (f : Nat → Option β) (g : Option β) : zm_opt (σ.2.2 30 5) f g = f 50 := by rw [zx_30_5 h]; rfl
theorem zxb_48_0 {σ : zm_Sig} (h : zFix σ) {β : Type} (f : Nat → Option β) (g : Option β) : zm_opt (σ.2.2 48 0) f g = f 49 := by rw [zx_48_0 h]; rfl
theorem zxb_50_0 {σ : zm_Sig} (h : zFix σ) {β : Type} (f : Nat → Option β) (g : Option β) : zm_opt (σ.2.2 50 0) f g = f 51 := by rw [zx_50_0 h]; rfl
theorem zxb_52_0 {σ : zm_Sig} (h : zFix σ) {β : Type} (f : Nat → Option β) (g : Option β) : zm_opt (σ.2.2 52 0) f g = f 53 := by rw [zx_52_0 h]; rfl
theorem zxb_52_1 {σ : zm_Sig} (h : zFix σ) {β : Type} (f : Nat → Option β) (g : Option β) : zm_opt (σ.2.2 52 1) f g = f 54 := by rw [zx_52_1 h]; rfl
theorem zxb_52_2 {σ : zm_Sig} (h : zFix σ) {β : Type} (f : Nat → Option β) (g : Option β) : zm_opt (σ.2.2 52 2) f g = f 55 := by rw [zx_52_2 h]; rfl
theorem zxb_56_0 {σ : zm_Sig} (h : zFix σ) {β : Type} (f : Nat → Option β) (g : Option β) : zm_opt (σ.2.2 56 0) f g = f 106 := by rw [zx_56_0 h]; rfl
theorem zxb_56_1 {σ : zm_Sig} (h : zFix σ) {β : Type} (f : Nat → Option β) (g : Option β) : zm_opt (σ.2.2 56 1) f g = f 110 := by rw [zx_56_1 h]; rfl
theorem zxb_56_2 {σ : zm_Sig} (h : zFix σ) {β : Type} (f : Nat → Option β) (g : Option β) : zm_opt (σ.2.2 56 2) f g = f 114 := by rw [zx_56_2 h]; rfl
theorem zxb_57_0 {σ : zm_Sig} (h : zFix σ) {β : Type} (f : Nat → Option β) (g : Option β) : zm_opt (σ.2.2 57 0) f g = f 58 := by rw [zx_57_0 h]; rfl
theorem zxb_59_0 {σ : zm_Sig} (h : zFix σ) {β : Type} (f : Nat → Option β) (g : Option β) : zm_opt (σ.2.2 59 0) f g = f 60 := by rw [zx_59_0 h]; rfl
theorem zxb_80_3 {σ : zm_Sig} (h : zFix σ) {β : Type} (f : Nat → Option β) (g : Option β) : zm_opt (σ.2.2 80 3) f g = f 81 := by rw [zx_80_3 h]; rfl
theorem zxb_80_4 {σ : zm_Sig} (h : zFix σ) {β : Type} (f : Nat → Option β) (g : Option β) : zm_opt (σ.2.2 80 4) f g = f 88 := by rw [zx_80_4 h]; rfl
theorem zxb_80_5 {σ : zm_Sig} (h : zFix σ) {β : Type} (f : Nat → Option β) (g : Option β) : zm_opt (σ.2.2 80 5) f g = f 92 := by rw [zx_80_5 h]; rfl
theorem zxb_81_0 {σ : zm_Sig} (h : zFix σ) {β : Type} (f : Nat → Option β) (g : Option β) : zm_opt (σ.2.2 81 0) f g = f 82 := by rw [zx_81_0 h]; rfl
theorem zxb_81_1 {σ : zm_Sig} (h : zFix σ) {β : Type} (f : Nat → Option β) (g : Option β) : zm_opt (σ.2.2 81 1) f g = f 83 := by rw [zx_81_1 h]; rfl
theorem zxb_81_2 {σ : zm_Sig} (h : zFix σ) {β : Type} (f : Nat → Option β) (g : Option β) : zm_opt (σ.2.2 81 2) f g = f 84 := by rw [zx_81_2 h]; rfl
theorem zxb_81_3 {σ : zm_Sig} (h : zFix σ) {β : Type} (f : Nat → Option β) (g : Option β) : zm_opt (σ.2.2 81 3) f g = f 85 := by rw [zx_81_3 h]; rfl
theorem zxb_81_4 {σ : zm_Sig} (h : zFix σ) {β : Type} (f : Nat → Option β) (g : Option β) : zm_opt (σ.2.2 81 4) f g = f 86 := by rw [zx_81_4 h]; rfl
theorem zxb_81_5 {σ : zm_Sig} (h : zFix σ) {β : Type} (f : Nat → Option β) (g : Option β) : zm_opt (σ.2.2 81 5) f g = f 87 := by rw [zx_81_5 h]; rfl
theorem zxb_88_0 {σ : zm_Sig} (h : zFix σ) {β : Type} (f : Nat → Option β) (g : Option β) : zm_opt (σ.2.2 88 0) f g = f 89 := by rw [zx_88_0 h]; rfl
theorem zxb_88_1 {σ : zm_Sig} (h : zFix σ) {β : Type} (f : Nat → Option β) (g : Option β) : zm_opt (σ.2.2 88 1) f g = f 90 := by rw [zx_88_1 h]; rfl
theorem zxb_88_2 {σ : zm_Sig} (h : zFix σ) {β : Type} (f : Nat → Option β) (g : Option β) : zm_opt (σ.2.2 88 2) f g = f 91 := by rw [zx_88_2 h]; rfl
theorem zxb_93_3 {σ : zm_Sig} (h : zFix σ) {β : Type} (f : Nat → Option β) (g : Option β) : zm_opt (σ.2.2 93 3) f g = f 94 := by rw [zx_93_3 h]; rfl
theorem zxb_93_4 {σ : zm_Sig} (h : zFix σ) {β : Type} (f : Nat → Option β) (g : Option β) : zm_opt (σ.2.2 93 4) f g = f 101 := by rw [zx_93_4 h]; rfl
theorem zxb_93_5 {σ : zm_Sig} (h : zFix σ) {β : Type} (f : Nat → Option β) (g : Option β) : zm_opt (σ.2.2 93 5) f g = f 105 := by rw [zx_93_5 h]; rfl
theorem zxb_94_0 {σ : zm_Sig} (h : zFix σ) {β : Type} (f : Nat → Option β) (g : Option β) : zm_opt (σ.2.2 94 0) f g = f 95 := by rw [zx_94_0 h]; rfl
theorem zxb_94_1 {σ : zm_Sig} (h : zFix σ) {β : Type} (f : Nat → Option β) (g : Option β) : zm_opt (σ.2.2 94 1) f g = f 96 := by rw [zx_94_1 h]; rfl
theorem zxb_94_2 {σ : zm_Sig} (h : zFix σ) {β : Type} (f : Nat → Option β) (g : Option β) : zm_opt (σ.2.2 94 2) f g = f 97 := by rw [zx_94_2 h]; rfl
theorem zxb_94_3 {σ : zm_Sig} (h : zFix σ) {β : Type} (f : Nat → Option β) (g : Option β) : zm_opt (σ.2.2 94 3) f g = f 98 := by rw [zx_94_3 h]; rfl
theorem zxb_94_4 {σ : zm_Sig} (h : zFix σ) {β : Type} (f : Nat → Option β) (g : Option β) : zm_opt (σ.2.2 94 4) f g = f 99 := by rw [zx_94_4 h]; rfl
theorem zxb_94_5 {σ : zm_Sig} (h : zFix σ) {β : Type} (f : Nat → Option β) (g : Option β) : zm_opt (σ.2.2 94 5) f g = f 100 := by rw [zx_94_5 h]; rfl
theorem zxb_101_0 {σ : zm_Sig} (h : zFix σ) {β : Type} (f : Nat → Option β) (g : Option β) : zm_opt (σ.2.2 101 0) f g = f 102 := by rw [zx_101_0 h]; rfl
theorem zxb_101_1 {σ : zm_Sig} (h : zFix σ) {β : Type} (f : Nat → Option β) (g : Option β) : zm_opt (σ.2.2 101 1) f g = f 103 := by rw [zx_101_1 h]; rfl
theorem zxb_101_2 {σ : zm_Sig} (h : zFix σ) {β : Type} (f : Nat → Option β) (g : Option β) : zm_opt (σ.2.2 101 2) f g = f 104 := by rw [zx_101_2 h]; rfl
theorem zxb_106_0 {σ : zm_Sig} (h : zFix σ) {β : Type} (f : Nat → Option β) (g : Option β) : zm_opt (σ.2.2 106 0) f g = f 107 := by rw [zx_106_0 h]; rfl
theorem zxb_106_1 {σ : zm_Sig} (h : zFix σ) {β : Type} (f : Nat → Option β) (g : Option β) : zm_opt (σ.2.2 106 1) f g = f 108 := by rw [zx_106_1 h]; rfl
theorem zxb_106_2 {σ : zm_Sig} (h : zFix σ) {β : Type} (f : Nat → Option β) (g : Option β) : zm_opt (σ.2.2 106 2) f g = f 109 := by rw [zx_106_2 h]; rfl
theorem zxb_110_0 {σ : zm_Sig} (h : zFix σ) {β : Type} (f : Nat → Option β) (g : Option β) : zm_opt (σ.2.2 110 0) f g = f 111 := by rw [zx_110_0 h]; rfl
theorem zxb_110_1 {σ : zm_Sig} (h : zFix σ) {β : Type} (f : Nat → Option β) (g : Option β) : zm_opt (σ.2.2 110 1) f g = f 112 := by rw [zx_110_1 h]; rfl
theorem zxb_110_2 {σ : zm_Sig} (h : zFix σ) {β : Type} (f : Nat → Option β) (g : Option β) : zm_opt (σ.2.2 110 2) f g = f 113 := by rw [zx_110_2 h]; rfl
theorem zxb_114_0 {σ : zm_Sig} (h : zFix σ) {β : Type} (f : Nat → Option β) (g : Option β) : zm_opt (σ.2.2 114 0) f g = f 115 := by rw [zx_114_0 h]; rfl
theorem zxb_114_1 {σ : zm_Sig} (h : zFix σ) {β : Type} (f : Nat → Option β) (g : Option β) : zm_opt (σ.2.2 114 1) f g = f 116 := by rw [zx_114_1 h]; rfl
theorem zxb_114_2 {σ : zm_Sig} (h : zFix σ) {β : Type} (f : Nat → Option β) (g : Option β) : zm_opt (σ.2.2 114 2) f g = f 117 := by rw [zx_114_2 h]; rfl
theorem zxb_118_0 {σ : zm_Sig} (h : zFix σ) {β : Type} (f : Nat → Option β) (g : Option β) : zm_opt (σ.2.2 118 0) f g = f 119 := by rw [zx_118_0 h]; rfl
theorem zxb_118_1 {σ : zm_Sig} (h : zFix σ) {β : Type} (f : Nat → Option β) (g : Option β) : zm_opt (σ.2.2 118 1) f g = f 120 := by rw [zx_118_1 h]; rfl
theorem zxb_118_2 {σ : zm_Sig} (h : zFix σ) {β : Type} (f : Nat → Option β) (g : Option β) : zm_opt (σ.2.2 118 2) f g = f 121 := by rw [zx_118_2 h]; rfl
theorem zxb_118_3 {σ : zm_Sig} (h : zFix σ) {β : Type} (f : Nat → Option β) (g : Option β) : zm_opt (σ.2.2 118 3) f g = f 122 := by rw [zx_118_3 h]; rfl
theorem zxb_118_7 {σ : zm_Sig} (h : zFix σ) {β : Type} (f : Nat → Option β) (g : Option β) : zm_opt (σ.2.2 118 7) f g = f 123 := by rw [zx_118_7 h]; rfl
theorem zxb_118_8 {σ : zm_Sig} (h : zFix σ) {β : Type} (f : Nat → Option β) (g : Option β) : zm_opt (σ.2.2 118 8) f g = f 124 := by rw [zx_118_8 h]; rfl
theorem zxb_118_9 {σ : zm_Sig} (h : zFix σ) {β : Type} (f : Nat → Option β) (g : Option β) : zm_opt (σ.2.2 118 9) f g = f 125 := by rw [zx_118_9 h]; rfl
theorem zxb_118_10 {σ : zm_Sig} (h : zFix σ) {β : Type} (f : Nat → Option β) (g : Option β) : zm_opt (σ.2.2 118 10) f g = f 126 := by rw [zx_118_10 h]; rfl
theorem zxb_118_11 {σ : zm_Sig} (h : zFix σ) {β : Type} (f : Nat → Option β) (g : Option β) : zm_opt (σ.2.2 118 11) f g = f 127 := by rw [zx_118_11 h]; rfl
theorem zxb_118_12 {σ : zm_Sig} (h : zFix σ) {β : Type} (f : Nat → Option β) (g : Option β) : zm_opt (σ.2.2 118 12) f g = f 128 := by rw [zx_118_12 h]; rfl
theorem zxb_118_13 {σ : zm_Sig} (h : zFix σ) {β : Type} (f : Nat → Option β) (g : Option β) : zm_opt (σ.2.2 118 13) f g = f 129 := by rw [zx_118_13 h]; rfl
theorem zxb_118_14 {σ : zm_Sig} (h : zFix σ) {β : Type} (f : Nat → Option β) (g : Option β) : zm_opt (σ.2.2 118 14) f g = f 130 := by rw [zx_118_14 h]; rfl
theorem zxb_118_15 {σ : zm_Sig} (h : zFix σ) {β : Type} (f : Nat → Option β) (g : Option β) : zm_opt (σ.2.2 118 15) f g = f 131 := by rw [zx_118_15 h]; rfl
theorem zxb_118_17 {σ : zm_Sig} (h : zFix σ) {β : Type} (f : Nat → Option β) (g : Option β) : zm_opt (σ.2.2 118 17) f g = f 132 := by rw [zx_118_17 h]; rfl
theorem zxb_118_18 {σ : zm_Sig} (h : zFix σ) {β : Type} (f : Nat → Option β) (g : Option β) : zm_opt (σ.2.2 118 18) f g = f 133 := by rw [zx_118_18 h]; rfl
theorem zxb_118_19 {σ : zm_Sig} (h : zFix σ) {β : Type} (f : Nat → Option β) (g : Option β) : zm_opt (σ.2.2 118 19) f g = f 134 := by rw [zx_118_19 h]; rfl
theorem zxb_118_21 {σ : zm_Sig} (h : zFix σ) {β : Type} (f : Nat → Option β) (g : Option β) : zm_opt (σ.2.2 118 21) f g = f 135 := by rw [zx_118_21 h]; rfl
theorem zxb_118_22 {σ : zm_Sig} (h : zFix σ) {β : Type} (f : Nat → Option β) (g : Option β) : zm_opt (σ.2.2 118 22) f g = f 136 := by rw [zx_118_22 h]; rfl
theorem zxb_118_24 {σ : zm_Sig} (h : zFix σ) {β : Type} (f : Nat → Option β) (g : Option β) : zm_opt (σ.2.2 118 24) f g = f 137 := by rw [zx_118_24 h]; rfl
theorem zxb_118_25 {σ : zm_Sig} (h : zFix σ) {β : Type} (f : Nat → Option β) (g : Option β) : zm_opt (σ.2.2 118 25) f g = f 138 := by rw [zx_118_25 h]; rfl
theorem zxb_118_30 {σ : zm_Sig} (h : zFix σ) {β : Type} (f : Nat → Option β) (g : Option β) : zm_opt (σ.2.2 118 30) f g = f 139 := by rw [zx_118_30 h]; rfl
theorem zxb_118_35 {σ : zm_Sig} (h : zFix σ) {β : Type} (f : Nat → Option β) (g : Option β) : zm_opt (σ.2.2 118 35) f g = f 140 := by rw [zx_118_35 h]; rfl
theorem zxb_118_36 {σ : zm_Sig} (h : zFix σ) {β : Type} (f : Nat → Option β) (g : Option β) : zm_opt (σ.2.2 118 36) f g = f 141 := by rw [zx_118_36 h]; rfl
theorem zxb_118_37 {σ : zm_Sig} (h : zFix σ) {β : Type} (f : Nat → Option β) (g : Option β) : zm_opt (σ.2.2 118 37) f g = f 142 := by rw [zx_118_37 h]; rfl
theorem zxb_118_38 {σ : zm_Sig} (h : zFix σ) {β : Type} (f : Nat → Option β) (g : Option β) : zm_opt (σ.2.2 118 38) f g = f 143 := by rw [zx_118_38 h]; rfl
theorem zxb_118_39 {σ : zm_Sig} (h : zFix σ) {β : Type} (f : Nat → Option β) (g : Option β) : zm_opt (σ.2.2 118 39) f g = f 144 := by rw [zx_118_39 h]; rfl
theorem zxb_118_41 {σ : zm_Sig} (h : zFix σ) {β : Type} (f : Nat → Option β) (g : Option β) : zm_opt (σ.2.2 118 41) f g = f 145 := by rw [zx_118_41 h]; rfl
theorem zxb_118_42 {σ : zm_Sig} (h : zFix σ) {β : Type} (f : Nat → Option β) (g : Option β) : zm_opt (σ.2.2 118 42) f g = f 146 := by rw [zx_118_42 h]; rfl
theorem zxb_118_44 {σ : zm_Sig} (h : zFix σ) {β : Type} (f : Nat → Option β) (g : Option β) : zm_opt (σ.2.2 118 44) f g = f 147 := by rw [zx_118_44 h]; rfl
theorem zxb_118_45 {σ : zm_Sig} (h : zFix σ) {β : Type} (f : Nat → Option β) (g : Option β) : zm_opt (σ.2.2 118 45) f g = f 148 := by rw [zx_118_45 h]; rfl
theorem zxb_118_46 {σ : zm_Sig} (h : zFix σ) {β : Type} (f : Nat → Option β) (g : Option β) : zm_opt (σ.2.2 118 46) f g = f 149 := by rw [zx_118_46 h]; rfl
theorem zgb_9 {σ : zm_Sig} {j : Nat} (hj : j < 6) {β : Type} (f : Int32 → Option β) : (zm_gI zL σ 9 (nI j)).bind f = f (σ.1 9 j) := by rw [zgI_9 hj]; rfl
theorem zgb_16 {σ : zm_Sig} {j : Nat} (hj : j < 4) {β : Type} (f : Int32 → Option β) : (zm_gI zL σ 16 (nI j)).bind f = f (σ.1 16 j) := by rw [zgI_16 hj]; rfl
theorem zgb_18 {σ : zm_Sig} {j : Nat} (hj : j < 60) {β : Type} (f : Int32 → Option β) : (zm_gI zL σ 18 (nI j)).bind f = f (σ.1 18 j) := by rw [zgI_18 hj]; rfl
theorem zgb_21 {σ : zm_Sig} {j : Nat} (hj : j < 15) {β : Type} (f : Int32 → Option β) : (zm_gI zL σ 21 (nI j)).bind f = f (σ.1 21 j) := by rw [zgI_21 hj]; rfl
theorem zgb_22 {σ : zm_Sig} {j : Nat} (hj : j < 15) {β : Type} (f : Int32 → Option β) : (zm_gI zL σ 22 (nI j)).bind f = f (σ.1 22 j) := by rw [zgI_22 hj]; rfl
theorem zgb_23 {σ : zm_Sig} {j : Nat} (hj : j < 5) {β : Type} (f : Int32 → Option β) : (zm_gI zL σ 23 (nI j)).bind f = f (σ.1 23 j) := by rw [zgI_23 hj]; rfl
theorem zgb_24 {σ : zm_Sig} {j : Nat} (hj : j < 5) {β : Type} (f : Int32 → Option β) : (zm_gI zL σ 24 (nI j)).bind f = f (σ.1 24 j) := by rw [zgI_24 hj]; rfl
theorem zgb_25 {σ : zm_Sig} {j : Nat} (hj : j < 5) {β : Type} (f : Int32 → Option β) : (zm_gI zL σ 25 (nI j)).bind f = f (σ.1 25 j) := by rw [zgI_25 hj]; rfl
theorem zgb_26 {σ : zm_Sig} {j : Nat} (hj : j < 5) {β : Type} (f : Int32 → Option β) : (zm_gI zL σ 26 (nI j)).bind f = f (σ.1 26 j) := by rw [zgI_26 hj]; rfl
theorem zgb_27 {σ : zm_Sig} {j : Nat} (hj : j < 5) {β : Type} (f : Int32 → Option β) : (zm_gI zL σ 27 (nI j)).bind f = f (σ.1 27 j) := by rw [zgI_27 hj]; rfl
theorem zgb_28 {σ : zm_Sig} {j : Nat} (hj : j < 16) {β : Type} (f : Int32 → Option β) : (zm_gI zL σ 28 (nI j)).bind f = f (σ.1 28 j) := by rw [zgI_28 hj]; rfl
theorem zgb_29 {σ : zm_Sig} {j : Nat} (hj : j < 5) {β : Type} (f : Int32 → Option β) : (zm_gI zL σ 29 (nI j)).bind f = f (σ.1 29 j) := by rw [zgI_29 hj]; rfl
theorem zgb_47 {σ : zm_Sig} {j : Nat} (hj : j < 15) {β : Type} (f : Int32 → Option β) : (zm_gI zL σ 47 (nI j)).bind f = f (σ.1 47 j) := by rw [zgI_47 hj]; rfl
theorem zgb_49 {σ : zm_Sig} {j : Nat} (hj : j < 400) {β : Type} (f : Int32 → Option β) : (zm_gI zL σ 49 (nI j)).bind f = f (σ.1 49 j) := by rw [zgI_49 hj]; rfl
theorem zgb_51 {σ : zm_Sig} {j : Nat} (hj : j < 400) {β : Type} (f : Int32 → Option β) : (zm_gI zL σ 51 (nI j)).bind f = f (σ.1 51 j) := by rw [zgI_51 hj]; rfl
theorem zgb_53 {σ : zm_Sig} {j : Nat} (hj : j < 20) {β : Type} (f : Int32 → Option β) : (zm_gI zL σ 53 (nI j)).bind f = f (σ.1 53 j) := by rw [zgI_53 hj]; rfl
theorem zgb_54 {σ : zm_Sig} {j : Nat} (hj : j < 20) {β : Type} (f : Int32 → Option β) : (zm_gI zL σ 54 (nI j)).bind f = f (σ.1 54 j) := by rw [zgI_54 hj]; rfl
theorem zgb_55 {σ : zm_Sig} {j : Nat} (hj : j < 20) {β : Type} (f : Int32 → Option β) : (zm_gI zL σ 55 (nI j)).bind f = f (σ.1 55 j) := by rw [zgI_55 hj]; rfl
theorem zgb_58 {σ : zm_Sig} {j : Nat} (hj : j < 400) {β : Type} (f : Int32 → Option β) : (zm_gI zL σ 58 (nI j)).bind f = f (σ.1 58 j) := by rw [zgI_58 hj]; rfl
theorem zgb_76 {σ : zm_Sig} {j : Nat} (hj : j < 6) {β : Type} (f : Int32 → Option β) : (zm_gI zL σ 76 (nI j)).bind f = f (σ.1 76 j) := by rw [zgI_76 hj]; rfl
theorem zgb_79 {σ : zm_Sig} {j : Nat} (hj : j < 4) {β : Type} (f : Int32 → Option β) : (zm_gI zL σ 79 (nI j)).bind f = f (σ.1 79 j) := by rw [zgI_79 hj]; rfl
theorem zgb_119 {σ : zm_Sig} {j : Nat} (hj : j < 6) {β : Type} (f : Int32 → Option β) : (zm_gI zL σ 119 (nI j)).bind f = f (σ.1 119 j) := by rw [zgI_119 hj]; rfl
theorem zgb_120 {σ : zm_Sig} {j : Nat} (hj : j < 240) {β : Type} (f : Int32 → Option β) : (zm_gI zL σ 120 (nI j)).bind f = f (σ.1 120 j) := by rw [zgI_120 hj]; rfl
theorem zgb_121 {σ : zm_Sig} {j : Nat} (hj : j < 4) {β : Type} (f : Int32 → Option β) : (zm_gI zL σ 121 (nI j)).bind f = f (σ.1 121 j) := by rw [zgI_121 hj]; rfl
theorem zgb_122 {σ : zm_Sig} {j : Nat} (hj : j < 240) {β : Type} (f : Int32 → Option β) : (zm_gI zL σ 122 (nI j)).bind f = f (σ.1 122 j) := by rw [zgI_122 hj]; rfl
theorem zgb_123 {σ : zm_Sig} {j : Nat} (hj : j < 15) {β : Type} (f : Int32 → Option β) : (zm_gI zL σ 123 (nI j)).bind f = f (σ.1 123 j) := by rw [zgI_123 hj]; rfl
theorem zgb_124 {σ : zm_Sig} {j : Nat} (hj : j < 15) {β : Type} (f : Int32 → Option β) : (zm_gI zL σ 124 (nI j)).bind f = f (σ.1 124 j) := by rw [zgI_124 hj]; rfl
theorem zgb_125 {σ : zm_Sig} {j : Nat} (hj : j < 3) {β : Type} (f : Int32 → Option β) : (zm_gI zL σ 125 (nI j)).bind f = f (σ.1 125 j) := by rw [zgI_125 hj]; rfl
theorem zgb_126 {σ : zm_Sig} {j : Nat} (hj : j < 24) {β : Type} (f : Int32 → Option β) : (zm_gI zL σ 126 (nI j)).bind f = f (σ.1 126 j) := by rw [zgI_126 hj]; rfl
theorem zgb_127 {σ : zm_Sig} {j : Nat} (hj : j < 5) {β : Type} (f : Int32 → Option β) : (zm_gI zL σ 127 (nI j)).bind f = f (σ.1 127 j) := by rw [zgI_127 hj]; rfl
theorem zgb_128 {σ : zm_Sig} {j : Nat} (hj : j < 5) {β : Type} (f : Int32 → Option β) : (zm_gI zL σ 128 (nI j)).bind f = f (σ.1 128 j) := by rw [zgI_128 hj]; rfl
theorem zgb_129 {σ : zm_Sig} {j : Nat} (hj : j < 5) {β : Type} (f : Int32 → Option β) : (zm_gI zL σ 129 (nI j)).bind f = f (σ.1 129 j) := by rw [zgI_129 hj]; rfl
theorem zgb_130 {σ : zm_Sig} {j : Nat} (hj : j < 5) {β : Type} (f : Int32 → Option β) : (zm_gI zL σ 130 (nI j)).bind f = f (σ.1 130 j) := by rw [zgI_130 hj]; rfl
theorem zgb_131 {σ : zm_Sig} {j : Nat} (hj : j < 5) {β : Type} (f : Int32 → Option β) : (zm_gI zL σ 131 (nI j)).bind f = f (σ.1 131 j) := by rw [zgI_131 hj]; rfl
theorem zgb_132 {σ : zm_Sig} {j : Nat} (hj : j < 15) {β : Type} (f : Int32 → Option β) : (zm_gI zL σ 132 (nI j)).bind f = f (σ.1 132 j) := by rw [zgI_132 hj]; rfl
theorem zgb_133 {σ : zm_Sig} {j : Nat} (hj : j < 15) {β : Type} (f : Int32 → Option β) : (zm_gI zL σ 133 (nI j)).bind f = f (σ.1 133 j) := by rw [zgI_133 hj]; rfl
theorem zgb_134 {σ : zm_Sig} {j : Nat} (hj : j < 16) {β : Type} (f : Int32 → Option β) : (zm_gI zL σ 134 (nI j)).bind f = f (σ.1 134 j) := by rw [zgI_134 hj]; rfl
theorem zgb_135 {σ : zm_Sig} {j : Nat} (hj : j < 258) {β : Type} (f : Int32 → Option β) : (zm_gI zL σ 135 (nI j)).bind f = f (σ.1 135 j) := by rw [zgI_135 hj]; rfl
theorem zgb_136 {σ : zm_Sig} {j : Nat} (hj : j < 5160) {β : Type} (f : Int32 → Option β) : (zm_gI zL σ 136 (nI j)).bind f = f (σ.1 136 j) := by rw [zgI_136 hj]; rfl
theorem zgb_137 {σ : zm_Sig} {j : Nat} (hj : j < 16257) {β : Type} (f : Int32 → Option β) : (zm_gI zL σ 137 (nI j)).bind f = f (σ.1 137 j) := by rw [zgI_137 hj]; rfl
theorem zgb_139 {σ : zm_Sig} {j : Nat} (hj : j < 6) {β : Type} (f : Int32 → Option β) : (zm_gI zL σ 139 (nI j)).bind f = f (σ.1 139 j) := by rw [zgI_139 hj]; rfl
theorem zgb_140 {σ : zm_Sig} {j : Nat} (hj : j < 15) {β : Type} (f : Int32 → Option β) : (zm_gI zL σ 140 (nI j)).bind f = f (σ.1 140 j) := by rw [zgI_140 hj]; rfl
theorem zgb_141 {σ : zm_Sig} {j : Nat} (hj : j < 15) {β : Type} (f : Int32 → Option β) : (zm_gI zL σ 141 (nI j)).bind f = f (σ.1 141 j) := by rw [zgI_141 hj]; rfl
theorem zgb_142 {σ : zm_Sig} {j : Nat} (hj : j < 3) {β : Type} (f : Int32 → Option β) : (zm_gI zL σ 142 (nI j)).bind f = f (σ.1 142 j) := by rw [zgI_142 hj]; rfl
theorem zgb_143 {σ : zm_Sig} {j : Nat} (hj : j < 24) {β : Type} (f : Int32 → Option β) : (zm_gI zL σ 143 (nI j)).bind f = f (σ.1 143 j) := by rw [zgI_143 hj]; rfl
theorem zgb_144 {σ : zm_Sig} {j : Nat} (hj : j < 700) {β : Type} (f : Int32 → Option β) : (zm_gI zL σ 144 (nI j)).bind f = f (σ.1 144 j) := by rw [zgI_144 hj]; rfl
theorem zgb_145 {σ : zm_Sig} {j : Nat} (hj : j < 5) {β : Type} (f : Int32 → Option β) : (zm_gI zL σ 145 (nI j)).bind f = f (σ.1 145 j) := by rw [zgI_145 hj]; rfl
theorem zgb_146 {σ : zm_Sig} {j : Nat} (hj : j < 16) {β : Type} (f : Int32 → Option β) : (zm_gI zL σ 146 (nI j)).bind f = f (σ.1 146 j) := by rw [zgI_146 hj]; rfl
theorem zgb_147 {σ : zm_Sig} {j : Nat} (hj : j < 240) {β : Type} (f : Int32 → Option β) : (zm_gI zL σ 147 (nI j)).bind f = f (σ.1 147 j) := by rw [zgI_147 hj]; rfl
theorem zsb_9 {σ : zm_Sig} {j : Nat} {v : Int32} (hj : j < 6) {β : Type} (f : zm_Sig → Option β) : (zm_sI zL σ 9 (nI j) v).bind f = f (zm_wI σ 9 j v) := by rw [zsI_9 hj]; rfl
theorem zsb_16 {σ : zm_Sig} {j : Nat} {v : Int32} (hj : j < 4) {β : Type} (f : zm_Sig → Option β) : (zm_sI zL σ 16 (nI j) v).bind f = f (zm_wI σ 16 j v) := by rw [zsI_16 hj]; rfl
theorem zsb_18 {σ : zm_Sig} {j : Nat} {v : Int32} (hj : j < 60) {β : Type} (f : zm_Sig → Option β) : (zm_sI zL σ 18 (nI j) v).bind f = f (zm_wI σ 18 j v) := by rw [zsI_18 hj]; rfl
theorem zsb_21 {σ : zm_Sig} {j : Nat} {v : Int32} (hj : j < 15) {β : Type} (f : zm_Sig → Option β) : (zm_sI zL σ 21 (nI j) v).bind f = f (zm_wI σ 21 j v) := by rw [zsI_21 hj]; rfl
theorem zsb_22 {σ : zm_Sig} {j : Nat} {v : Int32} (hj : j < 15) {β : Type} (f : zm_Sig → Option β) : (zm_sI zL σ 22 (nI j) v).bind f = f (zm_wI σ 22 j v) := by rw [zsI_22 hj]; rfl
theorem zsb_23 {σ : zm_Sig} {j : Nat} {v : Int32} (hj : j < 5) {β : Type} (f : zm_Sig → Option β) : (zm_sI zL σ 23 (nI j) v).bind f = f (zm_wI σ 23 j v) := by rw [zsI_23 hj]; rfl
theorem zsb_24 {σ : zm_Sig} {j : Nat} {v : Int32} (hj : j < 5) {β : Type} (f : zm_Sig → Option β) : (zm_sI zL σ 24 (nI j) v).bind f = f (zm_wI σ 24 j v) := by rw [zsI_24 hj]; rfl
theorem zsb_25 {σ : zm_Sig} {j : Nat} {v : Int32} (hj : j < 5) {β : Type} (f : zm_Sig → Option β) : (zm_sI zL σ 25 (nI j) v).bind f = f (zm_wI σ 25 j v) := by rw [zsI_25 hj]; rfl
theorem zsb_26 {σ : zm_Sig} {j : Nat} {v : Int32} (hj : j < 5) {β : Type} (f : zm_Sig → Option β) : (zm_sI zL σ 26 (nI j) v).bind f = f (zm_wI σ 26 j v) := by rw [zsI_26 hj]; rfl
theorem zsb_27 {σ : zm_Sig} {j : Nat} {v : Int32} (hj : j < 5) {β : Type} (f : zm_Sig → Option β) : (zm_sI zL σ 27 (nI j) v).bind f = f (zm_wI σ 27 j v) := by rw [zsI_27 hj]; rfl
theorem zsb_28 {σ : zm_Sig} {j : Nat} {v : Int32} (hj : j < 16) {β : Type} (f : zm_Sig → Option β) : (zm_sI zL σ 28 (nI j) v).bind f = f (zm_wI σ 28 j v) := by rw [zsI_28 hj]; rfl
theorem zsb_29 {σ : zm_Sig} {j : Nat} {v : Int32} (hj : j < 5) {β : Type} (f : zm_Sig → Option β) : (zm_sI zL σ 29 (nI j) v).bind f = f (zm_wI σ 29 j v) := by rw [zsI_29 hj]; rfl
theorem zsb_47 {σ : zm_Sig} {j : Nat} {v : Int32} (hj : j < 15) {β : Type} (f : zm_Sig → Option β) : (zm_sI zL σ 47 (nI j) v).bind f = f (zm_wI σ 47 j v) := by rw [zsI_47 hj]; rfl
theorem zsb_49 {σ : zm_Sig} {j : Nat} {v : Int32} (hj : j < 400) {β : Type} (f : zm_Sig → Option β) : (zm_sI zL σ 49 (nI j) v).bind f = f (zm_wI σ 49 j v) := by rw [zsI_49 hj]; rfl
theorem zsb_51 {σ : zm_Sig} {j : Nat} {v : Int32} (hj : j < 400) {β : Type} (f : zm_Sig → Option β) : (zm_sI zL σ 51 (nI j) v).bind f = f (zm_wI σ 51 j v) := by rw [zsI_51 hj]; rfl
theorem zsb_53 {σ : zm_Sig} {j : Nat} {v : Int32} (hj : j < 20) {β : Type} (f : zm_Sig → Option β) : (zm_sI zL σ 53 (nI j) v).bind f = f (zm_wI σ 53 j v) := by rw [zsI_53 hj]; rfl
theorem zsb_54 {σ : zm_Sig} {j : Nat} {v : Int32} (hj : j < 20) {β : Type} (f : zm_Sig → Option β) : (zm_sI zL σ 54 (nI j) v).bind f = f (zm_wI σ 54 j v) := by rw [zsI_54 hj]; rfl
theorem zsb_55 {σ : zm_Sig} {j : Nat} {v : Int32} (hj : j < 20) {β : Type} (f : zm_Sig → Option β) : (zm_sI zL σ 55 (nI j) v).bind f = f (zm_wI σ 55 j v) := by rw [zsI_55 hj]; rfl
theorem zsb_58 {σ : zm_Sig} {j : Nat} {v : Int32} (hj : j < 400) {β : Type} (f : zm_Sig → Option β) : (zm_sI zL σ 58 (nI j) v).bind f = f (zm_wI σ 58 j v) := by rw [zsI_58 hj]; rfl
theorem zsb_76 {σ : zm_Sig} {j : Nat} {v : Int32} (hj : j < 6) {β : Type} (f : zm_Sig → Option β) : (zm_sI zL σ 76 (nI j) v).bind f = f (zm_wI σ 76 j v) := by rw [zsI_76 hj]; rfl
theorem zsb_79 {σ : zm_Sig} {j : Nat} {v : Int32} (hj : j < 4) {β : Type} (f : zm_Sig → Option β) : (zm_sI zL σ 79 (nI j) v).bind f = f (zm_wI σ 79 j v) := by rw [zsI_79 hj]; rfl
theorem zsb_119 {σ : zm_Sig} {j : Nat} {v : Int32} (hj : j < 6) {β : Type} (f : zm_Sig → Option β) : (zm_sI zL σ 119 (nI j) v).bind f = f (zm_wI σ 119 j v) := by rw [zsI_119 hj]; rfl
theorem zsb_120 {σ : zm_Sig} {j : Nat} {v : Int32} (hj : j < 240) {β : Type} (f : zm_Sig → Option β) : (zm_sI zL σ 120 (nI j) v).bind f = f (zm_wI σ 120 j v) := by rw [zsI_120 hj]; rfl
theorem zsb_121 {σ : zm_Sig} {j : Nat} {v : Int32} (hj : j < 4) {β : Type} (f : zm_Sig → Option β) : (zm_sI zL σ 121 (nI j) v).bind f = f (zm_wI σ 121 j v) := by rw [zsI_121 hj]; rfl
theorem zsb_122 {σ : zm_Sig} {j : Nat} {v : Int32} (hj : j < 240) {β : Type} (f : zm_Sig → Option β) : (zm_sI zL σ 122 (nI j) v).bind f = f (zm_wI σ 122 j v) := by rw [zsI_122 hj]; rfl
theorem zsb_123 {σ : zm_Sig} {j : Nat} {v : Int32} (hj : j < 15) {β : Type} (f : zm_Sig → Option β) : (zm_sI zL σ 123 (nI j) v).bind f = f (zm_wI σ 123 j v) := by rw [zsI_123 hj]; rfl
theorem zsb_124 {σ : zm_Sig} {j : Nat} {v : Int32} (hj : j < 15) {β : Type} (f : zm_Sig → Option β) : (zm_sI zL σ 124 (nI j) v).bind f = f (zm_wI σ 124 j v) := by rw [zsI_124 hj]; rfl
theorem zsb_125 {σ : zm_Sig} {j : Nat} {v : Int32} (hj : j < 3) {β : Type} (f : zm_Sig → Option β) : (zm_sI zL σ 125 (nI j) v).bind f = f (zm_wI σ 125 j v) := by rw [zsI_125 hj]; rfl
theorem zsb_126 {σ : zm_Sig} {j : Nat} {v : Int32} (hj : j < 24) {β : Type} (f : zm_Sig → Option β) : (zm_sI zL σ 126 (nI j) v).bind f = f (zm_wI σ 126 j v) := by rw [zsI_126 hj]; rfl
theorem zsb_127 {σ : zm_Sig} {j : Nat} {v : Int32} (hj : j < 5) {β : Type} (f : zm_Sig → Option β) : (zm_sI zL σ 127 (nI j) v).bind f = f (zm_wI σ 127 j v) := by rw [zsI_127 hj]; rfl
theorem zsb_128 {σ : zm_Sig} {j : Nat} {v : Int32} (hj : j < 5) {β : Type} (f : zm_Sig → Option β) : (zm_sI zL σ 128 (nI j) v).bind f = f (zm_wI σ 128 j v) := by rw [zsI_128 hj]; rfl
theorem zsb_129 {σ : zm_Sig} {j : Nat} {v : Int32} (hj : j < 5) {β : Type} (f : zm_Sig → Option β) : (zm_sI zL σ 129 (nI j) v).bind f = f (zm_wI σ 129 j v) := by rw [zsI_129 hj]; rfl
theorem zsb_130 {σ : zm_Sig} {j : Nat} {v : Int32} (hj : j < 5) {β : Type} (f : zm_Sig → Option β) : (zm_sI zL σ 130 (nI j) v).bind f = f (zm_wI σ 130 j v) := by rw [zsI_130 hj]; rfl
theorem zsb_131 {σ : zm_Sig} {j : Nat} {v : Int32} (hj : j < 5) {β : Type} (f : zm_Sig → Option β) : (zm_sI zL σ 131 (nI j) v).bind f = f (zm_wI σ 131 j v) := by rw [zsI_131 hj]; rfl
theorem zsb_132 {σ : zm_Sig} {j : Nat} {v : Int32} (hj : j < 15) {β : Type} (f : zm_Sig → Option β) : (zm_sI zL σ 132 (nI j) v).bind f = f (zm_wI σ 132 j v) := by rw [zsI_132 hj]; rfl
theorem zsb_133 {σ : zm_Sig} {j : Nat} {v : Int32} (hj : j < 15) {β : Type} (f : zm_Sig → Option β) : (zm_sI zL σ 133 (nI j) v).bind f = f (zm_wI σ 133 j v) := by rw [zsI_133 hj]; rfl
theorem zsb_134 {σ : zm_Sig} {j : Nat} {v : Int32} (hj : j < 16) {β : Type} (f : zm_Sig → Option β) : (zm_sI zL σ 134 (nI j) v).bind f = f (zm_wI σ 134 j v) := by rw [zsI_134 hj]; rfl
theorem zsb_135 {σ : zm_Sig} {j : Nat} {v : Int32} (hj : j < 258) {β : Type} (f : zm_Sig → Option β) : (zm_sI zL σ 135 (nI j) v).bind f = f (zm_wI σ 135 j v) := by rw [zsI_135 hj]; rfl
theorem zsb_136 {σ : zm_Sig} {j : Nat} {v : Int32} (hj : j < 5160) {β : Type} (f : zm_Sig → Option β) : (zm_sI zL σ 136 (nI j) v).bind f = f (zm_wI σ 136 j v) := by rw [zsI_136 hj]; rfl
theorem zsb_137 {σ : zm_Sig} {j : Nat} {v : Int32} (hj : j < 16257) {β : Type} (f : zm_Sig → Option β) : (zm_sI zL σ 137 (nI j) v).bind f = f (zm_wI σ 137 j v) := by rw [zsI_137 hj]; rfl
theorem zsb_139 {σ : zm_Sig} {j : Nat} {v : Int32} (hj : j < 6) {β : Type} (f : zm_Sig → Option β) : (zm_sI zL σ 139 (nI j) v).bind f = f (zm_wI σ 139 j v) := by rw [zsI_139 hj]; rfl
theorem zsb_140 {σ : zm_Sig} {j : Nat} {v : Int32} (hj : j < 15) {β : Type} (f : zm_Sig → Option β) : (zm_sI zL σ 140 (nI j) v).bind f = f (zm_wI σ 140 j v) := by rw [zsI_140 hj]; rfl
theorem zsb_141 {σ : zm_Sig} {j : Nat} {v : Int32} (hj : j < 15) {β : Type} (f : zm_Sig → Option β) : (zm_sI zL σ 141 (nI j) v).bind f = f (zm_wI σ 141 j v) := by rw [zsI_141 hj]; rfl
theorem zsb_142 {σ : zm_Sig} {j : Nat} {v : Int32} (hj : j < 3) {β : Type} (f : zm_Sig → Option β) : (zm_sI zL σ 142 (nI j) v).bind f = f (zm_wI σ 142 j v) := by rw [zsI_142 hj]; rfl
theorem zsb_143 {σ : zm_Sig} {j : Nat} {v : Int32} (hj : j < 24) {β : Type} (f : zm_Sig → Option β) : (zm_sI zL σ 143 (nI j) v).bind f = f (zm_wI σ 143 j v) := by rw [zsI_143 hj]; rfl
theorem zsb_144 {σ : zm_Sig} {j : Nat} {v : Int32} (hj : j < 700) {β : Type} (f : zm_Sig → Option β) : (zm_sI zL σ 144 (nI j) v).bind f = f (zm_wI σ 144 j v) := by rw [zsI_144 hj]; rfl
theorem zsb_145 {σ : zm_Sig} {j : Nat} {v : Int32} (hj : j < 5) {β : Type} (f : zm_Sig → Option β) : (zm_sI zL σ 145 (nI j) v).bind f = f (zm_wI σ 145 j v) := by rw [zsI_145 hj]; rfl
theorem zsb_146 {σ : zm_Sig} {j : Nat} {v : Int32} (hj : j < 16) {β : Type} (f : zm_Sig → Option β) : (zm_sI zL σ 146 (nI j) v).bind f = f (zm_wI σ 146 j v) := by rw [zsI_146 hj]; rfl
theorem zsb_147 {σ : zm_Sig} {j : Nat} {v : Int32} (hj : j < 240) {β : Type} (f : zm_Sig → Option β) : (zm_sI zL σ 147 (nI j) v).bind f = f (zm_wI σ 147 j v) := by rw [zsI_147 hj]; rfl
