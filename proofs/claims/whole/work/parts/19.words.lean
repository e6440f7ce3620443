/-! words: they grow and take back -/
def zpush (w : List Int32) (v : Int32) : List Int32 := if w.getLast? = some (-v) then w.dropLast else w ++ [v]
def zat (w : List Int32) (i : Nat) : Int32 := w.getD i 0
def zWd (f : Nat → Int32) (w : List Int32) : Prop := ∀ i, i < w.length → f i = zat w i
theorem zWd.nil (f : Nat → Int32) : zWd f [] := fun i h => by cases h
theorem zWd.eq {f g : Nat → Int32} {w : List Int32} (h : zWd f w) (e : ∀ i, i < w.length → g i = f i) : zWd g w := fun i hi => (e i hi).trans (h i hi)
theorem zWd.last {f : Nat → Int32} {w : List Int32} (h : zWd f w) (hw : 0 < w.length) : w.getLast? = some (f (w.length - 1)) := by
  rw [h _ (by omega), zat, List.getLast?_eq_getElem?, List.getD_eq_getElem?_getD, List.getElem?_eq_getElem (by omega)]
  rfl
theorem zWd.drop {f : Nat → Int32} {w : List Int32} (h : zWd f w) : zWd f w.dropLast := fun i hi => by
  rw [List.length_dropLast] at hi
  rw [h i (by omega), zat, zat, List.getD_eq_getElem?_getD, List.getD_eq_getElem?_getD, List.getElem?_eq_getElem (by omega), List.getElem?_eq_getElem (by rw [List.length_dropLast]; omega), List.getElem_dropLast]
theorem zWd.app {f g : Nat → Int32} {w : List Int32} {v : Int32} (h : zWd f w) (e : ∀ i, i < w.length → g i = f i) (ev : g w.length = v) : zWd g (w ++ [v]) := fun i hi => by
  rw [List.length_append, List.length_singleton] at hi
  rw [zat, List.getD_eq_getElem?_getD]
  by_cases hw : i < w.length
  · rw [List.getElem?_append_left hw, e i hw, h i hw, zat, List.getD_eq_getElem?_getD]
  · have : i = w.length := by omega
    subst this
    rw [List.getElem?_append_right (Nat.le_refl _), Nat.sub_self, ev]
    rfl
theorem zpush_len (w : List Int32) (v : Int32) : (zpush w v).length ≤ w.length + 1 := by
  unfold zpush
  split
  · rw [List.length_dropLast]; omega
  · simp
theorem zpush_nil (v : Int32) : zpush [] v = [v] := rfl
/-- the reference's word -/
def zMW (σ : zm_Sig) (w : List Int32) : Prop := σ.1 118 40 = nI w.length ∧ zWd (σ.1 144) w
def zFM (a k : Nat) : Bool := a == 144 || (a == 118 && k == 40)
theorem m_grows {σ : zm_Sig} {w : List Int32} (hF : zFix σ) (h : zMW σ w) (hw : w.length < 700) (v : Int32) : ∃ σ', zM 213 [.ref 118, .int v] zL σ = some (none, zL, σ') ∧ zMW σ' (zpush w v) ∧ zKeep zFM σ σ' := by
  obtain ⟨h1, h2⟩ := h
  refine zS_ex (zS_of ze_213 ?_)
  by_cases h0 : w.length = 0
  · have e0 : w = [] := List.length_eq_zero_iff.mp h0
    simp (disch := first | assumption | omega) only [zn0, zn1, Option.bind_some, zm_ai, zm_al, zm_av, zm_opt, zm_fw, zE_l, zE_r, nI_add, pk_mul, pk_sub, pk_div, pk_rem, zrem, zpm1, zB_i0, zB_i1, zB_ok, zB_T, zB_F, nI_toInt, zT_sub, zT_neg, zT_le, zT_lt, nI_eq, zne1, zne2, ite_not, if_true, if_false, if_pos, if_neg, zw_R, zw_RL, zw_I, zF_R, zw_same, zw_cell, zw_ne, zF_at, zF_ne, zi_118, zx_118_0, zx_118_1, zx_118_2, zx_118_3, zx_118_7, zx_118_8, zx_118_9, zx_118_10, zx_118_11, zx_118_12, zx_118_13, zx_118_14, zx_118_15, zx_118_17, zx_118_18, zx_118_19, zx_118_21, zx_118_22, zx_118_24, zx_118_25, zx_118_30, zx_118_35, zx_118_36, zx_118_37, zx_118_38, zx_118_39, zx_118_41, zx_118_42, zx_118_44, zx_118_45, zx_118_46, zgI_119, zsI_119, zgI_120, zsI_120, zgI_121, zsI_121, zgI_122, zsI_122, zgI_123, zsI_123, zgI_124, zsI_124, zgI_125, zsI_125, zgI_126, zsI_126, zgI_127, zsI_127, zgI_128, zsI_128, zgI_129, zsI_129, zgI_130, zsI_130, zgI_131, zsI_131, zgI_132, zsI_132, zgI_133, zsI_133, zgI_134, zsI_134, zgI_135, zsI_135, zgI_136, zsI_136, zgI_137, zsI_137, zgI_139, zsI_139, zgI_140, zsI_140, zgI_141, zsI_141, zgI_142, zsI_142, zgI_143, zsI_143, zgI_144, zsI_144, zgI_145, zsI_145, zgI_146, zsI_146, zgI_147, zsI_147, zb_213_0, h1]
    refine ⟨_, rfl, ⟨?_, ?_⟩, ?_⟩
    · rw [zw_same, e0]; rfl
    · subst e0
      exact fun i hi => by
        rw [zpush_nil] at hi ⊢
        have : i = 0 := by simpa using hi
        subst this
        rw [zw_cell _ _ (by decide)]
        exact zw_same _ _ _ _
    · exact ((zKeep.rf zFM σ).wI rfl).wI rfl
  · have hl := h2.last (by omega)
    by_cases e : σ.1 144 (w.length - 1) = -v
    · simp (disch := first | assumption | omega) only [zn0, zn1, Option.bind_some, zm_ai, zm_al, zm_av, zm_opt, zm_fw, zE_l, zE_r, nI_add, pk_mul, pk_sub, pk_div, pk_rem, zrem, zpm1, zB_i0, zB_i1, zB_ok, zB_T, zB_F, nI_toInt, zT_sub, zT_neg, zT_le, zT_lt, nI_eq, zne1, zne2, ite_not, if_true, if_false, if_pos, if_neg, zw_R, zw_RL, zw_I, zF_R, zw_same, zw_cell, zw_ne, zF_at, zF_ne, zi_118, zx_118_0, zx_118_1, zx_118_2, zx_118_3, zx_118_7, zx_118_8, zx_118_9, zx_118_10, zx_118_11, zx_118_12, zx_118_13, zx_118_14, zx_118_15, zx_118_17, zx_118_18, zx_118_19, zx_118_21, zx_118_22, zx_118_24, zx_118_25, zx_118_30, zx_118_35, zx_118_36, zx_118_37, zx_118_38, zx_118_39, zx_118_41, zx_118_42, zx_118_44, zx_118_45, zx_118_46, zgI_119, zsI_119, zgI_120, zsI_120, zgI_121, zsI_121, zgI_122, zsI_122, zgI_123, zsI_123, zgI_124, zsI_124, zgI_125, zsI_125, zgI_126, zsI_126, zgI_127, zsI_127, zgI_128, zsI_128, zgI_129, zsI_129, zgI_130, zsI_130, zgI_131, zsI_131, zgI_132, zsI_132, zgI_133, zsI_133, zgI_134, zsI_134, zgI_135, zsI_135, zgI_136, zsI_136, zgI_137, zsI_137, zgI_139, zsI_139, zgI_140, zsI_140, zgI_141, zsI_141, zgI_142, zsI_142, zgI_143, zsI_143, zgI_144, zsI_144, zgI_145, zsI_145, zgI_146, zsI_146, zgI_147, zsI_147, zb_213_0, h1, not_true, e]
      have ep : zpush w v = w.dropLast := if_pos (by rw [hl, e])
      refine ⟨_, rfl, ⟨?_, ?_⟩, ?_⟩
      · rw [zw_same, ep, List.length_dropLast]
      · rw [ep, zw_cell _ _ (by decide)]
        exact h2.drop
      · exact (zKeep.rf zFM σ).wI rfl
    · simp (disch := first | assumption | omega) only [zn0, zn1, Option.bind_some, zm_ai, zm_al, zm_av, zm_opt, zm_fw, zE_l, zE_r, nI_add, pk_mul, pk_sub, pk_div, pk_rem, zrem, zpm1, zB_i0, zB_i1, zB_ok, zB_T, zB_F, nI_toInt, zT_sub, zT_neg, zT_le, zT_lt, nI_eq, zne1, zne2, ite_not, if_true, if_false, if_pos, if_neg, zw_R, zw_RL, zw_I, zF_R, zw_same, zw_cell, zw_ne, zF_at, zF_ne, zi_118, zx_118_0, zx_118_1, zx_118_2, zx_118_3, zx_118_7, zx_118_8, zx_118_9, zx_118_10, zx_118_11, zx_118_12, zx_118_13, zx_118_14, zx_118_15, zx_118_17, zx_118_18, zx_118_19, zx_118_21, zx_118_22, zx_118_24, zx_118_25, zx_118_30, zx_118_35, zx_118_36, zx_118_37, zx_118_38, zx_118_39, zx_118_41, zx_118_42, zx_118_44, zx_118_45, zx_118_46, zgI_119, zsI_119, zgI_120, zsI_120, zgI_121, zsI_121, zgI_122, zsI_122, zgI_123, zsI_123, zgI_124, zsI_124, zgI_125, zsI_125, zgI_126, zsI_126, zgI_127, zsI_127, zgI_128, zsI_128, zgI_129, zsI_129, zgI_130, zsI_130, zgI_131, zsI_131, zgI_132, zsI_132, zgI_133, zsI_133, zgI_134, zsI_134, zgI_135, zsI_135, zgI_136, zsI_136, zgI_137, zsI_137, zgI_139, zsI_139, zgI_140, zsI_140, zgI_141, zsI_141, zgI_142, zsI_142, zgI_143, zsI_143, zgI_144, zsI_144, zgI_145, zsI_145, zgI_146, zsI_146, zgI_147, zsI_147, zb_213_0, h1, e, not_false]
      have ep : zpush w v = w ++ [v] := if_neg (by rw [hl]; exact fun q => e (Option.some.inj q))
      refine ⟨_, rfl, ⟨?_, ?_⟩, ?_⟩
      · rw [zw_same, ep, List.length_append]; rfl
      · rw [ep, zw_cell _ _ (by decide)]
        exact h2.app (fun i hi => zw_ne _ _ (Or.inr (by omega))) (zw_same _ _ _ _)
      · exact ((zKeep.rf zFM σ).wI rfl).wI rfl
