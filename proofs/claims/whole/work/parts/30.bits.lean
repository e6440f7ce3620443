/-! which signs are left; what holds of all rules -/
theorem zbit_iff {L : Int32} {k : Nat} (hk : k < 15) : zbit L k ↔ L.toBitVec.getLsbD k = true := by
  have hs : ((nI k &&& 31 : Int32).toBitVec.smod 32).toNat = k := (show ∀ k, k < 15 → ((nI k &&& 31 : Int32).toBitVec.smod 32).toNat = k by decide) k hk
  unfold zbit
  have e1 : ((L >>> (nI k &&& 31)) &&& nI 1).toBitVec = BitVec.setWidth 32 (BitVec.ofBool (L.toBitVec.getLsbD k)) := by
    rw [Int32.toBitVec_and, Int32.toBitVec_shiftRight]
    have e2 : (nI 1).toBitVec = 1#32 := rfl
    rw [e2, BitVec.and_one_eq_setWidth_ofBool_getLsbD, BitVec.sshiftRight', hs, BitVec.getLsbD_sshiftRight]
    have h1 : decide (32 ≤ 0) = false := rfl
    rw [h1, Bool.not_false, Bool.true_and, if_pos (by omega), Nat.add_zero]
  constructor
  · intro h
    rw [h] at e1
    cases q : L.toBitVec.getLsbD k with
    | true => rfl
    | false => rw [q] at e1; exact absurd e1 (by decide)
  · intro h
    rw [h] at e1
    exact Int32.toBitVec_inj.mp (e1.trans (by decide))
theorem zbit_clr {L : Int32} {b j : Nat} (hb1 : 1 ≤ b) (hb2 : b ≤ 15) (hj : j < 15) : zbit (zclr L b) j ↔ zbit L j ∧ j ≠ b - 1 := by
  rw [zbit_iff hj, zbit_iff hj]
  have e : ((nI 1 <<< (nI (b - 1) &&& 31)) ^^^ -nI 1 : Int32).toBitVec.getLsbD j = decide (j ≠ b - 1) := (show ∀ c, c < 15 → ∀ j, j < 15 → ((nI 1 <<< (nI c &&& 31)) ^^^ -nI 1 : Int32).toBitVec.getLsbD j = decide (j ≠ c) by decide) (b - 1) (by omega) j hj
  unfold zclr
  rw [Int32.toBitVec_and, BitVec.getLsbD_and, e, Bool.and_eq_true, decide_eq_true_eq]
theorem zbit_all {S k : Nat} (hS : S ≤ 15) (hk : k < 15) : zbit ((nI 1 <<< (nI S &&& 31)) - nI 1) k ↔ k < S := by
  unfold zbit
  exact (show ∀ S, S < 16 → ∀ k, k < 15 → ((((nI 1 <<< (nI S &&& 31)) - nI 1) >>> (nI k &&& 31)) &&& nI 1 = nI 1 ↔ k < S) by decide) S (by omega) k hk
/-- a sign that is left, either way -/
def zLs (L x : Int32) : Prop := ∃ b, 1 ≤ b ∧ b ≤ 15 ∧ (x = nI b ∨ x = -nI b) ∧ zbit L (b - 1)
theorem zLs.neg {L x : Int32} (h : zLs L x) : zLs L (-x) := by
  obtain ⟨b, h1, h2, h3, h4⟩ := h
  refine ⟨b, h1, h2, ?_, h4⟩
  rcases h3 with rfl | rfl
  · exact Or.inr rfl
  · exact Or.inl Int32.neg_neg
theorem zLs.neg' {L x : Int32} (h : zLs L (-x)) : zLs L x := by
  have := h.neg
  rw [Int32.neg_neg] at this
  exact this
theorem zLs.ne {L x : Int32} (h : zLs L x) : ¬ x = nI 0 := by
  obtain ⟨b, h1, h2, h3, h4⟩ := h
  intro e
  have := congrArg Int32.toInt e
  rcases h3 with rfl | rfl
  · rw [nI_toInt (by omega), nI_toInt (by omega)] at this
    omega
  · rw [zT_neg (by omega), nI_toInt (by omega)] at this
    omega
def zOK (rs : List (List Int32)) (L : Int32) : Prop := rs.length ≤ 15 ∧ ∀ r ∈ rs, r.length ≤ 16 ∧ zRed r ∧ ∀ x ∈ r, zLs L x
theorem zr_mem {rs : List (List Int32)} {i : Nat} (h : i < rs.length) : zr rs i ∈ rs := zgetD_mem [] h
theorem zOK.w {rs : List (List Int32)} {L : Int32} (h : zOK rs L) : zWR rs := ⟨h.1, fun i hi => ⟨(h.2 _ (zr_mem hi)).1, fun x hx => ((h.2 _ (zr_mem hi)).2.2 x hx).ne⟩⟩
theorem zOK.red {rs : List (List Int32)} {L : Int32} (h : zOK rs L) : ∀ j, j < rs.length → zRed (zr rs j) := fun j hj => (h.2 _ (zr_mem hj)).2.1
theorem zOK.erase {rs : List (List Int32)} {L : Int32} (h : zOK rs L) (i : Nat) : zOK (rs.eraseIdx i) L := ⟨by
  have := h.1
  rw [List.length_eraseIdx]
  split <;> omega, fun r hr => h.2 r (List.mem_of_mem_eraseIdx hr)⟩
theorem zOK.set {rs : List (List Int32)} {L : Int32} (h : zOK rs L) (i : Nat) {w : List Int32} (hw : w.length ≤ 16) (hr : zRed w) (hx : ∀ x ∈ w, zLs L x) : zOK (rs.set i w) L := ⟨by rw [List.length_set]; exact h.1, fun r hr2 => by
  rcases List.mem_or_eq_of_mem_set hr2 with q | rfl
  · exact h.2 r q
  · exact ⟨hw, hr, hx⟩⟩
theorem zOK.turn {rs : List (List Int32)} {L : Int32} (h : zOK rs L) {i : Nat} (hi : i < rs.length) : zOK (rs.set i (zturn (zr rs i))) L := by
  obtain ⟨h1, h2, h3⟩ := h.2 _ (zr_mem hi)
  refine h.set i ?_ (zred_red _) fun x hx => ?_
  · refine Nat.le_trans (zred_len _) ?_
    rw [List.length_append, List.length_drop, List.length_take]
    omega
  · rcases List.mem_append.mp (zred_mem hx) with q | q
    · exact h3 x (List.mem_of_mem_drop q)
    · exact h3 x (List.mem_of_mem_take q)
theorem zOK.over {rs : List (List Int32)} {L : Int32} (h : zOK rs L) {i : Nat} (hi : i < rs.length) : zOK (rs.set i (zover (zr rs i))) L := by
  obtain ⟨h1, h2, h3⟩ := h.2 _ (zr_mem hi)
  refine h.set i ?_ (zred_red _) fun x hx => ?_
  · refine Nat.le_trans (zred_len _) ?_
    rw [zinv_len]
    omega
  · exact (h3 _ (zinv_mem (zred_mem hx))).neg'
theorem zOK.join {rs : List (List Int32)} {L : Int32} (h : zOK rs L) {i j : Nat} (hi : i < rs.length) (hj : j < rs.length) (hl : (zred (zr rs i ++ zr rs j)).length ≤ 16) : zOK (rs.set i (zred (zr rs i ++ zr rs j))) L := by
  obtain ⟨h1, h2, h3⟩ := h.2 _ (zr_mem hi)
  obtain ⟨h4, h5, h6⟩ := h.2 _ (zr_mem hj)
  refine h.set i hl (zred_red _) fun x hx => ?_
  rcases List.mem_append.mp (zred_mem hx) with q | q
  · exact h3 x q
  · exact h6 x q
theorem zmem_at {r : List Int32} {x : Int32} (h : x ∈ r) : ∃ k, k < r.length ∧ zat r k = x := by
  obtain ⟨k, hk, e⟩ := List.mem_iff_getElem.mp h
  refine ⟨k, hk, ?_⟩
  rw [zat, List.getD_eq_getElem?_getD, List.getElem?_eq_getElem hk]
  exact e
theorem zneg_inj {x y : Int32} (h : -x = -y) : x = y := by
  have := congrArg (fun z : Int32 => -z) h
  simpa [Int32.neg_neg] using this
theorem zsolp_not {r : List Int32} {s : Int32} {p : Nat} (h : zOne r s p) {x : Int32} (hx : x ∈ zsolp r s p) : ¬ (x = s ∨ x = -s) := by
  have key : ∀ y, y ∈ r.take p ∨ y ∈ r.drop (p + 1) → ¬ (y = s ∨ y = -s) := by
    intro y hy hq
    rcases hy with hy | hy
    · obtain ⟨k, hk, e⟩ := zmem_at hy
      rw [List.length_take] at hk
      rw [zat_take (by omega)] at e
      have := h.2.2 k (by omega) (by rw [e]; exact hq)
      omega
    · obtain ⟨k, hk, e⟩ := zmem_at hy
      rw [List.length_drop] at hk
      rw [zat_drop] at e
      have := h.2.2 (p + 1 + k) (by omega) (by rw [e]; exact hq)
      omega
  have flip : ∀ y : Int32, ¬ (-y = s ∨ -y = -s) → ¬ (y = s ∨ y = -s) := fun y hy hq => hy (by
    rcases hq with rfl | rfl
    · exact Or.inr rfl
    · exact Or.inl Int32.neg_neg)
  unfold zsolp at hx
  split at hx
  · rcases List.mem_append.mp hx with q | q
    · exact flip x (key _ (Or.inl (zinv_mem q)))
    · exact flip x (key _ (Or.inr (zinv_mem q)))
  · rcases List.mem_append.mp hx with q | q
    · exact key _ (Or.inr q)
    · exact key _ (Or.inl q)
theorem zLs.clr {L x : Int32} {b : Nat} (h : zLs L x) (hb1 : 1 ≤ b) (hb2 : b ≤ 15) (hx : ¬ (x = nI b ∨ x = -nI b)) : zLs (zclr L b) x := by
  obtain ⟨c, h1, h2, h3, h4⟩ := h
  refine ⟨c, h1, h2, h3, (zbit_clr hb1 hb2 (by omega)).mpr ⟨h4, fun e => hx ?_⟩⟩
  have : c = b := by omega
  rw [← this]
  exact h3
theorem zOK.solve {rs : List (List Int32)} {L : Int32} (h : zOK rs L) {i b : Nat} (hi : i < rs.length) (hb1 : 1 ≤ b) (hb2 : b ≤ 15) (ht : ztm (zr rs i) (nI b) = 1) (hf : zfits rs i b) : zOK (zsolve rs i b) (zclr L b) := by
  obtain ⟨p, hp⟩ := zOne_of ht
  obtain ⟨se, s1, s2⟩ := zsolb_ok h.w hi hp
  have hsl : ∀ x ∈ zsolb rs i b, zLs L x ∧ ¬ (x = nI b ∨ x = -nI b) := fun x hx => by
    rw [se] at hx
    refine ⟨?_, zsolp_not hp hx⟩
    rcases zsolp_mem hx with q | q
    · exact (h.2 _ (zr_mem hi)).2.2 x q
    · exact ((h.2 _ (zr_mem hi)).2.2 _ q).neg'
  have hlen : (zsolve rs i b).length = rs.length - 1 := by unfold zsolve; rw [zerase_len (by rw [zsub_len]; exact hi), zsub_len]
  refine ⟨by rw [hlen]; have := h.1; omega, fun r hr => ?_⟩
  obtain ⟨j, hj, e⟩ := List.mem_iff_getElem.mp hr
  have ej : zr (zsolve rs i b) j = r := by
    unfold zr
    rw [List.getD_eq_getElem?_getD, List.getElem?_eq_getElem hj]
    exact e
  rw [hlen] at hj
  obtain ⟨m, hm, hmi, em⟩ : ∃ m, m < rs.length ∧ m ≠ i ∧ r = zwob rs i b m := by
    unfold zsolve at ej
    rw [zr_erase] at ej
    by_cases q : j < i
    · rw [if_pos q, zr_sub (by omega), if_pos (by omega)] at ej
      exact ⟨j, by omega, by omega, ej.symm⟩
    · rw [if_neg q, zr_sub (by omega), if_pos (by omega)] at ej
      exact ⟨j + 1, by omega, by omega, ej.symm⟩
  subst em
  refine ⟨(hf m hm).resolve_left hmi, zwo_red _ _ _, fun x hx => ?_⟩
  rcases zput_mem _ hx with hx | hx | hx | hx
  · cases hx
  · exact (hsl x hx).1.clr hb1 hb2 (hsl x hx).2
  · have := (hsl _ hx).1.clr hb1 hb2 (hsl _ hx).2
    exact this.neg'
  · exact ((h.2 _ (zr_mem hm)).2.2 x hx.1).clr hb1 hb2 (fun q => q.elim hx.2.1 hx.2.2)
/-- a sign that is in a rule is left -/
theorem zOK.left {rs : List (List Int32)} {L : Int32} (h : zOK rs L) {i b : Nat} (hi : i < rs.length) (hb1 : 1 ≤ b) (hb2 : b ≤ 15) (ht : ¬ ztm (zr rs i) (nI b) = 0) : zbit L (b - 1) := by
  have : ∃ x ∈ zr rs i, x = nI b ∨ x = -nI b := by
    refine Classical.byContradiction fun q => ht ?_
    unfold ztm
    rw [List.countP_eq_zero]
    intro x hx hq
    exact q ⟨x, hx, by simpa using hq⟩
  obtain ⟨x, hx, hq⟩ := this
  obtain ⟨c, h1, h2, h3, h4⟩ := (h.2 _ (zr_mem hi)).2.2 x hx
  have : c = b := by
    have t1 := zT_neg (a := c) (by omega)
    have t2 := zT_neg (a := b) (by omega)
    have t3 := nI_toInt (n := c) (by omega)
    have t4 := nI_toInt (n := b) (by omega)
    rcases h3 with h3 | h3 <;> rcases hq with hq | hq <;> rw [h3] at hq <;> have := congrArg Int32.toInt hq <;> omega
  rw [← this]
  exact h4
