/-! what holds between calls: one value, held by class and reference -/
abbrev zRo : Type := Nat → Option (List Int32)
abbrev zK : Type := Int32 × Int64 × Int64 × Int32 × (Nat → Int32)
abbrev zKs : Type := Nat → Option (List zDd)
/-- rows of the class, of the reference -/
def zSv (σ : zm_Sig) (zc c0 N K : Nat) (R : zRo) : Prop := ∀ r, r < N → (R r = none → σ.1 zc r = -nI 1) ∧ ∀ l, R r = some l → l.length ≤ K ∧ σ.1 zc r = nI l.length ∧ ∀ j, j < l.length → σ.1 (c0 + r) j = zat l j
def zSm (σ : zm_Sig) (zm cm N K : Nat) (R : zRo) : Prop := ∀ r, r < N → (R r = none → σ.1 zm r = -nI 1) ∧ ∀ l, R r = some l → l.length ≤ K ∧ σ.1 zm r = nI l.length ∧ ∀ j, j < l.length → σ.1 cm (K * r + j) = zat l j
def zKc (σ : zm_Sig) (K : zK) : Prop := σ.1 0 13 = K.1 ∧ σ.2.1 0 14 = K.2.1 ∧ σ.2.1 0 15 = K.2.2.1 ∧ σ.1 0 16 = K.2.2.2.1 ∧ ∀ f, f < 6 → σ.1 76 f = K.2.2.2.2 f
def zKm (σ : zm_Sig) (K : zK) : Prop := σ.1 118 26 = K.1 ∧ σ.2.1 118 27 = K.2.1 ∧ σ.2.1 118 28 = K.2.2.1 ∧ σ.1 118 29 = K.2.2.2.1 ∧ ∀ f, f < 6 → σ.1 139 f = K.2.2.2.2 f
/-- the rows of the matrix -/
def zPm (σ : zm_Sig) (ρ : Nat → Nat) : Prop := (∀ i, i < 15 → σ.2.2 60 i = some (61 + ρ i)) ∧ (∀ i, i < 15 → ρ i < 15) ∧ ∀ i j, i < 15 → j < 15 → ρ i = ρ j → i = j
/-- the book of the class -/
def zCS (σ : zm_Sig) (a : Nat) (G : zG) (ds : List zDd) (ks : zKs) : Prop :=
  zGo a ∧ σ.2.2 0 11 = some a ∧ σ.2.2 0 12 = some (173 - a) ∧ zCG σ a G ∧ zCN σ G (ztree G (zrun G ds).1) ∧ (∃ π, zCR σ π (zrun G ds).2.2) ∧ σ.1 30 3 = (zrun G ds).2.1 ∧ σ.1 19 3 = nI (zrun G ds).1 ∧ zTl σ 52 ds ∧
  (∀ k, k < 3 → (ks k = none → σ.1 (106 + 4 * k) 3 = -nI 1) ∧ ∀ l, ks k = some l → zTl σ (106 + 4 * k) l) ∧ (0 < G.1 → zCT σ (ztree G (zrun G ds).1) ∧ σ.2.2 19 4 = some a) ∧ (G.1 = 0 → σ.2.2 19 4 = none) ∧ ∃ ρ, zPm σ ρ
/-- the book of the reference -/
def zMS (σ : zm_Sig) (G : zG) (ds : List zDd) (ks : zKs) : Prop :=
  zMG σ G ∧ zMN σ G (ztree G (zrun G ds).1) ∧ zMB (σ.1 135) (zrun G ds) ∧ σ.1 118 23 = nI ds.length ∧ (∀ j, j < ds.length → zMB (fun i => σ.1 136 (258 * j + i)) (zrun G (ds.take j))) ∧
  (∀ k, k < 3 → (ks k = none → σ.1 138 k = nI 0) ∧ ∀ l, ks k = some l → σ.1 138 k = nI 1 ∧ σ.1 137 (5419 * k) = nI l.length ∧ zMB (fun i => σ.1 137 (5419 * k + 1 + i)) (zrun G l) ∧ ∀ j, j < l.length → zMB (fun i => σ.1 137 (5419 * k + 259 + 258 * j + i)) (zrun G (l.take j))) ∧ (0 < G.1 → zMT σ (ztree G (zrun G ds).1))
/-- what is so of the value alone -/
def zVk (G : zG) (ds : List zDd) (ks : zKs) : Prop := zGv G ∧ ((G.1 = 0 ∧ G.2.1 = 0 ∧ G.2.2.2.2 = [] ∧ ds = [] ∧ ∀ k, ks k = none) ∨ (zGk G ∧ zgood G ds ∧ ∀ k l, ks k = some l → zgood G l))
theorem zarr_ok' {G : zG} (hv : zGv G) {o : Nat} (ho : o < 3) : zBok G (zarr G o) := by
  have hS := zsn_le hv (ztree G o)
  refine ⟨ho, ⟨?_, fun r hr => ?_⟩, fun k hk hb => (zbit_all hS hk).mp hb⟩
  · show (zrls G (ztree G o) _).length ≤ 15
    rw [zrls_len]
    exact zRn hv
  · have hr' : r ∈ (List.range (G.2.2.2.2.length * G.1)).map (zrl G (ztree G o)) := hr
    obtain ⟨j, hj, e⟩ := List.mem_map.mp hr'
    have hj' := List.mem_range.mp hj
    rw [Nat.mul_comm] at hj'
    obtain ⟨a1, a2, a3⟩ := zedge hj'
    obtain ⟨l1, l2⟩ := zrels hv a3
    obtain ⟨w1, w2, w3⟩ := zwt_ok (t := ztree G o) hv a2 _ l2
    have hm := zwt_mem (t := ztree G o) hv a2 _ l2
    subst e
    refine ⟨?_, w3, fun x hx => ?_⟩
    · have : (zrl G (ztree G o) j).length ≤ (zr G.2.2.2.2 (j % G.2.2.2.2.length)).length := w2
      omega
    · obtain ⟨b, b1, b2, b3⟩ := hm x hx
      exact ⟨b, b1, by omega, b3, (zbit_all hS (by omega)).mpr (by omega)⟩
theorem zVk.bok {G : zG} {ds : List zDd} {ks : zKs} (h : zVk G ds ks) : zBok G (zrun G ds) := by
  obtain ⟨hv, h | h⟩ := h
  · rw [h.2.2.2.1]
    exact zarr_ok' hv (by decide)
  · exact h.2.1.full h.1
theorem zVk.len {G : zG} {ds : List zDd} {ks : zKs} (h : zVk G ds ks) : ds.length ≤ 20 := by
  obtain ⟨hv, h | h⟩ := h
  · rw [h.2.2.2.1]; decide
  · exact h.2.1.1
theorem zVk.pos {G : zG} {ds : List zDd} {ks : zKs} (h : zVk G ds ks) (h0 : 0 < G.1) : zGk G ∧ zgood G ds ∧ ∀ k l, ks k = some l → zgood G l := by
  obtain ⟨hv, h | h⟩ := h
  · omega
  · exact h
theorem zVk.zero {G : zG} {ds : List zDd} {ks : zKs} (h : zVk G ds ks) (h0 : G.1 = 0) : G.2.1 = 0 ∧ G.2.2.2.2 = [] ∧ ds = [] ∧ ∀ k, ks k = none := by
  obtain ⟨hv, h | h⟩ := h
  · exact h.2
  · have := h.1.2.2.1
    omega
theorem zVk.rs0 {G : zG} {ds : List zDd} {ks : zKs} (h : zVk G ds ks) (h0 : G.1 = 0) : (zrun G ds).2.2 = [] ∧ (zrun G ds).1 = 0 ∧ (zrun G ds).2.1 = nI 0 ∧ zsn G (ztree G (zrun G ds).1) = 0 := by
  obtain ⟨z1, z2, z3, z4⟩ := h.zero h0
  subst z3
  have e1 : zsn G (ztree G 0) = 0 := by
    unfold zsn
    rw [h0, Nat.zero_mul]
    rfl
  refine ⟨?_, rfl, ?_, e1⟩
  · show zrls G (ztree G 0) (G.2.2.2.2.length * G.1) = []
    rw [h0, Nat.mul_zero]
    rfl
  · show zLeft (zsn G (ztree G 0)) = nI 0
    rw [e1]
    decide
/-- which cells matter -/
def zCi (a x k : Nat) : Bool := (x == 0 && (k == 11 || k == 12)) || (19 ≤ x && x ≤ 28) || (30 ≤ x && x ≤ 47) || (52 ≤ x && x ≤ 56) || (a ≤ x && x ≤ a + 12) || (106 ≤ x && x ≤ 117) || x == 60
def zMi (x k : Nat) : Bool := (x == 118 && (k == 4 || k == 5 || k == 6 || k == 16 || k == 20 || k == 23)) || (123 ≤ x && x ≤ 138)
theorem zCi_t {a x k : Nat} (h : (x = 0 ∧ (k = 11 ∨ k = 12)) ∨ (19 ≤ x ∧ x ≤ 28) ∨ (30 ≤ x ∧ x ≤ 47) ∨ (52 ≤ x ∧ x ≤ 56) ∨ (a ≤ x ∧ x ≤ a + 12) ∨ (106 ≤ x ∧ x ≤ 117) ∨ x = 60) : zCi a x k = true := by
  simp only [zCi, Bool.or_eq_true, Bool.and_eq_true, decide_eq_true_eq, beq_iff_eq]
  omega
theorem zCi_f {a x k : Nat} (h : zCi a x k = true) : (x = 0 ∧ (k = 11 ∨ k = 12)) ∨ (19 ≤ x ∧ x ≤ 28) ∨ (30 ≤ x ∧ x ≤ 47) ∨ (52 ≤ x ∧ x ≤ 56) ∨ (a ≤ x ∧ x ≤ a + 12) ∨ (106 ≤ x ∧ x ≤ 117) ∨ x = 60 := by
  simp only [zCi, Bool.or_eq_true, Bool.and_eq_true, decide_eq_true_eq, beq_iff_eq] at h
  omega
theorem zMi_t {x k : Nat} (h : (x = 118 ∧ (k = 4 ∨ k = 5 ∨ k = 6 ∨ k = 16 ∨ k = 20 ∨ k = 23)) ∨ (123 ≤ x ∧ x ≤ 138)) : zMi x k = true := by
  simp only [zMi, Bool.or_eq_true, Bool.and_eq_true, decide_eq_true_eq, beq_iff_eq]
  omega
theorem zMi_f {x k : Nat} (h : zMi x k = true) : (x = 118 ∧ (k = 4 ∨ k = 5 ∨ k = 6 ∨ k = 16 ∨ k = 20 ∨ k = 23)) ∨ (123 ≤ x ∧ x ≤ 138) := by
  simp only [zMi, Bool.or_eq_true, Bool.and_eq_true, decide_eq_true_eq, beq_iff_eq] at h
  omega
section ZIV
variable {σ σ' : zm_Sig} {a : Nat} {G : zG} {ds : List zDd} {ks : zKs} {R T : zRo} {K : zK} {S : Nat → Nat → Bool}
theorem zMB.eq {g g' : Nat → Int32} {B : zBk} (h : zMB g B) (hl : B.2.2.length ≤ 15) (hr : ∀ i, i < B.2.2.length → (zr B.2.2 i).length ≤ 16) (e : ∀ i, i < 258 → g' i = g i) : zMB g' B :=
  ⟨(e 0 (by omega)).trans h.1, (e 2 (by omega)).trans h.2.1, (e 1 (by omega)).trans h.2.2.1, fun i hi => ⟨(e _ (by omega)).trans (h.2.2.2 i hi).1, fun k hk => (e _ (by have := hr i hi; omega)).trans ((h.2.2.2 i hi).2 k hk)⟩⟩
theorem zBok.b {B : zBk} (h : zBok G B) : B.2.2.length ≤ 15 ∧ ∀ i, i < B.2.2.length → (zr B.2.2 i).length ≤ 16 := ⟨h.2.1.1, fun i hi => (h.2.1.w.2 i hi).1⟩
theorem zCS.keep (h : zCS σ a G ds ks) (hV : zVk G ds ks) (hK : zKeep S σ σ') (hS : ∀ x k, zCi a x k = true → S x k = false) : zCS σ' a G ds ks := by
  obtain ⟨h1, h2, h3, h4, h5, ⟨π, h6⟩, h7, h8, h9, h10, h11, h12, ρ, h13⟩ := h
  have hs := fun x k q => hS x k (zCi_t q)
  refine ⟨h1, (hK.r (hs _ _ (by omega))).trans h2, (hK.r (hs _ _ (by omega))).trans h3, h4.keep hV.1 hK (fun k _ => hs _ _ (by omega)) (fun b k _ _ => hs _ _ (by omega)), h5.keep hK (hs _ _ (by omega)) (fun k => ⟨hs _ _ (by omega), hs _ _ (by omega), hs _ _ (by omega)⟩), ⟨π, h6.keep hV.bok.2.1.1 hK (fun x k _ _ => hs _ _ (by omega)) (hs _ _ (by omega))⟩, (hK.i (hs _ _ (by omega))).trans h7, (hK.i (hs _ _ (by omega))).trans h8, h9.keep hK (hs _ _ (by omega)) (fun b k _ _ => hs _ _ (by omega)), fun k hk => ⟨fun q => (hK.i (hs _ _ (by omega))).trans ((h10 k hk).1 q), fun l q => ((h10 k hk).2 l q).keep hK (hs _ _ (by omega)) (fun b k _ _ => hs _ _ (by omega))⟩, fun q => ⟨(h11 q).1.keep hK (hs _ _ (by omega)) (fun k => ⟨hs _ _ (by omega), hs _ _ (by omega), hs _ _ (by omega), hs _ _ (by omega), hs _ _ (by omega)⟩), (hK.r (hs _ _ (by omega))).trans (h11 q).2⟩, fun q => (hK.r (hs _ _ (by omega))).trans (h12 q), ρ, fun i hi => (hK.r (hs _ _ (by omega))).trans (h13.1 i hi), h13.2⟩
theorem zVk.tk (hV : zVk G ds ks) {j : Nat} (hj : j ≤ ds.length) : zBok G (zrun G (ds.take j)) := by
  obtain ⟨hv, h | h⟩ := hV
  · rw [h.2.2.2.1, List.take_nil]
    exact zarr_ok' hv (by decide)
  · exact h.2.1.ok h.1 j hj
theorem zVk.kp (hV : zVk G ds ks) {k : Nat} {l : List zDd} (h : ks k = some l) : zGk G ∧ zgood G l := by
  obtain ⟨hv, q | q⟩ := hV
  · rw [q.2.2.2.2 k] at h; cases h
  · exact ⟨q.1, q.2.2 k l h⟩
theorem zMS.keep (h : zMS σ G ds ks) (hV : zVk G ds ks) (hK : zKeep S σ σ') (hS : ∀ x k, zMi x k = true → S x k = false) : zMS σ' G ds ks := by
  obtain ⟨h1, h2, h3, h4, h5, h6, h7⟩ := h
  have hs := fun x k q => hS x k (zMi_t q)
  have hb := hV.bok.b
  refine ⟨h1.keep hK ⟨hs _ _ (by omega), hs _ _ (by omega), hs _ _ (by omega)⟩ (fun k => ⟨hs _ _ (by omega), hs _ _ (by omega), hs _ _ (by omega), hs _ _ (by omega)⟩), h2.keep hK (hs _ _ (by omega)) (fun k => ⟨hs _ _ (by omega), hs _ _ (by omega), hs _ _ (by omega)⟩), h3.eq hb.1 hb.2 (fun i _ => hK.i (hs _ _ (by omega))), (hK.i (hs _ _ (by omega))).trans h4, fun j hj => ?_, fun k hk => ⟨fun q => (hK.i (hs _ _ (by omega))).trans ((h6 k hk).1 q), fun l q => ?_⟩, fun q => (h7 q).keep hK (hs _ _ (by omega)) (fun k => ⟨hs _ _ (by omega), hs _ _ (by omega), hs _ _ (by omega), hs _ _ (by omega), hs _ _ (by omega)⟩)⟩
  · have hb := (hV.tk (j := j) (by omega)).b
    exact (h5 j hj).eq hb.1 hb.2 (fun i _ => hK.i (hs _ _ (by omega)))
  · obtain ⟨g1, g2, g3, g4⟩ := (h6 k hk).2 l q
    obtain ⟨hg, hl⟩ := hV.kp q
    have hb := (hl.full hg).b
    refine ⟨(hK.i (hs _ _ (by omega))).trans g1, (hK.i (hs _ _ (by omega))).trans g2, g3.eq hb.1 hb.2 (fun i _ => hK.i (hs _ _ (by omega))), fun j hj => ?_⟩
    have hb := (hl.ok hg j (by omega)).b
    exact (g4 j hj).eq hb.1 hb.2 (fun i _ => hK.i (hs _ _ (by omega)))
theorem zSv.keep {zc c0 N Kb : Nat} (h : zSv σ zc c0 N Kb R) (hK : zKeep S σ σ') (h1 : ∀ k, S zc k = false) (h2 : ∀ r k, r < N → S (c0 + r) k = false) : zSv σ' zc c0 N Kb R := fun r hr =>
  ⟨fun q => (hK.i (h1 r)).trans ((h r hr).1 q), fun l q => ⟨((h r hr).2 l q).1, (hK.i (h1 r)).trans ((h r hr).2 l q).2.1, fun j hj => (hK.i (h2 r j hr)).trans (((h r hr).2 l q).2.2 j hj)⟩⟩
theorem zSm.keep {zm cm N Kb : Nat} (h : zSm σ zm cm N Kb R) (hK : zKeep S σ σ') (h1 : ∀ k, S zm k = false) (h2 : ∀ k, S cm k = false) : zSm σ' zm cm N Kb R := fun r hr =>
  ⟨fun q => (hK.i (h1 r)).trans ((h r hr).1 q), fun l q => ⟨((h r hr).2 l q).1, (hK.i (h1 r)).trans ((h r hr).2 l q).2.1, fun j hj => (hK.i (h2 _)).trans (((h r hr).2 l q).2.2 j hj)⟩⟩
theorem zKc.keep (h : zKc σ K) (hK : zKeep S σ σ') (h0 : S 0 13 = false ∧ S 0 14 = false ∧ S 0 15 = false ∧ S 0 16 = false) (h1 : ∀ k, S 76 k = false) : zKc σ' K :=
  ⟨(hK.i h0.1).trans h.1, (hK.l h0.2.1).trans h.2.1, (hK.l h0.2.2.1).trans h.2.2.1, (hK.i h0.2.2.2).trans h.2.2.2.1, fun f hf => (hK.i (h1 f)).trans (h.2.2.2.2 f hf)⟩
theorem zKm.keep (h : zKm σ K) (hK : zKeep S σ σ') (h0 : S 118 26 = false ∧ S 118 27 = false ∧ S 118 28 = false ∧ S 118 29 = false) (h1 : ∀ k, S 139 k = false) : zKm σ' K :=
  ⟨(hK.i h0.1).trans h.1, (hK.l h0.2.1).trans h.2.1, (hK.l h0.2.2.1).trans h.2.2.1, (hK.i h0.2.2.2).trans h.2.2.2.1, fun f hf => (hK.i (h1 f)).trans (h.2.2.2.2 f hf)⟩
/-- class, reference -/
def zC (σ : zm_Sig) (a : Nat) (R T : zRo) (K : zK) (G : zG) (ds : List zDd) (ks : zKs) : Prop := zFix σ ∧ zSv σ 9 3 6 40 R ∧ zSv σ 16 12 4 60 T ∧ zKc σ K ∧ zCS σ a G ds ks
def zMm (σ : zm_Sig) (R T : zRo) (K : zK) (G : zG) (ds : List zDd) (ks : zKs) : Prop := zFix σ ∧ zSm σ 119 120 6 40 R ∧ zSm σ 121 122 4 60 T ∧ zKm σ K ∧ zMS σ G ds ks
def zCls (x k : Nat) : Bool := x < 118
def zRfs (x k : Nat) : Bool := 118 ≤ x
def zInv (σ : zm_Sig) : Prop := ∃ a R T K G ds ks, zC σ a R T K G ds ks ∧ zMm σ R T K G ds ks ∧ zVk G ds ks
theorem zCls_f {x k : Nat} (h : 118 ≤ x) : zCls x k = false := by simp only [zCls, decide_eq_false_iff_not]; omega
theorem zRfs_f {x k : Nat} (h : x < 118) : zRfs x k = false := by simp only [zRfs, decide_eq_false_iff_not]; omega
/-- only references that stay, and the rules' rows and groups, change -/
def zRfix (σ σ' : zm_Sig) : Prop := ∀ q ∈ zFx, σ'.2.2 q.1 q.2.1 = σ.2.2 q.1 q.2.1
theorem zMm.cls (h : zMm σ R T K G ds ks) (hV : zVk G ds ks) (hK : zKeep zCls σ σ') (hF : zFix σ') : zMm σ' R T K G ds ks :=
  ⟨hF, h.2.1.keep hK (fun k => rfl) (fun k => rfl), h.2.2.1.keep hK (fun k => rfl) (fun k => rfl), h.2.2.2.1.keep hK ⟨rfl, rfl, rfl, rfl⟩ (fun k => rfl), h.2.2.2.2.keep hV hK fun x k q => zCls_f (by have := zMi_f q; omega)⟩
theorem zC.rfs (h : zC σ a R T K G ds ks) (hV : zVk G ds ks) (hK : zKeep zRfs σ σ') (hF : zFix σ') : zC σ' a R T K G ds ks :=
  ⟨hF, h.2.1.keep hK (fun k => rfl) (fun r k hr => zRfs_f (by omega)), h.2.2.1.keep hK (fun k => rfl) (fun r k hr => zRfs_f (by omega)), h.2.2.2.1.keep hK ⟨rfl, rfl, rfl, rfl⟩ (fun k => rfl), h.2.2.2.2.keep hV hK fun x k q => zRfs_f (by
    have := zCi_f q
    have := h.2.2.2.2.1
    unfold zGo at this
    omega)⟩
def zCallV (yc ym : Nat) (as : List Value) (σ : zm_Sig) : Prop := ∃ v σ1 σ2, zM yc (.ref 0 :: as) zL σ = some (some v, zL, σ1) ∧ zM ym (.ref 118 :: as) zL σ1 = some (some v, zL, σ2) ∧ zInv σ2
def zCo (yc : Nat) (as : List Value) (σ : zm_Sig) (v : Value) (a : Nat) (R T : zRo) (K : zK) (G : zG) (ds : List zDd) (ks : zKs) : Prop := ∃ σ', zM yc (.ref 0 :: as) zL σ = some (some v, zL, σ') ∧ zC σ' a R T K G ds ks ∧ zKeep zCls σ σ'
def zMo (ym : Nat) (as : List Value) (σ : zm_Sig) (v : Value) (R T : zRo) (K : zK) (G : zG) (ds : List zDd) (ks : zKs) : Prop := ∃ σ', zM ym (.ref 118 :: as) zL σ = some (some v, zL, σ') ∧ zMm σ' R T K G ds ks ∧ zKeep zRfs σ σ'
theorem zCallV.of {yc ym : Nat} {as : List Value} {v : Value} {a' : Nat} {R' T' : zRo} {K' : zK} {G' : zG} {ds' : List zDd} {ks' : zKs} (hV : zVk G ds ks) (hV' : zVk G' ds' ks') (hM : zMm σ R T K G ds ks) (h1 : zCo yc as σ v a' R' T' K' G' ds' ks') (h2 : ∀ σ1, zMm σ1 R T K G ds ks → zMo ym as σ1 v R' T' K' G' ds' ks') : zCallV yc ym as σ := by
  obtain ⟨σ1, e1, hC1, hK1⟩ := h1
  obtain ⟨σ2, e2, hM2, hK2⟩ := h2 σ1 (hM.cls hV hK1 hC1.1)
  exact ⟨v, σ1, σ2, e1, e2, a', R', T', K', G', ds', ks', hC1.rfs hV' hK2 hM2.1, hM2, hV'⟩
theorem zCo.same {yc : Nat} {as : List Value} {v : Value} (h : zC σ a R T K G ds ks) (e : zM yc (.ref 0 :: as) zL σ = some (some v, zL, σ)) : zCo yc as σ v a R T K G ds ks := ⟨σ, e, h, zKeep.rf _ _⟩
theorem zMo.same {ym : Nat} {as : List Value} {v : Value} (h : zMm σ R T K G ds ks) (e : zM ym (.ref 118 :: as) zL σ = some (some v, zL, σ)) : zMo ym as σ v R T K G ds ks := ⟨σ, e, h, zKeep.rf _ _⟩
/-- told, found -/
def zKt (K : zK) (v : Int32) : zK := (v, K.2)
def zKf (K : zK) (f : Nat) : zK := (K.1, K.2.1, K.2.2.1, nI f, fun g => if g = f then K.2.2.2.2 f + 1 else K.2.2.2.2 g)
def zKu (K : zK) (u l : Int64) : zK := (K.1, u, l, K.2.2.2)
theorem zC.told (h : zC σ a R T K G ds ks) (hV : zVk G ds ks) (v : Int32) : zC (zm_wI σ 0 13 v) a R T (zKt K v) G ds ks := by
  have hK : zKeep (fun x k => x == 0 && k == 13) σ (zm_wI σ 0 13 v) := (zKeep.rf _ _).wI rfl
  obtain ⟨h1, h2, h3, ⟨k1, k2, k3, k4, k5⟩, h5⟩ := h
  refine ⟨h1, h2.keep hK (fun k => rfl) (fun r k hr => by simp <;> omega), h3.keep hK (fun k => rfl) (fun r k hr => by simp <;> omega), ⟨zw_same _ _ _ _, k2, k3, by rw [zw_ne _ _ (Or.inr (by decide))]; exact k4, fun f hf => by rw [zw_cell _ _ (by decide)]; exact k5 f hf⟩, h5.keep hV hK fun x k q => by
    have := zCi_f q
    have := h5.1
    unfold zGo at this
    simp
    omega⟩
theorem zMm.told (h : zMm σ R T K G ds ks) (hV : zVk G ds ks) (v : Int32) : zMm (zm_wI σ 118 26 v) R T (zKt K v) G ds ks := by
  have hK : zKeep (fun x k => x == 118 && k == 26) σ (zm_wI σ 118 26 v) := (zKeep.rf _ _).wI rfl
  obtain ⟨h1, h2, h3, ⟨k1, k2, k3, k4, k5⟩, h5⟩ := h
  refine ⟨h1, h2.keep hK (fun k => rfl) (fun k => rfl), h3.keep hK (fun k => rfl) (fun k => rfl), ⟨zw_same _ _ _ _, k2, k3, by rw [zw_ne _ _ (Or.inr (by decide))]; exact k4, fun f hf => by rw [zw_cell _ _ (by decide)]; exact k5 f hf⟩, h5.keep hV hK fun x k q => by
    have := zMi_f q
    simp
    omega⟩
theorem zC.found (h : zC σ a R T K G ds ks) (hV : zVk G ds ks) {f : Nat} (hf : f < 6) : zC (zc_found σ f) a R T (zKf K f) G ds ks := by
  have hK : zKeep (fun x k => (x == 0 && k == 16) || x == 76) σ (zc_found σ f) := ((zKeep.rf _ _).wI rfl).wI rfl
  obtain ⟨h1, h2, h3, ⟨k1, k2, k3, k4, k5⟩, h5⟩ := h
  refine ⟨h1, h2.keep hK (fun k => rfl) (fun r k hr => by simp <;> omega), h3.keep hK (fun k => rfl) (fun r k hr => by simp <;> omega), ⟨(hK.i rfl).trans k1, k2, k3, by unfold zc_found; rw [zw_cell _ _ (by decide), zw_same]; rfl, fun g hg => ?_⟩, h5.keep hV hK fun x k q => by
    have := zCi_f q
    have := h5.1
    unfold zGo at this
    simp
    omega⟩
  unfold zc_found
  rw [zwx, zw_cell _ _ (by decide), k5 f hf, k5 g hg]
  rfl
theorem zMm.found (h : zMm σ R T K G ds ks) (hV : zVk G ds ks) {f : Nat} (hf : f < 6) : zMm (zr_found σ f) R T (zKf K f) G ds ks := by
  have hK : zKeep (fun x k => (x == 118 && k == 29) || x == 139) σ (zr_found σ f) := ((zKeep.rf _ _).wI rfl).wI rfl
  obtain ⟨h1, h2, h3, ⟨k1, k2, k3, k4, k5⟩, h5⟩ := h
  refine ⟨h1, h2.keep hK (fun k => rfl) (fun k => rfl), h3.keep hK (fun k => rfl) (fun k => rfl), ⟨(hK.i rfl).trans k1, k2, k3, by unfold zr_found; rw [zw_cell _ _ (by decide), zw_same]; rfl, fun g hg => ?_⟩, h5.keep hV hK fun x k q => by
    have := zMi_f q
    simp
    omega⟩
  unfold zr_found
  rw [zwx, zw_cell _ _ (by decide), k5 f hf, k5 g hg]
  rfl
theorem zCo.found {yc : Nat} {as : List Value} {f : Nat} (h : zC σ a R T K G ds ks) (hV : zVk G ds ks) (hf : f < 6) (e : zM yc (.ref 0 :: as) zL σ = some (some (.int (-3)), zL, zc_found σ f)) : zCo yc as σ (.int (-3)) a R T (zKf K f) G ds ks := ⟨_, e, h.found hV hf, ((zKeep.rf _ _).wI rfl).wI rfl⟩
theorem zMo.found {ym : Nat} {as : List Value} {f : Nat} (h : zMm σ R T K G ds ks) (hV : zVk G ds ks) (hf : f < 6) (e : zM ym (.ref 118 :: as) zL σ = some (some (.int (-3)), zL, zr_found σ f)) : zMo ym as σ (.int (-3)) R T (zKf K f) G ds ks := ⟨_, e, h.found hV hf, ((zKeep.rf _ _).wI rfl).wI rfl⟩
theorem zCo.told {yc : Nat} {as : List Value} {w : Value} {v : Int32} (h : zC σ a R T K G ds ks) (hV : zVk G ds ks) (e : zM yc (.ref 0 :: as) zL σ = some (some w, zL, zm_wI σ 0 13 v)) : zCo yc as σ w a R T (zKt K v) G ds ks := ⟨_, e, h.told hV v, (zKeep.rf _ _).wI rfl⟩
theorem zMo.told {ym : Nat} {as : List Value} {w : Value} {v : Int32} (h : zMm σ R T K G ds ks) (hV : zVk G ds ks) (e : zM ym (.ref 118 :: as) zL σ = some (some w, zL, zm_wI σ 118 26 v)) : zMo ym as σ w R T (zKt K v) G ds ks := ⟨_, e, h.told hV v, (zKeep.rf _ _).wI rfl⟩
end ZIV
