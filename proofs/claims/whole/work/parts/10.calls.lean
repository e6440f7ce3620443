section ZMC
variable {p : Program} {l : Launch} {e : Env} {R : Room} {s : State} {m : MethodId} {args : Array Value} {below : List Frame} {meth : Method} {c : Code} {H : Heap} {locs : List Loc} {cells slots : Nat} {Q : State → Prop}
variable {base : Nat} {D : va_G} {ids : Nat → ClassId} {lay : zm_Lay} {σ : zm_Sig} {pc a : Nat} {ls : Array Slot} {rest : List Value} {P : Nat → Option zm_Mth} {M : zm_Mth}
theorem zm_nn {z : Int32} (hz : ¬ z < 0) : z.toInt = (z.toNatClampNeg : Int) :=
  (Int.toNat_of_nonneg (by simpa using Int32.le_iff_toInt_le.mp (Int32.not_lt.mp hz))).symm
/-- System.arraycopy between two arrays of one simple type: what the destination holds then -/
theorem zm_wcopy (hx : p.tables.exec = Jvm.exec) (hb : c.code = zm_by M) (hml : c.maxLocals = ls.size) {own : String} {idx : Nat} (hown : s.vm.findClass own = some m.cls) (hlink : (Cond.methodLink own idx arraycopyName).before args s = true) (hnat : (Cond.native arraycopyName).before args s = true) (hstat : (Cond.static arraycopyName).before args s = true) (hini : (Cond.initialized "java/lang/System").before args s = true)
    {α : Type} (mk : α → Value) {cA : ClassId} {ty : FieldType} (hAr : ArrOfT s cA ty) (hprim : refKind ty = false) (hfitAll : ∀ z, fits ty (mk z) = true) (hmk : ∀ z, (mk z).category = 1 ∨ (mk z).category = 2) {s0 d n0 n1 : Nat} {f g : Nat → α} (hc0 : H[s0]? = some (arrV cA n0 fun j => mk (f j))) (hc1 : H[d]? = some (arrV cA n1 fun j => mk (g j))) (hnr : ∀ z, ∀ a, mk z ≠ .ref a)
    {sp dp n : Int32} (h1 : ¬ sp < 0) (h2 : ¬ dp < 0) (h3 : ¬ n < 0) (h4 : sp.toNatClampNeg + n.toNatClampNeg ≤ n0) (h5 : dp.toNatClampNeg + n.toNatClampNeg ≤ n1)
    (hframes : 1 ≤ R.frames) (hlocals : (rest.map fun v => v.category).sum + (nativeFrameWords "java/lang/System" "arraycopy" 5 + 11) ≤ R.locals) (hdg : decode (zm_by M) pc = .ok (.invokestatic idx, 3)) (hS : va_S (zm_A base) s.heap H locs) (hd : base ≤ d)
    (kk : ∀ (H1 : Heap) (locs1 : List Loc), H1[d]? = some (arrV cA n1 fun j => mk (va_cpy f g sp.toNatClampNeg dp.toNatClampNeg n.toNatClampNeg j)) → H1.size = H.size → (∀ q, q ≠ d → H1[q]? = H[q]?) → va_S (zm_A base) s.heap H1 locs1 → W p l e R s m args below meth c H1 locs1 cells slots Q (F0 m (pc + 3) ls rest)) :
    W p l e R s m args below meth c H locs cells slots Q (F0 m pc ls (.int n :: .int dp :: .ref d :: .int sp :: .ref s0 :: rest)) := by
  have din : d < H.size := (Array.getElem?_eq_some_iff.mp hc1).1
  obtain ⟨-, kq, hkq, cm, hkd⟩ := hAr n0 fun j => mk (f j)
  have el : ∀ q, q < n0 → (arrV cA n0 fun j => mk (f j)).slots.getD q .null = mk (f q) := fun q hq => by
    simp [Array.getD_eq_getD_getElem?, arrV_read _ _ hq]
  have plain : ∀ (U : State) (cd : ClassId) (z : α), U.takes cd (mk z) := fun U cd z => by
    have no := hnr z
    revert no
    generalize mk z = w
    intro no
    cases w with
    | ref a => exact absurd rfl (no a)
    | _ => trivial
  refine W.of (H' := H.setIfInBounds d (arrV cA n1 fun j => mk (va_cpy f g sp.toNatClampNeg dp.toNatClampNeg n.toNatClampNeg j)))
    (locs' := locs ++ ((arrV cA n0 fun j => mk (f j)).stretch sp.toNatClampNeg n.toNatClampNeg).zipIdx.map fun q => ⟨d, dp.toNatClampNeg + q.2⟩) (fun T hT X => ?_) (kk _ _ ?_ ?_ ?_ ?_)
  · subst hT
    obtain ⟨w, Y, st⟩ := X.arraycopy hx hown hlink hnat hstat hini (srcPos := sp) (destPos := dp) (n := n) hc0 hc1 nofun nofun nofun nofun hkq hkq hkd hkd (by rw [hprim]; simp) h1 h2 h3
      (by rw [zm_nn h1, zm_nn h3, arrV_size]; omega) (by rw [zm_nn h2, zm_nn h3, arrV_size]; omega)
      (fun U _ i hi => by rw [el _ (by omega)]; exact ⟨hfitAll _, plain _ _ _⟩) (g := F0 m pc ls (.int n :: .int dp :: .ref d :: .int sp :: .ref s0 :: rest)) rfl hml.symm rfl (by rw [hb]; exact hdg) hframes (by simpa using hlocals)
    unfold copied at Y st
    rw [va_copied mk cA cA f g h4] at Y st
    exact ⟨_, rfl, Y, st⟩
  · simp [Array.getElem?_setIfInBounds, din]
  · exact Array.size_setIfInBounds
  · intro q hq
    simp [Array.getElem?_setIfInBounds, Ne.symm hq]
  · refine ⟨by simpa using hS.1, fun q g1 g2 => ?_, fun q hq => ?_⟩
    · have hqd : d ≠ q := fun h => g2 (h ▸ hd)
      simpa [Array.getElem?_setIfInBounds, hqd] using hS.2.1 q g1 g2
    · rcases List.mem_append.mp hq with h | h
      · exact hS.2.2 q h
      · obtain ⟨z, -, rfl⟩ := List.mem_map.mp h
        exact hd
/-- what a callee's row says -/
theorem zm_okc_spec {kd idx : Nat} {rs : List Nat} (h : zm_okc P M kd idx rs = true) : ∃ (y np cN mc ms rk ti nest : Nat) (N : zm_Mth), rs = [y, np, cN, mc, ms, rk, ti, nest] ∧ P y = some N ∧ (zm_ix N).2.1 = np ∧ (zm_ix N).1 = cN ∧ (zm_ix N).2.2 = kd ∧ (zm_ro N).2.2.1 = mc ∧ (zm_ro N).2.2.2 = ms
    ∧ (zm_ro N).1 + 1 ≤ (zm_ro M).1 ∧ 8 + (zm_ml N + 11) + (zm_ro N).2.1 ≤ (zm_ro M).2.1 ∧ ((nest = 0 ∧ zm_wd ti (.methodLink (zm_nm M).cls idx (zm_nm N)) = true) ∨ (nest ≠ 0 ∧ zm_wn ti (.methodLinkNest (zm_nm M).cls idx (zm_nm N) "SubgroupWriter") = true)) := by
  unfold zm_okc at h
  split at h
  · next y np cN mc ms rk ti nest =>
    split at h
    · next N hN =>
      simp only [Bool.and_eq_true, decide_eq_true_eq] at h
      obtain ⟨⟨⟨⟨⟨⟨⟨h1, h2⟩, h3⟩, h4⟩, h5⟩, h6⟩, h7⟩, h8⟩ := h
      refine ⟨y, np, cN, mc, ms, rk, ti, nest, N, rfl, hN, h1, h2, h3, h4, h5, h6, h7, ?_⟩
      by_cases hn : nest = 0
      · rw [if_pos hn] at h8; exact Or.inl ⟨hn, h8⟩
      · rw [if_neg hn] at h8; exact Or.inr ⟨hn, h8⟩
    · cases h
  · cases h
theorem zm_okm_spec (h : zm_okm M = true) : plainFor (zm_nm M) = true ∧ ((zm_nm M).cls ≠ "java/lang/invoke/MethodHandle" ∧ (zm_nm M).cls ≠ "java/lang/invoke/VarHandle" ∧ (parseMethodDescriptor (zm_nm M).desc).map (fun d => d.parameters.length) = some (zm_ix M).2.1)
    ∧ Cond.code (zm_nm M) (zm_by M) (zm_ml M) (zm_rt M) ∈ zm_Tb ∧ Cond.initialized (zm_nm M).cls ∈ zm_Tb ∧ ((zm_ix M).2.2 = 0 → Cond.instanceMethod (zm_nm M) ∈ zm_Tb ∧ Cond.selects (zm_nm M).cls (zm_nm M) (zm_nm M) ∈ zm_Tb ∧ (zm_CF[(zm_ix M).1]?).map (·.1) = some (zm_nm M).cls) ∧ ((zm_ix M).2.2 = 1 → Cond.static (zm_nm M) ∈ zm_Tb)
    ∧ ((zm_ix M).2.2 = 2 → Cond.instanceMethod (zm_nm M) ∈ zm_Tb ∧ (zm_nm M).name = "<init>" ∧ zm_rt M = none) := by
  unfold zm_okm at h
  simp only [Bool.and_eq_true, decide_eq_true_eq, Bool.not_eq_true', decide_eq_false_iff_not] at h
  obtain ⟨⟨⟨⟨h1, h2⟩, h3⟩, h4⟩, h5⟩ := h
  refine ⟨h1, ⟨h2, h3, h4⟩, ?_⟩
  split at h5
  · next q _ =>
    simp only [Bool.and_eq_true, decide_eq_true_eq] at h5
    obtain ⟨⟨⟨⟨g1, g2⟩, g3⟩, g4⟩, g5⟩ := h5
    exact ⟨zm_wd_mem g1, zm_wd_mem g4, fun _ => ⟨zm_wd_mem g2, zm_wd_mem g3, g5⟩, fun z => by rw [q] at z; omega, fun z => by rw [q] at z; omega⟩
  · next q _ =>
    simp only [Bool.and_eq_true, decide_eq_true_eq] at h5
    obtain ⟨⟨g1, g2⟩, g3⟩ := h5
    exact ⟨zm_wd_mem g1, zm_wd_mem g3, fun z => by rw [q] at z; omega, fun _ => zm_wd_mem g2, fun z => by rw [q] at z; omega⟩
  · next q _ =>
    simp only [Bool.and_eq_true, decide_eq_true_eq] at h5
    obtain ⟨⟨⟨⟨g1, g2⟩, g3⟩, g4⟩, g5⟩ := h5
    exact ⟨zm_wd_mem g1, zm_wd_mem g3, fun z => by rw [q] at z; omega, fun z => by rw [q] at z; omega, fun _ => ⟨zm_wd_mem g2, g4, g5⟩⟩
  · cases h5
theorem zm_wsgood {N : zm_Mth} (h : Cond.code (zm_nm N) (zm_by N) (zm_ml N) (zm_rt N) ∈ zm_Tb) : ∀ w ∈ zm_ws N, w ∈ zm_Tb := fun w hw => by
  rcases List.mem_cons.mp hw with rfl | hw
  · exact h
  · exact hw
theorem zm_pre {av : List Value} (hK : zm_KU D ids s) (hH : zm_H base D ids lay σ H) : ∀ U : State, U.heap = H → s.WarmedH U.vm → zm_Pc base D ids av lay σ (av.map (zm_tr base)).toArray U := fun U hU hW => ⟨rfl, by rw [hU]; exact hH, hK.warm hW⟩
/-- a call of a method of an object -/
theorem zm_wvirt (hOk : zm_Ok P) {n : Nat} (ih : zm_Snd P l base D ids n) (B : zm_B p s m args meth c M) (hK : zm_KU D ids s) (hH : zm_H base D ids lay σ H) (hS : va_S (zm_A base) s.heap H locs) (hls : ls.size = zm_ml M) {idx y np cN mc ms : Nat} {rs : List Nat} (hkr : zm_okc P M 0 idx (y :: np :: cN :: mc :: ms :: rs) = true)
    {N : zm_Mth} (hN : P y = some N) {st : List Value} {r : List Value} (hst : st.drop np = .ref a :: r) (ha : lay[a]? = some (0, cN)) (hroom : (r.map fun v => v.category).sum ≤ 8) (hcap : cells + mc ≤ (zm_ro M).2.2.1 ∧ slots + ms ≤ (zm_ro M).2.2.2)
    (hsl : (lg_sl (.ref a :: (st.take np).reverse)).length ≤ zm_ml N) {out : zm_Out} (hrun : zm_run P n y (0, lv_args 0 (.ref a :: (st.take np).reverse), [], lay, σ, 0, 0) = some out) (hdg : decode (zm_by M) pc = .ok (.invokevirtual idx, 3))
    (kk : ∀ (H1 : Heap) (locs1 : List Loc), zm_H base D ids out.2.1 out.2.2 H1 → va_S (zm_A base) s.heap H1 locs1 → W p l e (zm_rm M) s m args below meth c H1 locs1 (cells + mc) (slots + ms) Q (F0 m (pc + 3) ls ((out.1.map (zm_tr base)).toList ++ r.map (zm_tr base)))) :
    W p l e (zm_rm M) s m args below meth c H locs cells slots Q (F0 m pc ls (st.map (zm_tr base))) := by
  obtain ⟨hx, hb, hr, hml, hown, hts, hlocks, hname⟩ := B
  obtain ⟨y', np', cN', mc', ms', rk', ti, nest, N', hrs, hN', o1, o2, o3, o4, o5, o6, o7, o8⟩ := zm_okc_spec hkr
  cases hrs
  have hNN : N' = N := Option.some.inj (hN'.symm.trans hN)
  subst hNN
  obtain ⟨m1, m2, m3, m4, m5, -, -⟩ := zm_okm_spec (hOk.1 y N' hN).1
  obtain ⟨m6, m7, m8⟩ := m5 o3
  have hM := zm_met ih hN m1 hsl hrun (base := base) (D := D) (ids := ids)
  rw [o4, o5] at hM
  have hlen : np ≤ st.length := by
    rcases Nat.lt_or_ge st.length np with q | q
    · rw [List.drop_eq_nil_of_le (by omega)] at hst; cases hst
    · exact q
  have hAs : (((st.take np).reverse).map (zm_tr base)).length = np := by simp [Nat.min_eq_left hlen]
  have hstack : st.map (zm_tr base) = (((st.take np).reverse).map (zm_tr base)).reverse ++ .ref (base + a) :: r.map (zm_tr base) := by
    conv => lhs; rw [← List.take_append_drop np st, hst]
    simp [zm_tr]
  have hrec : ∃ cellB : Cell, H[base + a]? = some cellB ∧ cellB.vm.isStatics = false ∧ s.vm.findClass (zm_nm N').cls = some cellB.cls := by
    obtain ⟨r9, h9, -⟩ := hH.2 a _ ha
    have e9 : r9.1 = (zm_nm N').cls := by
      rw [← o2] at h9
      have h9 : zm_cl[(zm_ix N').1]? = some r9 := h9
      unfold zm_cl at h9
      rw [List.getElem?_map] at h9
      cases hz : zm_CF[(zm_ix N').1]? with
      | none => rw [hz] at h9; cases h9
      | some z =>
        rw [hz] at h9 m8
        cases h9
        exact Option.some.inj m8
    rw [← e9]
    exact va_recv hK.1 (zm_one hH ha) h9 (q0 := 0) rfl
  have hcat : ((r.map (zm_tr base)).map fun v => v.category).sum ≤ 8 := by
    rw [List.map_map]
    have : (r.map ((fun v => v.category) ∘ zm_tr base)) = r.map fun v => v.category := List.map_congr_left fun v _ => zm_tr_cat base v
    rw [this]; exact hroom
  rw [hstack]
  rcases o8 with ⟨-, hw⟩ | ⟨-, hw⟩
  · refine zm_called (va_runV (C := (zm_nm N').cls) (b := base + a) (As := ((st.take np).reverse).map (zm_tr base)) (rest := r.map (zm_tr base)) ⟨hx, hb, hml, hown, hts⟩ hM (cwV np hts (zm_good fun w hw' => ?_) rfl o4 o5 ⟨rfl, m2.1, m2.2.1, by rw [m2.2.2, o1]⟩ ⟨o6, o7⟩) ⟨zm_blind, hrec, zm_pre (av := .ref a :: (st.take np).reverse) hK hH⟩ rfl hAs hls rfl (lv_room hcat) hdg hcap) hS kk
    rcases List.mem_append.mp hw' with h | h
    · simp only [List.mem_cons, List.not_mem_nil, or_false] at h
      rcases h with rfl | rfl | rfl | rfl
      · exact zm_wd_mem hw
      · exact m6
      · exact m7
      · exact m4
    · exact zm_wsgood m3 w h
  · simp only [zm_wn, Bool.and_eq_true, decide_eq_true_eq] at hw
    have hts' : ∀ w ∈ zm_Tb, w.before args s = true := fun w h => hts w (List.mem_cons_of_mem _ h)
    exact zm_called (va_runVN (C := (zm_nm N').cls) (host := "SubgroupWriter") (b := base + a) (As := ((st.take np).reverse).map (zm_tr base)) (rest := r.map (zm_tr base)) ⟨hx, hb, hml, hown, hts⟩ hM ⟨va_cnB np hts (zm_good (zm_wsgood m3)) rfl o4 o5 (hK.2.1 _ (List.mem_of_getElem? hw.1) hw.2) (hts' _ m4) ⟨m2.1, m2.2.1, by rw [m2.2.2, o1]⟩ ⟨o6, o7⟩, hts' _ m6, hts' _ m7⟩ ⟨zm_blind, hrec, zm_pre (av := .ref a :: (st.take np).reverse) hK hH⟩ rfl hAs hls rfl (lv_room hcat) hdg hcap) hS kk
/-- a call of a static method -/
theorem zm_wstat (hOk : zm_Ok P) {n : Nat} (ih : zm_Snd P l base D ids n) (B : zm_B p s m args meth c M) (hK : zm_KU D ids s) (hH : zm_H base D ids lay σ H) (hS : va_S (zm_A base) s.heap H locs) (hls : ls.size = zm_ml M) {idx y np cN mc ms : Nat} {rs : List Nat} (hkr : zm_okc P M 1 idx (y :: np :: cN :: mc :: ms :: rs) = true)
    {N : zm_Mth} (hN : P y = some N) {st : List Value} (hlen : np ≤ st.length) (hroom : ((st.drop np).map fun v => v.category).sum ≤ 8) (hcap : cells + mc ≤ (zm_ro M).2.2.1 ∧ slots + ms ≤ (zm_ro M).2.2.2)
    (hsl : (lg_sl ((st.take np).reverse)).length ≤ zm_ml N) {out : zm_Out} (hrun : zm_run P n y (0, lv_args 0 ((st.take np).reverse), [], lay, σ, 0, 0) = some out) (hdg : decode (zm_by M) pc = .ok (.invokestatic idx, 3))
    (kk : ∀ (H1 : Heap) (locs1 : List Loc), zm_H base D ids out.2.1 out.2.2 H1 → va_S (zm_A base) s.heap H1 locs1 → W p l e (zm_rm M) s m args below meth c H1 locs1 (cells + mc) (slots + ms) Q (F0 m (pc + 3) ls ((out.1.map (zm_tr base)).toList ++ (st.drop np).map (zm_tr base)))) :
    W p l e (zm_rm M) s m args below meth c H locs cells slots Q (F0 m pc ls (st.map (zm_tr base))) := by
  obtain ⟨hx, hb, hr, hml, hown, hts, hlocks, hname⟩ := B
  obtain ⟨y', np', cN', mc', ms', rk', ti, nest, N', hrs, hN', o1, o2, o3, o4, o5, o6, o7, o8⟩ := zm_okc_spec hkr
  cases hrs
  have hNN : N' = N := Option.some.inj (hN'.symm.trans hN)
  subst hNN
  obtain ⟨m1, m2, m3, m4, -, m5, -⟩ := zm_okm_spec (hOk.1 y N' hN).1
  have m6 := m5 o3
  have hM := zm_met ih hN m1 hsl hrun (base := base) (D := D) (ids := ids)
  rw [o4, o5] at hM
  have hAs : (((st.take np).reverse).map (zm_tr base)).length = np := by simp [Nat.min_eq_left hlen]
  have hstack : st.map (zm_tr base) = (((st.take np).reverse).map (zm_tr base)).reverse ++ (st.drop np).map (zm_tr base) := by
    conv => lhs; rw [← List.take_append_drop np st]
    simp
  have hcat : (((st.drop np).map (zm_tr base)).map fun v => v.category).sum ≤ 8 := by
    rw [List.map_map]
    have : ((st.drop np).map ((fun v => v.category) ∘ zm_tr base)) = (st.drop np).map fun v => v.category := List.map_congr_left fun v _ => zm_tr_cat base v
    rw [this]; exact hroom
  have hts' : ∀ w ∈ zm_Tb, w.before args s = true := fun w h => hts w (List.mem_cons_of_mem _ h)
  rw [hstack]
  rcases o8 with ⟨-, hw⟩ | ⟨-, hw⟩
  · exact zm_called (va_runS (As := ((st.take np).reverse).map (zm_tr base)) (rest := (st.drop np).map (zm_tr base)) ⟨hx, hb, hml, hown, hts⟩ hM ⟨callB_of np hts (zm_good (zm_wsgood m3)) rfl o4 o5 (hts' _ m4) (hts' _ (zm_wd_mem hw)) ⟨m2.1, m2.2.1, by rw [m2.2.2, o1]⟩ ⟨o6, o7⟩, hts' _ m6⟩ ⟨zm_blind, zm_pre (av := (st.take np).reverse) hK hH⟩ rfl hAs hls rfl (lv_room hcat) hdg hcap) hS kk
  · simp only [zm_wn, Bool.and_eq_true, decide_eq_true_eq] at hw
    exact zm_called (va_runSN (host := "SubgroupWriter") (As := ((st.take np).reverse).map (zm_tr base)) (rest := (st.drop np).map (zm_tr base)) ⟨hx, hb, hml, hown, hts⟩ hM ⟨va_cnB np hts (zm_good (zm_wsgood m3)) rfl o4 o5 (hK.2.1 _ (List.mem_of_getElem? hw.1) hw.2) (hts' _ m4) ⟨m2.1, m2.2.1, by rw [m2.2.2, o1]⟩ ⟨o6, o7⟩, hts' _ m6, trivial⟩ ⟨zm_blind, zm_pre (av := (st.take np).reverse) hK hH⟩ rfl hAs hls rfl (lv_room hcat) hdg hcap) hS kk
/-- a constructor's call -/
theorem zm_wctor (hOk : zm_Ok P) {n : Nat} (ih : zm_Snd P l base D ids n) (B : zm_B p s m args meth c M) (hK : zm_KU D ids s) (hH : zm_H base D ids lay σ H) (hS : va_S (zm_A base) s.heap H locs) (hls : ls.size = zm_ml M) {idx y np cN mc ms : Nat} {rs : List Nat} (hkr : zm_okc P M 2 idx (y :: np :: cN :: mc :: ms :: rs) = true)
    {N : zm_Mth} (hN : P y = some N) {st : List Value} {r : List Value} (hst : st.drop np = .ref a :: r) (hroom : (r.map fun v => v.category).sum ≤ 8) (hcap : cells + mc ≤ (zm_ro M).2.2.1 ∧ slots + ms ≤ (zm_ro M).2.2.2)
    (hsl : (lg_sl (.ref a :: (st.take np).reverse)).length ≤ zm_ml N) {out : zm_Out} (hrun : zm_run P n y (0, lv_args 0 (.ref a :: (st.take np).reverse), [], lay, σ, 0, 0) = some out) (hdg : decode (zm_by M) pc = .ok (.invokespecial idx, 3))
    (kk : ∀ (H1 : Heap) (locs1 : List Loc), zm_H base D ids out.2.1 out.2.2 H1 → va_S (zm_A base) s.heap H1 locs1 → W p l e (zm_rm M) s m args below meth c H1 locs1 (cells + mc) (slots + ms) Q (F0 m (pc + 3) ls ((out.1.map (zm_tr base)).toList ++ r.map (zm_tr base)))) :
    W p l e (zm_rm M) s m args below meth c H locs cells slots Q (F0 m pc ls (st.map (zm_tr base))) := by
  obtain ⟨hx, hb, hr, hml, hown, hts, hlocks, hname⟩ := B
  obtain ⟨y', np', cN', mc', ms', rk', ti, nest, N', hrs, hN', o1, o2, o3, o4, o5, o6, o7, o8⟩ := zm_okc_spec hkr
  cases hrs
  have hNN : N' = N := Option.some.inj (hN'.symm.trans hN)
  subst hNN
  obtain ⟨m1, m2, m3, m4, -, -, m5⟩ := zm_okm_spec (hOk.1 y N' hN).1
  obtain ⟨m6, m7, m8⟩ := m5 o3
  have hM := zm_met ih hN m1 hsl hrun (base := base) (D := D) (ids := ids)
  rw [o4, o5] at hM
  have hlen : np ≤ st.length := by
    rcases Nat.lt_or_ge st.length np with q | q
    · rw [List.drop_eq_nil_of_le (by omega)] at hst; cases hst
    · exact q
  have hAs : (((st.take np).reverse).map (zm_tr base)).length = np := by simp [Nat.min_eq_left hlen]
  have hstack : st.map (zm_tr base) = (((st.take np).reverse).map (zm_tr base)).reverse ++ .ref (base + a) :: r.map (zm_tr base) := by
    conv => lhs; rw [← List.take_append_drop np st, hst]
    simp [zm_tr]
  have hcat : ((r.map (zm_tr base)).map fun v => v.category).sum ≤ 8 := by
    rw [List.map_map]
    have : (r.map ((fun v => v.category) ∘ zm_tr base)) = r.map fun v => v.category := List.map_congr_left fun v _ => zm_tr_cat base v
    rw [this]; exact hroom
  have hts' : ∀ w ∈ zm_Tb, w.before args s = true := fun w h => hts w (List.mem_cons_of_mem _ h)
  have hws : zm_ws N' = Cond.code (zm_nm N') (zm_by N') (zm_ml N') none :: zm_Tb := by unfold zm_ws; rw [m8]
  rw [hstack]
  rcases o8 with ⟨-, hw⟩ | ⟨-, hw⟩
  · exact zm_called (va_runI (bytes := zm_by N') (maxL := zm_ml N') (b := base + a) (As := ((st.take np).reverse).map (zm_tr base)) (rest := r.map (zm_tr base)) ⟨hx, hb, hml, hown, hts⟩ hM ⟨callB_of np hts (zm_good (zm_wsgood m3)) hws o4 o5 (hts' _ m4) (hts' _ (zm_wd_mem hw)) ⟨m2.1, m2.2.1, by rw [m2.2.2, o1]⟩ ⟨o6, o7⟩, m7, hts' _ m6⟩ ⟨zm_blind, zm_pre (av := .ref a :: (st.take np).reverse) hK hH⟩ rfl hAs hls rfl (lv_room hcat) hdg hcap) hS kk
  · simp only [zm_wn, Bool.and_eq_true, decide_eq_true_eq] at hw
    exact zm_called (va_runIN (bytes := zm_by N') (maxL := zm_ml N') (host := "SubgroupWriter") (b := base + a) (As := ((st.take np).reverse).map (zm_tr base)) (rest := r.map (zm_tr base)) ⟨hx, hb, hml, hown, hts⟩ hM ⟨va_cnB np hts (zm_good (zm_wsgood m3)) hws o4 o5 (hK.2.1 _ (List.mem_of_getElem? hw.1) hw.2) (hts' _ m4) ⟨m2.1, m2.2.1, by rw [m2.2.2, o1]⟩ ⟨o6, o7⟩, m7, hts' _ m6⟩ ⟨zm_blind, zm_pre (av := .ref a :: (st.take np).reverse) hK hH⟩ rfl hAs hls rfl (lv_room hcat) hdg hcap) hS kk
theorem zm_clr_at (σ : zm_Sig) (a : Nat) : (zm_clr σ a).1 a = (fun _ => 0) ∧ (zm_clr σ a).2.1 a = (fun _ => 0) ∧ (zm_clr σ a).2.2 a = (fun _ => none) := ⟨if_pos rfl, if_pos rfl, if_pos rfl⟩
theorem zm_S_grow {H1 : Heap} (hS : va_S (zm_A base) s.heap H locs) (z : H.size ≤ H1.size) (oq : ∀ q : Nat, q < H.size → H1[q]? = H[q]?) : va_S (zm_A base) s.heap H1 locs := ⟨Nat.le_trans hS.1 z, fun q h1 h2 => (oq q (Nat.lt_of_lt_of_le h1 hS.1)).trans (hS.2.1 q h1 h2), hS.2.2⟩
/-- new: an object -/
theorem zm_wnew (hOk : zm_Ok P) (B : zm_B p s m args meth c M) (hK : zm_KU D ids s) (hH : zm_H base D ids lay σ H) (hS : va_S (zm_A base) s.heap H locs) {cN ti idx : Nat} {cf : String × List (String × String × Bool)} (hcf : zm_CF[cN]? = some cf) (hw : zm_wd ti (.classLink (zm_nm M).cls idx cf.1) = true)
    (hc : cells + 1 ≤ R.cells) (hs : slots + cf.2.length ≤ R.slots) (hdg : decode (zm_by M) pc = .ok (.new idx, 3))
    (kk : ∀ H1 : Heap, zm_H base D ids (lay ++ [(0, cN)]) (zm_clr σ lay.length) H1 → va_S (zm_A base) s.heap H1 locs → W p l e R s m args below meth c H1 locs (cells + 1) (slots + cf.2.length) Q (F0 m (pc + 3) ls (.ref (base + lay.length) :: rest))) : W p l e R s m args below meth c H locs cells slots Q (F0 m pc ls rest) := by
  obtain ⟨hx, hb, hr, hml, hown, hts, hlocks, hname⟩ := B
  obtain ⟨c1, c2, c3, c4, c5, ft, c6, c7, c8⟩ := zm_class0 hOk (M := M) hcf
  have hKn := hK.1.1 cN _ c1
  refine W.newcK hx hb hown (hts _ (List.mem_cons_of_mem _ (zm_wd_mem hw))) (hts _ c2) (hts _ c3) rfl hdg hc hs hKn.2.1 hH.1 fun H1 kC hkC e1 z1 o1 => ?_
  rw [← hH.1] at e1 z1 o1
  refine kk H1 (hH.grow z1 o1 (fun j sh hj => ?_) (fun b sh hb => zm_cell_clr sh (by omega))) (zm_S_grow hS (by omega) o1)
  have hj0 : j < 1 := (List.getElem?_eq_some_iff.mp hj).1
  have hj1 : j = 0 := by omega
  subst hj1
  cases hj
  refine ⟨_, c1, (u_born (zm_ty0 cf) hts c4 hKn hkC e1 c5).to fun k hk => ?_⟩
  obtain ⟨q1, q2, q3⟩ := zm_clr_at σ lay.length
  have hk' : k < ft.length := by rw [← c7]; exact hk
  have htk : ft[k]? = some ft[k] := List.getElem?_eq_getElem hk'
  have h8 := c8 k hk
  rw [List.getD_eq_getElem?_getD, htk] at h8
  show _ = vp_V (zm_fl base (zm_clr σ lay.length) lay.length cN) k
  unfold vp_V
  rw [List.getD_eq_getElem?_getD, zm_fl_at c6 htk]
  show defaultValue (zm_ty0 cf k) = zm_tr base (zm_fv (zm_clr σ lay.length) lay.length k ft[k])
  unfold zm_fv
  rw [q1, q2, q3]
  generalize ft[k] = t at h8 ⊢
  generalize zm_ty0 cf k = ty at h8 ⊢
  have h8 : zm_tyok t ty = true := h8
  unfold zm_tyok at h8
  split at h8 <;> first | rfl | cases h8
/-- new int[n], long[n], boolean[n] -/
theorem zm_wnewa (B : zm_B p s m args meth c M) (hK : zm_KU D ids s) (hH : zm_H base D ids lay σ H) (hS : va_S (zm_A base) s.heap H locs) {kd : Nat} {t : ArrayType} (hkt : (kd = 1 ∧ t = .int) ∨ (kd = 2 ∧ t = .long) ∨ (kd = 3 ∧ t = .boolean)) {n : Int32} (hn : ¬ n < 0) (hb0 : n.toNatClampNeg ≤ 60000)
    (hc : cells + 1 ≤ R.cells) (hs : slots + n.toNatClampNeg ≤ R.slots) (hdg : decode (zm_by M) pc = .ok (.newarray t, 2)) (hac : Cond.arrayClass .int ∈ zm_Tb ∧ Cond.arrayClass .long ∈ zm_Tb ∧ Cond.arrayClass .boolean ∈ zm_Tb)
    (kk : ∀ H1 : Heap, zm_H base D ids (lay ++ [(kd, n.toNatClampNeg)]) (zm_clr σ lay.length) H1 → va_S (zm_A base) s.heap H1 locs → W p l e R s m args below meth c H1 locs (cells + 1) (slots + n.toNatClampNeg) Q (F0 m (pc + 2) ls (.ref (base + lay.length) :: rest))) : W p l e R s m args below meth c H locs cells slots Q (F0 m pc ls (.int n :: rest)) := by
  obtain ⟨hx, hb, hr, hml, hown, hts, hlocks, hname⟩ := B
  have hts' : ∀ w ∈ zm_Tb, w.before args s = true := fun w h => hts w (List.mem_cons_of_mem _ h)
  obtain ⟨q1, q2, q3⟩ := zm_clr_at σ lay.length
  rcases hkt with ⟨rfl, rfl⟩ | ⟨rfl, rfl⟩ | ⟨rfl, rfl⟩
  · refine va_newaK (atype := .int) hx hb (hts' _ hac.1) rfl hdg rfl hn rfl (by show _ * 4 ≤ _; omega) hc hs hH.1 fun H1 cA e1 z1 o1 _ hNm => ?_
    rw [← hH.1] at e1 z1 o1
    have e9 : cA = ids 1 := Option.some.inj (hNm.symm.trans (hK.1.2 0 _ rfl).2)
    subst e9
    refine kk H1 (hH.grow z1 o1 (fun j sh hj => ?_) (fun b sh hb => zm_cell_clr sh (by omega))) (zm_S_grow hS (by omega) o1)
    have hj0 : j < 1 := (List.getElem?_eq_some_iff.mp hj).1
    have hj1 : j = 0 := by omega
    subst hj1
    cases hj
    show H1[H.size]? = some (vp_cell (ids 1) (_, .inl ((zm_clr σ lay.length).1 lay.length)))
    rw [q1]
    exact e1
  · refine va_newaK (atype := .long) hx hb (hts' _ hac.2.1) rfl hdg rfl hn rfl (by show _ * 8 ≤ _; omega) hc hs hH.1 fun H1 cA e1 z1 o1 _ hNm => ?_
    rw [← hH.1] at e1 z1 o1
    have e9 : cA = ids 2 := Option.some.inj (hNm.symm.trans (hK.1.2 1 _ rfl).2)
    subst e9
    refine kk H1 (hH.grow z1 o1 (fun j sh hj => ?_) (fun b sh hb => zm_cell_clr sh (by omega))) (zm_S_grow hS (by omega) o1)
    have hj0 : j < 1 := (List.getElem?_eq_some_iff.mp hj).1
    have hj1 : j = 0 := by omega
    subst hj1
    cases hj
    show H1[H.size]? = some (vp_cell (ids 2) (_, .inr (.inl ((zm_clr σ lay.length).2.1 lay.length))))
    rw [q2]
    exact e1
  · refine va_newaK (atype := .boolean) hx hb (hts' _ hac.2.2) rfl hdg rfl hn rfl (by show _ * 1 ≤ _; omega) hc hs hH.1 fun H1 cA e1 z1 o1 _ hNm => ?_
    rw [← hH.1] at e1 z1 o1
    have e9 : cA = ids 3 := Option.some.inj (hNm.symm.trans (hK.1.2 2 _ rfl).2)
    subst e9
    refine kk H1 (hH.grow z1 o1 (fun j sh hj => ?_) (fun b sh hb => zm_cell_clr sh (by omega))) (zm_S_grow hS (by omega) o1)
    have hj0 : j < 1 := (List.getElem?_eq_some_iff.mp hj).1
    have hj1 : j = 0 := by omega
    subst hj1
    cases hj
    show H1[H.size]? = some (vp_cell (ids 3) (_, .inl ((zm_clr σ lay.length).1 lay.length)))
    rw [q1]
    exact e1
/-- new Trail[n] -/
theorem zm_wanew (B : zm_B p s m args meth c M) (hK : zm_KU D ids s) (hH : zm_H base D ids lay σ H) (hS : va_S (zm_A base) s.heap H locs) {idx ti : Nat} (hw : zm_wd ti (.classLink (zm_nm M).cls idx "SubgroupWriter$Trail") = true) {n : Int32} (hn : ¬ n < 0) (hb0 : n.toNatClampNeg ≤ 60000)
    (hc : cells + 1 ≤ R.cells) (hs : slots + n.toNatClampNeg ≤ R.slots) (hdg : decode (zm_by M) pc = .ok (.anewarray idx, 3))
    (kk : ∀ H1 : Heap, zm_H base D ids (lay ++ [(5, n.toNatClampNeg)]) (zm_clr σ lay.length) H1 → va_S (zm_A base) s.heap H1 locs → W p l e R s m args below meth c H1 locs (cells + 1) (slots + n.toNatClampNeg) Q (F0 m (pc + 3) ls (.ref (base + lay.length) :: rest))) : W p l e R s m args below meth c H locs cells slots Q (F0 m pc ls (.int n :: rest)) := by
  obtain ⟨hx, hb, hr, hml, hown, hts, hlocks, hname⟩ := B
  obtain ⟨q1, q2, q3⟩ := zm_clr_at σ lay.length
  refine W.anew hx hb hown (hts _ (List.mem_cons_of_mem _ (zm_wd_mem hw))) (va_AO.use hK.2.2.2) rfl hdg rfl hn (by omega) hc hs fun cA kA comp f1 f2 f3 f4 => ?_
  obtain ⟨_, _, _, _, _, f5⟩ := (hK.1.2 4 _ rfl).2
  have e9 : cA = ids 5 := Option.some.inj (f1.symm.trans f5)
  subst e9
  generalize hH1 : H.push ({ cls := ids 5, slots := Array.replicate n.toNatClampNeg .null, vm := .none } : Cell) = H1
  have z1 : H1.size = H.size + 1 := by rw [← hH1, Array.size_push]
  have e1 : H1[H.size]? = some (arrV (ids 5) n.toNatClampNeg (fun _ => .null)) := by rw [← hH1, Array.getElem?_push_size, ← arrV_new]
  have o1 : ∀ q : Nat, q < H.size → H1[q]? = H[q]? := fun q hq => by rw [← hH1, Array.getElem?_push, if_neg (Nat.ne_of_lt hq)]
  have hk := kk H1 (hH.grow z1 o1 (fun j sh hj => ?_) (fun b sh hb => zm_cell_clr sh (by omega))) (zm_S_grow hS (by omega) o1)
  · rw [← hH.1] at hk
    exact hk
  · have hj0 : j < 1 := (List.getElem?_eq_some_iff.mp hj).1
    have hj1 : j = 0 := by omega
    subst hj1
    cases hj
    show H1[H.size]? = some (vp_cell (ids 5) (_, .inr (.inr (.inr (.inr (fun i => ((zm_clr σ lay.length).2.2 lay.length i).map (base + ·)))))))
    rw [q3]
    exact e1
/-- new int[n][k] -/
theorem zm_wmulti (B : zm_B p s m args meth c M) (hK : zm_KU D ids s) (hbs : base ≤ s.heap.size) (hH : zm_H base D ids lay σ H) (hS : va_S (zm_A base) s.heap H locs) {idx ti : Nat} (hw : zm_wd ti (.classLink (zm_nm M).cls idx "[[I") = true) {n k : Int32} (hn : ¬ n < 0) (hk : ¬ k < 0) (hb1 : n.toNatClampNeg ≤ 60000) (hb2 : k.toNatClampNeg ≤ 60000)
    (hc : cells + (1 + n.toNatClampNeg) ≤ R.cells) (hs : slots + (n.toNatClampNeg + n.toNatClampNeg * k.toNatClampNeg) ≤ R.slots) (hdg : decode (zm_by M) pc = .ok (.multianewarray idx 2, 4))
    (kk : ∀ H1 : Heap, zm_H base D ids (lay ++ (4, n.toNatClampNeg) :: List.replicate n.toNatClampNeg (1, k.toNatClampNeg)) (zm_mul σ lay.length n.toNatClampNeg) H1 → va_S (zm_A base) s.heap H1 locs → W p l e R s m args below meth c H1 locs (cells + 1 + n.toNatClampNeg) (slots + n.toNatClampNeg + n.toNatClampNeg * k.toNatClampNeg) Q (F0 m (pc + 4) ls (.ref (base + lay.length) :: rest))) : W p l e R s m args below meth c H locs cells slots Q (F0 m pc ls (.int k :: .int n :: rest)) := by
  obtain ⟨hx, hb, hr, hml, hown, hts, hlocks, hname⟩ := B
  obtain ⟨kA, hkA, hkindA⟩ := hK.2.2.1
  obtain ⟨-, kI, hkI, c1, hkindI⟩ := (hK.1.2 0 _ rfl).1 0 (fun _ => .null)
  have hfA : s.vm.findClass "[[I" = some (ids 4) := by
    have h9 : s.vm.findClass ("[" ++ (FieldType.array .int).toString) = some (ids 4) := (hK.1.2 3 _ rfl).2
    rw [show "[" ++ (FieldType.array .int).toString = "[[I" by decide +kernel] at h9
    exact h9
  refine zq_W hx hb hown (hts _ (List.mem_cons_of_mem _ (zm_wd_mem hw))) hfA hkA hkindA hkI hkindI hn hk hb1 hb2 hS.1 hc hs hdg fun H1 z1 o1 e1 r1 => ?_
  have hk := kk H1 (hH.grow (by rw [z1]; simp; omega) o1 (fun j sh hj => ?_) (fun b sh hb => zm_cell_mul sh hb)) (zm_S_grow hS (by omega) o1)
  · rw [← hH.1] at hk
    exact hk
  · cases j with
    | zero =>
      cases hj
      show H1[H.size]? = some (vp_cell (ids 4) (_, .inr (.inr (.inr (.inr (fun i => ((zm_mul σ lay.length n.toNatClampNeg).2.2 lay.length i).map (base + ·)))))))
      rw [e1, vp_cell_q]
      unfold zq_out
      congr 2
      funext i
      show va_rf _ = va_rf ((((if lay.length = lay.length then _ else _) : Nat → Option Nat) i).map _)
      rw [if_pos rfl, hH.1]
      by_cases hi : i < n.toNatClampNeg
      · simp [hi, Nat.add_assoc]
      · simp [hi]
    | succ j =>
      rw [List.getElem?_cons_succ] at hj
      have hjn : j < n.toNatClampNeg := by simpa using (List.getElem?_eq_some_iff.mp hj).1
      rw [List.getElem?_replicate, if_pos hjn] at hj
      cases hj
      show H1[H.size + (j + 1)]? = some (vp_cell (ids 1) (_, .inl ((zm_mul σ lay.length n.toNatClampNeg).1 (lay.length + (j + 1)))))
      rw [show H.size + (j + 1) = H.size + 1 + j by omega, r1 j hjn, vp_cell_i]
      unfold zq_row
      congr 2
      funext i
      show _ = Value.int (((if lay.length ≤ lay.length + (j + 1) ∧ lay.length + (j + 1) ≤ lay.length + n.toNatClampNeg then _ else _) : Nat → Int32) i)
      rw [if_pos (by omega)]
end ZMC
