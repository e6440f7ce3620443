section ZMS
variable {p : Program} {l : Launch} {e : Env} {R : Room} {s : State} {m : MethodId} {args : Array Value} {below : List Frame} {meth : Method} {c : Code} {H : Heap} {locs : List Loc} {cells slots : Nat} {Q : State → Prop}
variable {cc : ByteArray} {base : Nat} {D : va_G} {ids : Nat → ClassId} {lay : zm_Lay} {σ : zm_Sig} {pc a : Nat} {ls : Array Slot} {rest : List Value}
theorem zm_wiast (hx : p.tables.exec = Jvm.exec) (hb : c.code = cc) (hK : zm_KU D ids s) (hH : zm_H base D ids lay σ H) (hS : va_S (zm_A base) s.heap H locs) {n : Nat} (ha : lay[a]? = some (1, n)) {i v : Int32} (hin : vp_in i n) (hdg : decode cc pc = .ok (.iastore, 1))
    (kk : ∀ (H1 : Heap) (locs1 : List Loc), zm_H base D ids lay (zm_wI σ a i.toNatClampNeg v) H1 → va_S (zm_A base) s.heap H1 locs1 → W p l e R s m args below meth c H1 locs1 cells slots Q (F0 m (pc + 1) ls rest)) : W p l e R s m args below meth c H locs cells slots Q (F0 m pc ls (.int v :: .int i :: .ref (base + a) :: rest)) := by
  refine W.iast hx hb (hH.2 a _ ha) ((hK.1.2 0 _ rfl).1 n (fun j => .int (σ.1 a j))) (fun q => by cases q) (by show ¬ (i < 0 ∨ (arrV _ _ _).slots.size ≤ _); rw [arrV_size]; exact hin) rfl rfl hdg fun H1 e1 z oq => ?_
  refine kk H1 _ (hH.put ha z oq ?_ (fun b sh hb => zm_cell_I sh hb)) (hS.put z oq (Nat.le_add_right _ _))
  show H1[base + a]? = some (vp_cell (ids 1) (n, .inl (va_up σ.1 a (upd (σ.1 a) i.toNatClampNeg v) a)))
  rw [e1]
  show some ((arrV (ids 1) n (fun j => .int (σ.1 a j))).setSlot _ _) = _
  rw [vp_cell_i, arrV_store]
  congr 2
  funext q
  by_cases hq : q = i.toNatClampNeg <;> simp [updV, upd, va_up, hq]
theorem zm_wzast (hx : p.tables.exec = Jvm.exec) (hb : c.code = cc) (hK : zm_KU D ids s) (hH : zm_H base D ids lay σ H) (hS : va_S (zm_A base) s.heap H locs) {n : Nat} (ha : lay[a]? = some (3, n)) {i v : Int32} (hin : vp_in i n) (hdg : decode cc pc = .ok (.bastore, 1))
    (kk : ∀ (H1 : Heap) (locs1 : List Loc), zm_H base D ids lay (zm_wI σ a i.toNatClampNeg (vp_nar .boolean v)) H1 → va_S (zm_A base) s.heap H1 locs1 → W p l e R s m args below meth c H1 locs1 cells slots Q (F0 m (pc + 1) ls rest)) : W p l e R s m args below meth c H locs cells slots Q (F0 m pc ls (.int v :: .int i :: .ref (base + a) :: rest)) := by
  refine W.zast hx hb (hH.2 a _ ha) ((hK.1.2 2 _ rfl).1 n (fun j => .int (σ.1 a j))) (fun q => by cases q) (by show ¬ (i < 0 ∨ (arrV _ _ _).slots.size ≤ _); rw [arrV_size]; exact hin) rfl rfl hdg fun H1 e1 z oq => ?_
  refine kk H1 _ (hH.put ha z oq ?_ (fun b sh hb => zm_cell_I sh hb)) (hS.put z oq (Nat.le_add_right _ _))
  show H1[base + a]? = some (vp_cell (ids 3) (n, .inl (va_up σ.1 a (upd (σ.1 a) i.toNatClampNeg (vp_nar .boolean v)) a)))
  rw [e1]
  show some ((arrV (ids 3) n (fun j => .int (σ.1 a j))).setSlot _ _) = _
  rw [vp_cell_i, arrV_store]
  congr 2
  funext q
  by_cases hq : q = i.toNatClampNeg
  · subst hq
    simp [updV, upd, va_up, vp_nar]
    try rfl
  · simp [updV, upd, va_up, hq]
theorem zm_wlast (hx : p.tables.exec = Jvm.exec) (hb : c.code = cc) (hK : zm_KU D ids s) (hH : zm_H base D ids lay σ H) (hS : va_S (zm_A base) s.heap H locs) {n : Nat} (ha : lay[a]? = some (2, n)) {i : Int32} {v : Int64} (hin : vp_in i n) (hdg : decode cc pc = .ok (.lastore, 1))
    (kk : ∀ (H1 : Heap) (locs1 : List Loc), zm_H base D ids lay (zm_wL σ a i.toNatClampNeg v) H1 → va_S (zm_A base) s.heap H1 locs1 → W p l e R s m args below meth c H1 locs1 cells slots Q (F0 m (pc + 1) ls rest)) : W p l e R s m args below meth c H locs cells slots Q (F0 m pc ls (.long v :: .int i :: .ref (base + a) :: rest)) := by
  refine W.last hx hb (hH.2 a _ ha) ((hK.1.2 1 _ rfl).1 n (fun j => .long (σ.2.1 a j))) (fun q => by cases q) (by show ¬ (i < 0 ∨ (arrV _ _ _).slots.size ≤ _); rw [arrV_size]; exact hin) rfl rfl hdg fun H1 e1 z oq => ?_
  refine kk H1 _ (hH.put ha z oq ?_ (fun b sh hb => zm_cell_L sh hb)) (hS.put z oq (Nat.le_add_right _ _))
  show H1[base + a]? = some (vp_cell (ids 2) (n, .inr (.inl (va_up σ.2.1 a (vp_updL (σ.2.1 a) i.toNatClampNeg v) a))))
  rw [e1]
  show some ((arrV (ids 2) n (fun j => .long (σ.2.1 a j))).setSlot _ _) = _
  rw [vp_cell_l, arrV_store]
  congr 2
  funext q
  by_cases hq : q = i.toNatClampNeg <;> simp [updV, vp_updL, va_up, hq]
theorem zm_waald (hx : p.tables.exec = Jvm.exec) (hb : c.code = cc) (hK : zm_KU D ids s) (hH : zm_H base D ids lay σ H) {n : Nat} (ha : lay[a]? = some (4, n) ∨ lay[a]? = some (5, n)) {i : Int32} (hin : vp_in i n) (hdg : decode cc pc = .ok (.aaload, 1))
    (kk : W p l e R s m args below meth c H locs cells slots Q (F0 m (pc + 1) ls (zm_tr base (va_rf (σ.2.2 a i.toNatClampNeg)) :: rest))) : W p l e R s m args below meth c H locs cells slots Q (F0 m pc ls (.int i :: .ref (base + a) :: rest)) := by
  have hlt : i.toNatClampNeg < n := Nat.not_le.mp fun q => hin (Or.inr q)
  rw [zm_tr_rf] at kk
  rcases ha with ha | ha
  · exact W.aald (v := va_rf ((σ.2.2 a i.toNatClampNeg).map (base + ·))) (ty := .array .int) hx hb (hH.2 a _ ha) ((hK.1.2 3 _ rfl).1 n (fun j => va_rf ((σ.2.2 a j).map (base + ·)))) rfl (fun q => by cases q) (by show ¬ (i < 0 ∨ (arrV _ _ _).slots.size ≤ _); rw [arrV_size]; exact hin) (by show (arrV _ _ _).slots[_]? = _; rw [arrV_read _ _ hlt]) rfl rfl hdg kk
  · exact W.aald (v := va_rf ((σ.2.2 a i.toNatClampNeg).map (base + ·))) (ty := .object "SubgroupWriter$Trail") hx hb (hH.2 a _ ha) ((hK.1.2 4 _ rfl).1 n (fun j => va_rf ((σ.2.2 a j).map (base + ·)))) rfl (fun q => by cases q) (by show ¬ (i < 0 ∨ (arrV _ _ _).slots.size ≤ _); rw [arrV_size]; exact hin) (by show (arrV _ _ _).slots[_]? = _; rw [arrV_read _ _ hlt]) rfl rfl hdg kk
theorem zm_waast (hx : p.tables.exec = Jvm.exec) (hb : c.code = cc) (hK : zm_KU D ids s) (hH : zm_H base D ids lay σ H) (hS : va_S (zm_A base) s.heap H locs) {n k v : Nat} (ha : (lay[a]? = some (4, n) ∧ lay[v]? = some (1, k)) ∨ (lay[a]? = some (5, n) ∧ lay[v]? = some (0, 6))) {i : Int32} (hin : vp_in i n) (hdg : decode cc pc = .ok (.aastore, 1))
    (kk : ∀ (H1 : Heap) (locs1 : List Loc), zm_H base D ids lay (zm_wR σ a i.toNatClampNeg (some v)) H1 → va_S (zm_A base) s.heap H1 locs1 → W p l e R s m args below meth c H1 locs1 cells slots Q (F0 m (pc + 1) ls rest)) : W p l e R s m args below meth c H locs cells slots Q (F0 m pc ls (.ref (base + v) :: .int i :: .ref (base + a) :: rest)) := by
  have hlt : i.toNatClampNeg < n := Nat.not_le.mp fun q => hin (Or.inr q)
  have h0 : ¬ i < 0 := fun q => hin (Or.inl q)
  have key : ∀ (cA : ClassId) (H1 : Heap), H1[base + a]? = some ((arrV cA n (fun j => va_rf ((σ.2.2 a j).map (base + ·)))).setSlot i.toNatClampNeg (.ref (base + v))) → H1[base + a]? = some (vp_cell cA (n, .inr (.inr (.inr (.inr (fun j => (va_up σ.2.2 a (va_up (σ.2.2 a) i.toNatClampNeg (some v)) a j).map (base + ·))))))) := by
    intro cA H1 e1
    rw [e1, vp_cell_q, arrV_store]
    congr 2
    funext q
    by_cases hq : q = i.toNatClampNeg
    · subst hq
      simp [updV, va_up, va_rf]
    · simp [updV, va_up, hq]
  rcases ha with ⟨ha, hv⟩ | ⟨ha, hv⟩
  · obtain ⟨kA, hkA, hkind⟩ := hK.2.2.1
    obtain ⟨-, kI, hkI, cI, hkindI⟩ := (hK.1.2 0 _ rfl).1 0 (fun _ => .null)
    refine W.aast hx hb (hH.2 a _ ha) (fun q h => by cases h) (fun h => by cases h) hkA hkind rfl hkI ⟨h0, by show _ < (arrV _ _ _).slots.size; rw [arrV_size]; exact hlt⟩ (hH.2 v _ hv) (fun q h => by cases h) hkI (va_asg _ _) rfl rfl hdg fun H1 e1 z oq => ?_
    exact kk H1 _ (hH.put ha z oq (key (ids 4) H1 e1) (fun b sh hb => zm_cell_R sh hb)) (hS.put z oq (Nat.le_add_right _ _))
  · obtain ⟨r', hr', cellV, g1, g2, g3, -⟩ := hH.2 v _ hv
    have hcls := (hK.1.1 6 r' hr').2
    have hr6 : r'.1 = "SubgroupWriter$Trail" := by
      have : zm_cl[6]? = some r' := hr'
      have h9 : (zm_cl[6]?).map (·.1) = some "SubgroupWriter$Trail" := by decide +kernel
      rw [this] at h9
      exact Option.some.inj h9
    obtain ⟨kA, comp, k1, k2, k3, -⟩ := (hK.1.2 4 _ rfl).2
    have hcomp : comp = D.1 6 := Option.some.inj (k3.symm.trans (by rw [← hr6]; exact hcls.1))
    subst hcomp
    obtain ⟨kC, hkC, -⟩ := hcls.2
    refine W.aast hx hb (hH.2 a _ ha) (fun q h => by cases h) (fun h => by cases h) k1 k2 rfl hkC ⟨h0, by show _ < (arrV _ _ _).slots.size; rw [arrV_size]; exact hlt⟩ g1 (fun q h => by rw [g3] at h; cases h) (by rw [g2]; exact hkC) (by rw [g2]; exact va_asg _ _) rfl rfl hdg fun H1 e1 z oq => ?_
    exact kk H1 _ (hH.put ha z oq (key (ids 5) H1 e1) (fun b sh hb => zm_cell_R sh hb)) (hS.put z oq (Nat.le_add_right _ _))
theorem zm_walen (hx : p.tables.exec = Jvm.exec) (hb : c.code = cc) (hK : zm_KU D ids s) (hH : zm_H base D ids lay σ H) {k n : Nat} (ha : lay[a]? = some (k + 1, n)) (hdg : decode cc pc = .ok (.arraylength, 1))
    (kk : W p l e R s m args below meth c H locs cells slots Q (F0 m (pc + 1) ls (.int (Int32.ofNat n) :: rest))) : W p l e R s m args below meth c H locs cells slots Q (F0 m pc ls (.ref (base + a) :: rest)) := by
  have h1 := zm_one hH ha
  match k, h1 with
  | 0, h1 => exact va_alen hx hb hK.1 h1 0 0 rfl rfl rfl hdg kk
  | 1, h1 => exact va_alen hx hb hK.1 h1 0 1 rfl rfl rfl hdg kk
  | 2, h1 => exact va_alen hx hb hK.1 h1 0 2 rfl rfl rfl hdg kk
  | 3, h1 => exact va_alen hx hb hK.1 h1 0 3 rfl rfl rfl hdg kk
  | k + 4, h1 => exact va_alen hx hb hK.1 h1 0 4 rfl rfl rfl hdg kk
end ZMS
