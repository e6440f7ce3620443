/-- the words of System.arraycopy are in the table -/
theorem zm_acw : Cond.native arraycopyName ∈ zm_Tb ∧ Cond.static arraycopyName ∈ zm_Tb ∧ Cond.initialized "java/lang/System" ∈ zm_Tb := by
  refine ⟨zm_wd_mem (i := 489) (by decide +kernel), zm_wd_mem (i := 488) (by decide +kernel), zm_wd_mem (i := 113) (by decide +kernel)⟩
theorem zm_arw : Cond.arrayClass .int ∈ zm_Tb ∧ Cond.arrayClass .long ∈ zm_Tb ∧ Cond.arrayClass .boolean ∈ zm_Tb := ⟨zm_wd_mem (i := 143) (by decide +kernel), zm_wd_mem (i := 365) (by decide +kernel), zm_wd_mem (i := 1270) (by decide +kernel)⟩
theorem zm_obw : Cond.instanceMethod objectInit ∈ zm_Tb ∧ Cond.code objectInit ⟨#[0xb1]⟩ 1 none ∈ zm_Tb := ⟨zm_wd_mem (i := 122) (by decide +kernel), zm_wd_mem (i := 123) (by decide +kernel)⟩
set_option maxHeartbeats 4000000 in
theorem zm_snd_succ {P : Nat → Option zm_Mth} (hOk : zm_Ok P) {l : Launch} {base : Nat} {D : va_G} {ids : Nat → ClassId} {n : Nat} (ih : zm_Snd P l base D ids n) : zm_Snd P l base D ids (n + 1) := by
  intro y M x out hy hrun p e s m args below meth c H locs ls B hK hbs hH hS hl
  obtain ⟨pc, lo, st, lay, σ, nc, ns⟩ := x
  obtain ⟨hx, hb, hr, hml, hown, hts, hlocks, hname⟩ := id B
  obtain ⟨hok1, hok2, hok3⟩ := hOk.1 y M hy
  unfold zm_run at hrun
  rw [hy] at hrun
  dsimp only at hH hl hrun ⊢
  cases hf : zm_find (zm_en M) pc with
  | none => simp [hf] at hrun
  | some en =>
    obtain ⟨hmem, hpc⟩ := zm_find_mem hf
    obtain ⟨pc', ins, ln, rs⟩ := en
    have hpc : pc' = pc := hpc
    subst hpc
    have hdg : decode (zm_by M) pc' = .ok (ins, ln) := by simpa using List.all_eq_true.mp hok2 _ hmem
    have hkr : zm_okr P M pc' ins ln rs = true := List.all_eq_true.mp hok3 _ hmem
    have h := hrun
    simp only [Option.bind_some, hf] at h
    clear hrun hf hmem hok2 hok3
    have go : ∀ (x : zm_St), zm_run P n y (zm_nx (zm_cu M) x) = some out → ∀ (H : Heap) (locs : List Loc) (ls : Array Slot), zm_H base D ids x.2.2.2.1 x.2.2.2.2.1 H → va_S (zm_A base) s.heap H locs → lv_has ls (zm_ml M) (zm_lo base x.2.1) →
      W p l e (zm_rm M) s m args below meth c H locs x.2.2.2.2.2.1 x.2.2.2.2.2.2 (MQ below (zm_Q base D ids out) args s (zm_ro M).2.2.1 (zm_ro M).2.2.2 (zm_A base)) (F0 m x.1 ls (x.2.2.1.map (zm_tr base))) := fun x hx H locs ls a b d => by
      have := ih y M (zm_nx (zm_cu M) x) out hy hx p e s m args below meth c H locs ls B hK hbs
      unfold zm_nx at this
      split at this
      · next live hlv => exact this a b ⟨d.1, d.2.1, fun q hq => by
          obtain ⟨q0, h0, rfl⟩ := List.mem_map.mp hq
          exact d.2.2 _ (List.mem_map.mpr ⟨q0, zm_nrm_mem h0, rfl⟩)⟩
      · exact this a b d
    have hq : ∀ (v : Option Value) (H : Heap) (locs : List Loc), va_S (zm_A base) s.heap H locs → out = (v, lay, σ) → zm_H base D ids lay σ H → ∀ t : State, t.heap = H → s.WarmedH t.vm → zm_Q base D ids out args s (.returned (v.map (zm_tr base))) t := fun v H locs hS ho hH t ht _ => by
      subst ho
      exact ⟨rfl, by rw [ht]; exact hH, hS.F ht⟩
    cases ins with
    | iconst n =>
      simp only [zm_okr, decide_eq_true_eq] at hkr
      subst hkr
      exact lv_iconst hx hb hdg rfl (go _ h H locs ls hH hS hl)
    | bipush n =>
      simp only [zm_okr, Bool.and_eq_true, decide_eq_true_eq] at hkr
      obtain ⟨rfl, hv⟩ := hkr
      exact lv_bipush hx hb hdg hv (go _ h H locs ls hH hS hl)
    | sipush n =>
      simp only [zm_okr, Bool.and_eq_true, decide_eq_true_eq] at hkr
      obtain ⟨rfl, hv⟩ := hkr
      exact lv_sipush hx hb hdg hv (go _ h H locs ls hH hS hl)
    | lconst n =>
      simp only [zm_okr, decide_eq_true_eq] at hkr
      subst hkr
      exact lv_lconst hx hb hdg rfl (go _ h H locs ls hH hS hl)
    | ldc_w i =>
      simp only [zm_okr] at hkr
      split at hkr
      · simp only [Bool.and_eq_true, decide_eq_true_eq] at hkr
        obtain ⟨rfl, hw⟩ := hkr
        exact lv_ldcw hx hb hown (hts _ (List.mem_cons_of_mem _ (zm_wd_mem hw))) hdg (go _ h H locs ls hH hS hl)
      · cases hkr
    | ldc2_w i =>
      simp only [zm_okr] at hkr
      split at hkr
      · simp only [Bool.and_eq_true, decide_eq_true_eq] at hkr
        obtain ⟨rfl, hw⟩ := hkr
        exact lv_ldc2 hx hb hown (hts _ (List.mem_cons_of_mem _ (zm_wd_mem hw))) hdg (go _ h H locs ls hH hS hl)
      · cases hkr
    | aconst_null =>
      simp only [zm_okr, decide_eq_true_eq] at hkr
      subst hkr
      exact lv_null hx hb hdg (go _ h H locs ls hH hS hl)
    | iload_n k =>
      simp only [zm_okr, decide_eq_true_eq] at hkr
      subst hkr
      simp only [zm_stp] at h
      split at h
      · next v hv => exact lv_iload_n hx hb hdg rfl (zm_ld hl hv) (go _ h H locs ls hH hS hl)
      · cases h
    | iload k =>
      simp only [zm_okr, decide_eq_true_eq] at hkr
      subst hkr
      simp only [zm_stp] at h
      split at h
      · next v hv => exact lv_iload hx hb hdg (zm_ld hl hv) (go _ h H locs ls hH hS hl)
      · cases h
    | lload_n k =>
      simp only [zm_okr, decide_eq_true_eq] at hkr
      subst hkr
      simp only [zm_stp] at h
      split at h
      · next v hv => exact lv_lload_n hx hb hdg rfl (zm_ld hl hv) (go _ h H locs ls hH hS hl)
      · cases h
    | lload k =>
      simp only [zm_okr, decide_eq_true_eq] at hkr
      subst hkr
      simp only [zm_stp] at h
      split at h
      · next v hv => exact lv_lload hx hb hdg (zm_ld hl hv) (go _ h H locs ls hH hS hl)
      · cases h
    | aload_n k =>
      simp only [zm_okr, decide_eq_true_eq] at hkr
      subst hkr
      simp only [zm_stp] at h
      split at h
      · next v hv => exact lv_aload_n hx hb hdg rfl (zm_ld hl hv) (go _ h H locs ls hH hS hl)
      · cases h
    | aload k =>
      simp only [zm_okr, decide_eq_true_eq] at hkr
      subst hkr
      simp only [zm_stp] at h
      split at h
      · next v hv => exact lv_aload hx hb hdg (zm_ld hl hv) (go _ h H locs ls hH hS hl)
      · cases h
    | istore_n k =>
      simp only [zm_okr, Bool.and_eq_true, decide_eq_true_eq] at hkr
      obtain ⟨rfl, hn⟩ := hkr
      simp only [zm_stp] at h
      split at h
      · next v r => exact lv_istore_n hx hb hdg rfl hl hn (zm_lo_s1 base lo _ (.int v)) (fun ls hl => go _ h H locs ls hH hS hl)
      · cases h
    | istore k =>
      simp only [zm_okr, Bool.and_eq_true, decide_eq_true_eq] at hkr
      obtain ⟨rfl, hn⟩ := hkr
      simp only [zm_stp] at h
      split at h
      · next v r => exact lv_istore hx hb hdg hl hn (zm_lo_s1 base lo _ (.int v)) (fun ls hl => go _ h H locs ls hH hS hl)
      · cases h
    | lstore_n k =>
      simp only [zm_okr, Bool.and_eq_true, decide_eq_true_eq] at hkr
      obtain ⟨rfl, hn⟩ := hkr
      simp only [zm_stp] at h
      split at h
      · next v r => exact lv_lstore_n hx hb hdg rfl hl hn (zm_lo_s2 base lo _ (.long v)) (fun ls hl => go _ h H locs ls hH hS hl)
      · cases h
    | lstore k =>
      simp only [zm_okr, Bool.and_eq_true, decide_eq_true_eq] at hkr
      obtain ⟨rfl, hn⟩ := hkr
      simp only [zm_stp] at h
      split at h
      · next v r => exact lv_lstore hx hb hdg hl hn (zm_lo_s2 base lo _ (.long v)) (fun ls hl => go _ h H locs ls hH hS hl)
      · cases h
    | astore_n k =>
      simp only [zm_okr, Bool.and_eq_true, decide_eq_true_eq] at hkr
      obtain ⟨rfl, hn⟩ := hkr
      simp only [zm_stp] at h
      split at h
      · next v r => exact lv_astore_n hx hb hdg rfl hl hn (zm_lo_s1 base lo _ (.ref v)) (fun ls hl => go _ h H locs ls hH hS hl)
      · cases h
    | astore k =>
      simp only [zm_okr, Bool.and_eq_true, decide_eq_true_eq] at hkr
      obtain ⟨rfl, hn⟩ := hkr
      simp only [zm_stp] at h
      split at h
      · next v r => exact lv_astore hx hb hdg hl hn (zm_lo_s1 base lo _ (.ref v)) (fun ls hl => go _ h H locs ls hH hS hl)
      · cases h
    | iinc i k =>
      simp only [zm_okr, Bool.and_eq_true, decide_eq_true_eq] at hkr
      obtain ⟨rfl, hn⟩ := hkr
      simp only [zm_stp] at h
      split at h
      · next v hv =>
        obtain ⟨j, hj⟩ := List.getElem?_of_mem (zm_lookup hv)
        have hj2 : (zm_lo base lo)[j]? = some (i, .int v) := by unfold zm_lo; rw [List.getElem?_map, hj]; rfl
        exact lv_iinc hx hb hdg hl hj2 rfl hn (zm_lo_s1 base lo i (.int (v + Int32.ofInt k))) (fun ls hl => go _ h H locs ls hH hS hl)
      · cases h
    | iadd =>
      simp only [zm_okr, decide_eq_true_eq] at hkr
      subst hkr
      simp only [zm_stp] at h
      split at h
      · exact lv_iadd hx hb hdg (go _ h H locs ls hH hS hl)
      · cases h
    | isub =>
      simp only [zm_okr, decide_eq_true_eq] at hkr
      subst hkr
      simp only [zm_stp] at h
      split at h
      · exact lv_isub hx hb hdg (go _ h H locs ls hH hS hl)
      · cases h
    | imul =>
      simp only [zm_okr, decide_eq_true_eq] at hkr
      subst hkr
      simp only [zm_stp] at h
      split at h
      · exact lv_imul hx hb hdg (go _ h H locs ls hH hS hl)
      · cases h
    | iand =>
      simp only [zm_okr, decide_eq_true_eq] at hkr
      subst hkr
      simp only [zm_stp] at h
      split at h
      · exact lv_iand hx hb hdg (go _ h H locs ls hH hS hl)
      · cases h
    | ior =>
      simp only [zm_okr, decide_eq_true_eq] at hkr
      subst hkr
      simp only [zm_stp] at h
      split at h
      · exact lv_ior hx hb hdg (go _ h H locs ls hH hS hl)
      · cases h
    | ixor =>
      simp only [zm_okr, decide_eq_true_eq] at hkr
      subst hkr
      simp only [zm_stp] at h
      split at h
      · exact lv_ixor hx hb hdg (go _ h H locs ls hH hS hl)
      · cases h
    | ishl =>
      simp only [zm_okr, decide_eq_true_eq] at hkr
      subst hkr
      simp only [zm_stp] at h
      split at h
      · exact lv_ishl hx hb hdg (go _ h H locs ls hH hS hl)
      · cases h
    | ishr =>
      simp only [zm_okr, decide_eq_true_eq] at hkr
      subst hkr
      simp only [zm_stp] at h
      split at h
      · exact lv_ishr hx hb hdg (go _ h H locs ls hH hS hl)
      · cases h
    | ladd =>
      simp only [zm_okr, decide_eq_true_eq] at hkr
      subst hkr
      simp only [zm_stp] at h
      split at h
      · exact lv_ladd hx hb hdg (go _ h H locs ls hH hS hl)
      · cases h
    | lmul =>
      simp only [zm_okr, decide_eq_true_eq] at hkr
      subst hkr
      simp only [zm_stp] at h
      split at h
      · exact lv_lmul hx hb hdg (go _ h H locs ls hH hS hl)
      · cases h
    | idiv =>
      simp only [zm_okr, decide_eq_true_eq] at hkr
      subst hkr
      simp only [zm_stp] at h
      split at h
      · split at h
        · cases h
        · next hne => exact lv_idiv hx hb hdg hne (go _ h H locs ls hH hS hl)
      · cases h
    | irem =>
      simp only [zm_okr, decide_eq_true_eq] at hkr
      subst hkr
      simp only [zm_stp] at h
      split at h
      · split at h
        · cases h
        · next hne => exact lv_irem hx hb hdg hne (go _ h H locs ls hH hS hl)
      · cases h
    | ldiv =>
      simp only [zm_okr, decide_eq_true_eq] at hkr
      subst hkr
      simp only [zm_stp] at h
      split at h
      · split at h
        · cases h
        · next hne => exact lv_ldiv hx hb hdg hne (go _ h H locs ls hH hS hl)
      · cases h
    | lrem =>
      simp only [zm_okr, decide_eq_true_eq] at hkr
      subst hkr
      simp only [zm_stp] at h
      split at h
      · split at h
        · cases h
        · next hne => exact lv_lrem hx hb hdg hne (go _ h H locs ls hH hS hl)
      · cases h
    | ineg =>
      simp only [zm_okr, decide_eq_true_eq] at hkr
      subst hkr
      simp only [zm_stp] at h
      split at h
      · exact lv_ineg hx hb hdg (go _ h H locs ls hH hS hl)
      · cases h
    | iushr =>
      simp only [zm_okr, decide_eq_true_eq] at hkr
      subst hkr
      simp only [zm_stp] at h
      split at h
      · exact lv_iushr hx hb hdg rfl (go _ h H locs ls hH hS hl)
      · cases h
    | i2l =>
      simp only [zm_okr, decide_eq_true_eq] at hkr
      subst hkr
      simp only [zm_stp] at h
      split at h
      · exact lv_i2l hx hb hdg rfl (go _ h H locs ls hH hS hl)
      · cases h
    | l2i =>
      simp only [zm_okr, decide_eq_true_eq] at hkr
      subst hkr
      simp only [zm_stp] at h
      split at h
      · exact lv_l2i hx hb hdg rfl (go _ h H locs ls hH hS hl)
      · cases h
    | i2b =>
      simp only [zm_okr, decide_eq_true_eq] at hkr
      subst hkr
      simp only [zm_stp] at h
      split at h
      · exact lv_i2b hx hb hdg rfl (go _ h H locs ls hH hS hl)
      · cases h
    | lcmp =>
      simp only [zm_okr, decide_eq_true_eq] at hkr
      subst hkr
      simp only [zm_stp] at h
      split at h
      · exact W.lcmp hx hb hdg (go _ h H locs ls hH hS hl)
      · cases h
    | dup =>
      simp only [zm_okr, decide_eq_true_eq] at hkr
      subst hkr
      simp only [zm_stp] at h
      split at h
      · exact lv_dup hx hb hdg rfl (go _ h H locs ls hH hS hl)
      · exact lv_dup hx hb hdg rfl (go _ h H locs ls hH hS hl)
      · cases h
    | dup2 =>
      simp only [zm_okr, decide_eq_true_eq] at hkr
      subst hkr
      simp only [zm_stp] at h
      split at h
      · exact lv_dup2_11 hx hb hdg rfl rfl (go _ h H locs ls hH hS hl)
      · cases h
    | pop =>
      simp only [zm_okr, decide_eq_true_eq] at hkr
      subst hkr
      simp only [zm_stp] at h
      split at h
      · exact lv_pop hx hb hdg rfl (go _ h H locs ls hH hS hl)
      · cases h
    | ifCond cd o =>
      simp only [zm_okr] at hkr
      split at hkr
      · simp only [Bool.and_eq_true, decide_eq_true_eq] at hkr
        obtain ⟨rfl, ht⟩ := hkr
        simp only [zm_stp] at h
        split at h
        · next heq =>
          cases heq
          cases cd <;> simp only [zm_cnd] at h
          · refine lv_if_eq hx hb hdg ht (fun c1 => ?_) (fun c1 => ?_)
            · rw [if_pos c1] at h; exact go _ h H locs ls hH hS hl
            · rw [if_neg c1] at h; exact go _ h H locs ls hH hS hl
          · refine lv_if_ne hx hb hdg ht (fun c1 => ?_) (fun c1 => ?_)
            · rw [if_pos c1] at h; exact go _ h H locs ls hH hS hl
            · rw [if_neg (fun z => z c1)] at h; exact go _ h H locs ls hH hS hl
          · refine lv_if_lt hx hb hdg ht (fun c1 => ?_) (fun c1 => ?_)
            · rw [if_pos c1] at h; exact go _ h H locs ls hH hS hl
            · rw [if_neg c1] at h; exact go _ h H locs ls hH hS hl
          · refine lv_if_ge hx hb hdg ht (fun c1 => ?_) (fun c1 => ?_)
            · rw [if_pos c1] at h; exact go _ h H locs ls hH hS hl
            · rw [if_neg c1] at h; exact go _ h H locs ls hH hS hl
          · refine lv_if_gt hx hb hdg ht (fun c1 => ?_) (fun c1 => ?_)
            · rw [if_pos c1] at h; exact go _ h H locs ls hH hS hl
            · rw [if_neg c1] at h; exact go _ h H locs ls hH hS hl
          · refine lv_if_le hx hb hdg ht (fun c1 => ?_) (fun c1 => ?_)
            · rw [if_pos c1] at h; exact go _ h H locs ls hH hS hl
            · rw [if_neg c1] at h; exact go _ h H locs ls hH hS hl
        · cases h
      · cases hkr
    | if_icmp cd o =>
      simp only [zm_okr] at hkr
      split at hkr
      · simp only [Bool.and_eq_true, decide_eq_true_eq] at hkr
        obtain ⟨rfl, ht⟩ := hkr
        simp only [zm_stp] at h
        split at h
        · next heq =>
          cases heq
          cases cd <;> simp only [zm_cnd] at h
          · refine lv_icmp_eq hx hb hdg ht (fun c1 => ?_) (fun c1 => ?_)
            · rw [if_pos c1] at h; exact go _ h H locs ls hH hS hl
            · rw [if_neg c1] at h; exact go _ h H locs ls hH hS hl
          · refine lv_icmp_ne hx hb hdg ht (fun c1 => ?_) (fun c1 => ?_)
            · rw [if_pos c1] at h; exact go _ h H locs ls hH hS hl
            · rw [if_neg (fun z => z c1)] at h; exact go _ h H locs ls hH hS hl
          · refine lv_icmp_lt hx hb hdg ht (fun c1 => ?_) (fun c1 => ?_)
            · rw [if_pos c1] at h; exact go _ h H locs ls hH hS hl
            · rw [if_neg c1] at h; exact go _ h H locs ls hH hS hl
          · refine lv_icmp_ge hx hb hdg ht (fun c1 => ?_) (fun c1 => ?_)
            · rw [if_pos c1] at h; exact go _ h H locs ls hH hS hl
            · rw [if_neg c1] at h; exact go _ h H locs ls hH hS hl
          · refine lv_icmp_gt hx hb hdg ht (fun c1 => ?_) (fun c1 => ?_)
            · rw [if_pos c1] at h; exact go _ h H locs ls hH hS hl
            · rw [if_neg c1] at h; exact go _ h H locs ls hH hS hl
          · refine lv_icmp_le hx hb hdg ht (fun c1 => ?_) (fun c1 => ?_)
            · rw [if_pos c1] at h; exact go _ h H locs ls hH hS hl
            · rw [if_neg c1] at h; exact go _ h H locs ls hH hS hl
        · cases h
      · cases hkr
    | ifnonnull o =>
      simp only [zm_okr] at hkr
      split at hkr
      · simp only [Bool.and_eq_true, decide_eq_true_eq] at hkr
        obtain ⟨rfl, ht⟩ := hkr
        simp only [zm_stp] at h
        split at h
        · next heq => cases heq; exact lv_ifnonnull hx hb hdg ht (go _ h H locs ls hH hS hl)
        · exact lv_ifnonnullN hx hb hdg (go _ h H locs ls hH hS hl)
        · cases h
      · cases hkr
    | goto o =>
      simp only [zm_okr] at hkr
      split at hkr
      · simp only [Bool.and_eq_true, decide_eq_true_eq] at hkr
        obtain ⟨rfl, ht⟩ := hkr
        exact lv_goto hx hb hdg ht (go _ h H locs ls hH hS hl)
      · cases hkr
    | tableswitch d0 lo0 hi0 offs =>
      simp only [zm_okr] at hkr
      split at hkr
      · simp only [Bool.and_eq_true, decide_eq_true_eq] at hkr
        obtain ⟨⟨⟨⟨hd, h0⟩, h1⟩, h2⟩, h3⟩ := hkr
        simp only [zm_stp] at h
        split at h
        · next heq =>
          cases heq
          rcases zm_tb_spec offs.toList lo0 _ h3 h0 (by omega) h with ⟨i, o, t, e1, e2, e3, e4⟩ | ⟨e1, e2⟩
          · have hi : i < offs.toList.length := (List.getElem?_eq_some_iff.mp e1).1
            refine lv_tableIn hx hb hdg (by omega) (by omega) (off := o) ?_ e3 (go _ e4 H locs ls hH hS hl)
            rw [e2, show (lo0 + (i : Int) - lo0).toNat = i by omega, ← Array.getElem?_toList]
            exact e1
          · exact lv_tableOut hx hb hdg (by omega) hd (go _ e2 H locs ls hH hS hl)
        · cases h
      · cases hkr
    | lookupswitch d0 qs =>
      simp only [zm_okr] at hkr
      split at hkr
      · simp only [Bool.and_eq_true, decide_eq_true_eq] at hkr
        obtain ⟨⟨hd, h1⟩, h3⟩ := hkr
        simp only [zm_stp] at h
        split at h
        · next heq =>
          cases heq
          obtain ⟨t, e1, e2⟩ := zm_lk_spec hd qs.toList _ h3 h
          exact lv_lookup hx hb hdg h1 rfl e1 (go _ e2 H locs ls hH hS hl)
        · cases h
      · cases hkr
    | aaload =>
      simp only [zm_okr, decide_eq_true_eq] at hkr
      subst hkr
      simp only [zm_stp] at h
      split at h
      · obtain ⟨v, hv, h⟩ := Option.bind_eq_some_iff.mp h
        obtain ⟨n1, h1, h2, rfl⟩ := zm_gR_spec hv
        refine zm_waald hx hb hK hH h1 h2 hdg ?_
        generalize σ.2.2 _ _ = o at h ⊢
        cases o with
        | none => cases h
        | some q => exact go _ h H locs ls hH hS hl
      · cases h
    | iaload =>
      simp only [zm_okr, decide_eq_true_eq] at hkr
      subst hkr
      simp only [zm_stp] at h
      split at h
      · obtain ⟨v, hv, h⟩ := Option.bind_eq_some_iff.mp h
        obtain ⟨n1, h1, h2, rfl⟩ := zm_gI_spec hv
        exact va_iald hx hb hK.1 (zm_one hH h1) 0 0 rfl rfl h2 hdg (go _ h H locs ls hH hS hl)
      · cases h
    | baload =>
      simp only [zm_okr, decide_eq_true_eq] at hkr
      subst hkr
      simp only [zm_stp] at h
      split at h
      · obtain ⟨v, hv, h⟩ := Option.bind_eq_some_iff.mp h
        obtain ⟨n1, h1, h2, rfl⟩ := zm_gZ_spec hv
        exact va_zald hx hb hK.1 (zm_one hH h1) 0 2 rfl rfl h2 hdg (go _ h H locs ls hH hS hl)
      · cases h
    | laload =>
      simp only [zm_okr, decide_eq_true_eq] at hkr
      subst hkr
      simp only [zm_stp] at h
      split at h
      · obtain ⟨v, hv, h⟩ := Option.bind_eq_some_iff.mp h
        obtain ⟨n1, h1, h2, rfl⟩ := zm_gL_spec hv
        exact va_lald hx hb hK.1 (zm_one hH h1) 0 1 rfl rfl h2 hdg (go _ h H locs ls hH hS hl)
      · cases h
    | arraylength =>
      simp only [zm_okr, decide_eq_true_eq] at hkr
      subst hkr
      simp only [zm_stp] at h
      split at h
      · obtain ⟨v, hv, h⟩ := Option.bind_eq_some_iff.mp h
        obtain ⟨k1, n1, h1, rfl⟩ := zm_len_spec hv
        exact zm_walen hx hb hK hH h1 hdg (go _ h H locs ls hH hS hl)
      · cases h
    | iastore =>
      simp only [zm_okr, decide_eq_true_eq] at hkr
      subst hkr
      simp only [zm_stp] at h
      split at h
      · obtain ⟨v, hv, h⟩ := Option.bind_eq_some_iff.mp h
        obtain ⟨n1, h1, h2, rfl⟩ := zm_sI_spec hv
        exact zm_wiast hx hb hK hH hS h1 h2 hdg (fun H1 locs1 hH hS => go _ h H1 locs1 ls hH hS hl)
      · cases h
    | bastore =>
      simp only [zm_okr, decide_eq_true_eq] at hkr
      subst hkr
      simp only [zm_stp] at h
      split at h
      · obtain ⟨v, hv, h⟩ := Option.bind_eq_some_iff.mp h
        obtain ⟨n1, h1, h2, rfl⟩ := zm_sZ_spec hv
        exact zm_wzast hx hb hK hH hS h1 h2 hdg (fun H1 locs1 hH hS => go _ h H1 locs1 ls hH hS hl)
      · cases h
    | lastore =>
      simp only [zm_okr, decide_eq_true_eq] at hkr
      subst hkr
      simp only [zm_stp] at h
      split at h
      · obtain ⟨v, hv, h⟩ := Option.bind_eq_some_iff.mp h
        obtain ⟨n1, h1, h2, rfl⟩ := zm_sL_spec hv
        exact zm_wlast hx hb hK hH hS h1 h2 hdg (fun H1 locs1 hH hS => go _ h H1 locs1 ls hH hS hl)
      · cases h
    | aastore =>
      simp only [zm_okr, decide_eq_true_eq] at hkr
      subst hkr
      simp only [zm_stp] at h
      split at h
      · obtain ⟨v, hv, h⟩ := Option.bind_eq_some_iff.mp h
        obtain ⟨n1, k1, h1, h2, rfl⟩ := zm_sR_spec hv
        exact zm_waast hx hb hK hH hS h1 h2 hdg (fun H1 locs1 hH hS => go _ h H1 locs1 ls hH hS hl)
      · cases h
    | getfield i =>
      simp only [zm_okr, Bool.and_eq_true, decide_eq_true_eq] at hkr
      obtain ⟨rfl, hkr⟩ := hkr
      simp only [zm_stp] at h
      split at h
      · obtain ⟨u, hu, h⟩ := Option.bind_eq_some_iff.mp h
        exact zm_wget hOk B hK hH hkr (zm_is_spec hu) hdg (go _ (zm_fk_sp h) H locs ls hH hS hl)
      · cases h
    | putfield i =>
      simp only [zm_okr, Bool.and_eq_true, decide_eq_true_eq] at hkr
      obtain ⟨rfl, hkr⟩ := hkr
      simp only [zm_stp] at h
      split at h
      · obtain ⟨u, hu, h⟩ := Option.bind_eq_some_iff.mp h
        obtain ⟨σ1, hw, h⟩ := Option.bind_eq_some_iff.mp h
        exact zm_wput hOk B hK hH hS hkr (zm_is_spec hu) hdg hw (fun H1 locs1 hH hS => go _ h H1 locs1 ls hH hS hl)
      · cases h
    | invokevirtual i =>
      simp only [zm_okr, Bool.and_eq_true, decide_eq_true_eq] at hkr
      obtain ⟨rfl, hkr⟩ := hkr
      simp only [zm_stp] at h
      split at h
      · next y1 np c1 mc1 ms1 rk1 tl =>
        split at h
        · next a r hst =>
          obtain ⟨u, hu, h⟩ := Option.bind_eq_some_iff.mp h
          split at h
          · next hc =>
            obtain ⟨N, hN, h⟩ := Option.bind_eq_some_iff.mp h
            split at h
            · next hsl =>
              obtain ⟨o, ho, h⟩ := Option.bind_eq_some_iff.mp h
              refine zm_wvirt hOk ih B hK hH hS hl.1 hkr hN hst (zm_is_spec hu) hc.1 hc.2 hsl ho hdg (fun H1 locs1 hH hS => ?_)
              have := go _ h H1 locs1 ls hH hS hl
              rw [show (o.1.map (zm_tr base)).toList ++ r.map (zm_tr base) = (o.1.toList ++ r).map (zm_tr base) by cases o.1 <;> simp]
              exact this
            · cases h
          · cases h
        · cases h
      · cases h
    | invokestatic i =>
      simp only [zm_okr, Bool.and_eq_true, decide_eq_true_eq] at hkr
      obtain ⟨rfl, hkr⟩ := hkr
      simp only [zm_stp] at h
      split at h
      · next y1 np c1 mc1 ms1 rk1 tl =>
        split at h
        · next hc =>
          obtain ⟨N, hN, h⟩ := Option.bind_eq_some_iff.mp h
          split at h
          · next hsl =>
            obtain ⟨o, ho, h⟩ := Option.bind_eq_some_iff.mp h
            refine zm_wstat hOk ih B hK hH hS hl.1 hkr hN hc.1 hc.2.1 hc.2.2 hsl ho hdg (fun H1 locs1 hH hS => ?_)
            have := go _ h H1 locs1 ls hH hS hl
            rw [show (o.1.map (zm_tr base)).toList ++ (st.drop np).map (zm_tr base) = (o.1.toList ++ st.drop np).map (zm_tr base) by cases o.1 <;> simp]
            exact this
          · cases h
        · cases h
      · next hne =>
        split at hkr
        · next ti =>
          simp only [Bool.and_eq_true, decide_eq_true_eq] at hkr
          obtain ⟨⟨hw, hfr⟩, hlo⟩ := hkr
          split at h
          · next nn dp d sp s0 r =>
            split at h
            case isFalse => cases h
            next g4 =>
            obtain ⟨σ1, hcp, h⟩ := Option.bind_eq_some_iff.mp h
            unfold zm_cpy at hcp
            split at hcp
            · cases hcp
            · next hc =>
              simp only [not_or] at hc
              obtain ⟨g1, g2, g3⟩ := hc
              have hcat : ((r.map (zm_tr base)).map fun v => v.category).sum + (nativeFrameWords "java/lang/System" "arraycopy" 5 + 11) ≤ (zm_rm M).locals := by
                rw [List.map_map]
                have : (r.map ((fun v => v.category) ∘ zm_tr base)) = r.map fun v => v.category := List.map_congr_left fun v _ => zm_tr_cat base v
                rw [this]
                show _ ≤ (zm_ro M).2.1
                omega
              have w1 := hts _ (List.mem_cons_of_mem _ (zm_wd_mem hw))
              have w2 := hts _ (List.mem_cons_of_mem _ zm_acw.1)
              have w3 := hts _ (List.mem_cons_of_mem _ zm_acw.2.1)
              have w4 := hts _ (List.mem_cons_of_mem _ zm_acw.2.2)
              split at hcp
              · next n0 n1 hs0 hd0 =>
                split at hcp
                · cases hcp
                · next hc2 =>
                  cases hcp
                  simp only [not_or, Nat.not_lt] at hc2
                  refine zm_wcopy hx hb (hml.trans hl.1.symm) hown w1 w2 w3 w4 Value.int (hK.1.2 0 _ rfl).1 rfl (fun _ => rfl) (fun _ => Or.inl rfl) (hH.2 s0 _ hs0) (hH.2 d _ hd0) (fun z a h => by cases h) g1 g2 g3 hc2.1 hc2.2 hfr hcat hdg hS (Nat.le_add_right _ _) (fun H1 locs1 e1 z oq hS => ?_)
                  refine go _ h H1 locs1 ls (hH.put hd0 z oq ?_ (fun b sh hb => zm_cell_I sh hb)) hS hl
                  show H1[base + d]? = some (vp_cell (ids 1) (n1, .inl (va_up σ.1 d _ d)))
                  rw [e1, vp_cell_i]
                  simp [va_up]
              · next n0 n1 hs0 hd0 =>
                split at hcp
                · cases hcp
                · next hc2 =>
                  cases hcp
                  simp only [not_or, Nat.not_lt] at hc2
                  refine zm_wcopy hx hb (hml.trans hl.1.symm) hown w1 w2 w3 w4 Value.long (hK.1.2 1 _ rfl).1 rfl (fun _ => rfl) (fun _ => Or.inr rfl) (hH.2 s0 _ hs0) (hH.2 d _ hd0) (fun z a h => by cases h) g1 g2 g3 hc2.1 hc2.2 hfr hcat hdg hS (Nat.le_add_right _ _) (fun H1 locs1 e1 z oq hS => ?_)
                  refine go _ h H1 locs1 ls (hH.put hd0 z oq ?_ (fun b sh hb => zm_cell_L sh hb)) hS hl
                  show H1[base + d]? = some (vp_cell (ids 2) (n1, .inr (.inl (va_up σ.2.1 d _ d))))
                  rw [e1, vp_cell_l]
                  simp [va_up]
              · cases hcp
          · cases h
        · obtain ⟨y1, np, c1, mc1, ms1, rk1, ti, nest, N, rfl, -⟩ := zm_okc_spec hkr
          exact absurd rfl (hne _ _ _ _ _ _ _)
    | invokespecial i =>
      simp only [zm_okr, Bool.and_eq_true, decide_eq_true_eq] at hkr
      obtain ⟨rfl, hkr⟩ := hkr
      simp only [zm_stp] at h
      split at h
      · next y1 np c1 mc1 ms1 rk1 tl =>
        have hkr : zm_okc P M 2 i (y1 :: np :: c1 :: mc1 :: ms1 :: rk1 :: tl) = true := hkr
        split at h
        · next a r hst =>
          obtain ⟨u, hu, h⟩ := Option.bind_eq_some_iff.mp h
          split at h
          · next hc =>
            obtain ⟨N, hN, h⟩ := Option.bind_eq_some_iff.mp h
            split at h
            · next hsl =>
              obtain ⟨o, ho, h⟩ := Option.bind_eq_some_iff.mp h
              refine zm_wctor hOk ih B hK hH hS hl.1 hkr hN hst hc.1 hc.2 hsl ho hdg (fun H1 locs1 hH hS => ?_)
              have := go _ h H1 locs1 ls hH hS hl
              rw [show (o.1.map (zm_tr base)).toList ++ r.map (zm_tr base) = (o.1.toList ++ r).map (zm_tr base) by cases o.1 <;> simp]
              exact this
            · cases h
          · cases h
        · cases h
      · next hne =>
        split at hkr
        · next ti =>
          simp only [Bool.and_eq_true, decide_eq_true_eq] at hkr
          obtain ⟨⟨hw, hfr⟩, hlo⟩ := hkr
          split at h
          · next a r =>
            split at h
            · next g4 =>
              have hcat : 2 * (F0 m pc' ls (.ref (base + a) :: r.map (zm_tr base))).monitorRoom + ((r.map (zm_tr base)).map fun v => v.category).sum + 12 ≤ (zm_rm M).locals := by
                rw [List.map_map]
                have : (r.map ((fun v => v.category) ∘ zm_tr base)) = r.map fun v => v.category := List.map_congr_left fun v _ => zm_tr_cat base v
                rw [this]
                show 2 * 0 + _ + 12 ≤ (zm_ro M).2.1
                omega
              exact W.objInit hx hb hown (hts _ (List.mem_cons_of_mem _ (zm_wd_mem hw))) (hts _ (List.mem_cons_of_mem _ zm_obw.1)) (hts _ (List.mem_cons_of_mem _ zm_obw.2)) rfl (hl.1.trans hml.symm) rfl hdg hfr hcat (go _ h H locs ls hH hS hl)
            · cases h
          · cases h
        · obtain ⟨y1, np, c1, mc1, ms1, rk1, ti, nest, N, rfl, -⟩ := zm_okc_spec hkr
          exact absurd rfl (hne _ _ _ _ _ _ _)
    | new i =>
      simp only [zm_okr] at hkr
      split at hkr
      · split at hkr
        · next cf hcf =>
          simp only [Bool.and_eq_true, decide_eq_true_eq] at hkr
          obtain ⟨⟨rfl, rfl⟩, hw⟩ := hkr
          simp only [zm_stp] at h
          split at h
          · next hc =>
            exact zm_wnew hOk B hK hH hS hcf hw hc.1 hc.2 hdg (fun H1 hH hS => go _ h H1 locs ls hH hS hl)
          · cases h
        · cases hkr
      · cases hkr
    | newarray t =>
      simp only [zm_okr] at hkr
      split at hkr
      · simp only [Bool.and_eq_true, Bool.or_eq_true, decide_eq_true_eq] at hkr
        obtain ⟨rfl, hkt⟩ := hkr
        simp only [zm_stp] at h
        split at h
        · next heq =>
          cases heq
          split at h
          · next hc => exact zm_wnewa B hK hH hS (by rcases hkt with (q | q) | q; exact Or.inl q; exact Or.inr (Or.inl q); exact Or.inr (Or.inr q)) hc.1 hc.2.1 hc.2.2.1 hc.2.2.2 hdg zm_arw (fun H1 hH hS => go _ h H1 locs ls hH hS hl)
          · cases h
        · cases h
      · cases hkr
    | anewarray i =>
      simp only [zm_okr] at hkr
      split at hkr
      · simp only [Bool.and_eq_true, decide_eq_true_eq] at hkr
        obtain ⟨rfl, hw⟩ := hkr
        simp only [zm_stp] at h
        split at h
        · split at h
          · next hc => exact zm_wanew B hK hH hS hw hc.1 hc.2.1 hc.2.2.1 hc.2.2.2 hdg (fun H1 hH hS => go _ h H1 locs ls hH hS hl)
          · cases h
        · cases h
      · cases hkr
    | multianewarray i dd =>
      simp only [zm_okr] at hkr
      split at hkr
      · simp only [Bool.and_eq_true, decide_eq_true_eq] at hkr
        obtain ⟨⟨rfl, rfl⟩, hw⟩ := hkr
        simp only [zm_stp] at h
        split at h
        · split at h
          · next hc => exact zm_wmulti B hK hbs hH hS hw hc.1 hc.2.1 hc.2.2.1 hc.2.2.2.1 hc.2.2.2.2.1 hc.2.2.2.2.2 hdg (fun H1 hH hS => go _ h H1 locs ls hH hS hl)
          · cases h
        · cases h
      · cases hkr
    | ireturn =>
      simp only [zm_okr, decide_eq_true_eq] at hkr
      subst hkr
      simp only [zm_stp] at h
      split at h
      · next v =>
        split at h
        case isFalse => cases h
        next hcap =>
        split at h
        · next hrt =>
          have ho : out = (some (.int v), lay, σ) := (Option.some.inj h).symm
          refine W.widen (by first | exact hcap.1 | exact Nat.le_refl _) (by first | exact hcap.2 | exact Nat.le_refl _) ?_
          exact W.iret hx hb (hr.trans hrt) (hq _ H locs hS ho hH) hS.2.2 hdg
        · split at h
          · next hrt =>
            split at h
            · next hv =>
              have ho : out = (some (.int v), lay, σ) := (Option.some.inj h).symm
              refine W.widen (by first | exact hcap.1 | exact Nat.le_refl _) (by first | exact hcap.2 | exact Nat.le_refl _) ?_
              exact W.zret hx hb (hr.trans hrt) (by rcases hv with rfl | rfl <;> rfl) (hq _ H locs hS ho hH) hS.2.2 hdg
            · cases h
          · cases h
      · cases h
    | lreturn =>
      simp only [zm_okr, decide_eq_true_eq] at hkr
      subst hkr
      simp only [zm_stp] at h
      split at h
      · next v =>
        split at h
        case isFalse => cases h
        next hcap =>
        split at h
        · next hrt =>
          have ho : out = (some (.long v), lay, σ) := (Option.some.inj h).symm
          refine W.widen (by first | exact hcap.1 | exact Nat.le_refl _) (by first | exact hcap.2 | exact Nat.le_refl _) ?_
          exact W.lret hx hb (hr.trans hrt) (hq _ H locs hS ho hH) hS.2.2 hdg
        · cases h
      · cases h
    | return_ =>
      simp only [zm_okr, decide_eq_true_eq] at hkr
      subst hkr
      simp only [zm_stp] at h
      split at h
      · split at h
        case isFalse => cases h
        next hcap =>
        split at h
        · next hrt =>
          have ho : out = (none, lay, σ) := (Option.some.inj h).symm
          refine W.widen (by first | exact hcap.1 | exact Nat.le_refl _) (by first | exact hcap.2 | exact Nat.le_refl _) ?_
          exact W.vret hx hb (hr.trans hrt) (hq _ H locs hS ho hH) hS.2.2 hdg
        · cases h
      · cases h
    | _ => cases h
theorem zm_snd {P : Nat → Option zm_Mth} (hOk : zm_Ok P) (l : Launch) (base : Nat) (D : va_G) (ids : Nat → ClassId) : ∀ n, zm_Snd P l base D ids n
  | 0 => fun y M x out _ h => by cases h
  | n + 1 => zm_snd_succ hOk (zm_snd hOk l base D ids n)
