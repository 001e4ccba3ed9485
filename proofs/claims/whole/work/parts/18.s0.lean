/-! THE ABSTRACT MACHINE IS THE MACHINE, one: stack, locals, jumps -/
def am_rv (ad : Nat → Nat) (v : Value) : Value := match v with
  | .ref k => .ref (ad k)
  | v => v
theorem am_rv_cat (ad : Nat → Nat) (v : Value) : (am_rv ad v).category = v.category := by cases v <;> rfl
def am_LV (ad : Nat → Nat) (ls : am_LS) (lsR : Array Slot) : Prop := lsR.size = ls.length ∧ lv_wf lsR ∧ ∀ (i : Nat) (v : Value), ls[i]? = some (some v) → lsR[i]? = some (.val (am_rv ad v))
theorem am_getD {ls : am_LS} {k : Nat} {v : Value} (h : ls.getD k none = some v) : ls[k]? = some (some v) := by
  rw [List.getD_eq_getElem?_getD] at h
  cases hk : ls[k]? with
  | none => rw [hk] at h; cases h
  | some o => rw [hk] at h; simp at h; rw [h]
/-- all values that the locals hold -/
def am_prs (ad : Nat → Nat) (ls : am_LS) : List (Nat × Value) := (List.range ls.length).filterMap (fun i => (ls.getD i none).map (fun v => (i, am_rv ad v)))
theorem am_prs_mem {ad : Nat → Nat} {ls : am_LS} {q : Nat × Value} : q ∈ am_prs ad ls ↔ ∃ v, ls[q.1]? = some (some v) ∧ q.2 = am_rv ad v := by
  unfold am_prs
  rw [List.mem_filterMap]
  constructor
  · rintro ⟨i, hi, h⟩
    cases hg : ls.getD i none with
    | none => rw [hg] at h; cases h
    | some v =>
      rw [hg] at h
      simp only [Option.map_some, Option.some.injEq] at h
      subst h
      exact ⟨v, am_getD hg, rfl⟩
  · rintro ⟨v, h1, h2⟩
    have hl : q.1 < ls.length := (List.getElem?_eq_some_iff.mp h1).1
    refine ⟨q.1, List.mem_range.mpr hl, ?_⟩
    rw [List.getD_eq_getElem?_getD, h1]
    simp [← h2]
theorem am_prs_of {ad : Nat → Nat} {ls : am_LS} {k : Nat} {v : Value} (h : ls.getD k none = some v) : ∃ k9 : Nat, (am_prs ad ls)[k9]? = some (k, am_rv ad v) := by
  have hmm : (k, am_rv ad v) ∈ am_prs ad ls := am_prs_mem.mpr ⟨v, am_getD h, rfl⟩
  obtain ⟨k9, hk9⟩ := List.getElem?_of_mem hmm
  exact ⟨k9, hk9⟩
theorem am_LV.has {ad : Nat → Nat} {ls : am_LS} {lsR : Array Slot} (h : am_LV ad ls lsR) : lv_has lsR ls.length (am_prs ad ls) := by
  refine ⟨h.1, h.2.1, fun q hq => ?_⟩
  obtain ⟨v, h1, h2⟩ := am_prs_mem.mp hq
  rw [h2]
  exact h.2.2 q.1 v h1
theorem am_LV.st1 {ad : Nat → Nat} {ls ls' : am_LS} {k : Nat} {v : Value} {lsR' : Array Slot} (hs : am_st1 ls k v = some ls') (h : lv_has lsR' ls.length ((k, am_rv ad v) :: (am_prs ad ls).filter (fun q => !(q.1 == k) && !(q.1 + 1 == k && q.2.category == 2)))) : am_LV ad ls' lsR' := by
  unfold am_st1 at hs
  split at hs
  next hc =>
    simp only [Option.some.injEq] at hs
    subst hs
    refine ⟨by rw [h.1, List.length_set], h.2.1, fun i w hw => ?_⟩
    rw [List.getElem?_set] at hw
    split at hw
    next e =>
      subst e
      simp only [hc.1, if_true, Option.some.injEq] at hw
      subst hw
      exact h.2.2 _ List.mem_cons_self
    next e =>
      refine h.2.2 (i, am_rv ad w) (List.mem_cons_of_mem _ (List.mem_filter.mpr ⟨am_prs_mem.mpr ⟨w, hw, rfl⟩, ?_⟩))
      simp only [Bool.and_eq_true, Bool.not_eq_true', beq_eq_false_iff_ne, ne_eq, Bool.and_eq_false_iff]
      refine ⟨fun z => e z.symm, ?_⟩
      by_cases z : i + 1 = k
      · right
        rw [am_rv_cat]
        rcases hc.2 with h0 | h0
        · omega
        · have hk : k - 1 = i := by omega
          rw [hk, List.getD_eq_getElem?_getD, hw] at h0
          simpa [am_cat2] using h0
      · exact Or.inl z
  next => cases hs
theorem am_LV.st2 {ad : Nat → Nat} {ls ls' : am_LS} {k : Nat} {v : Value} {lsR' : Array Slot} (hs : am_st2 ls k v = some ls') (h : lv_has lsR' ls.length ((k, am_rv ad v) :: (am_prs ad ls).filter (fun q => !(q.1 == k) && (!(q.1 == k + 1) && !(q.1 + 1 == k && q.2.category == 2))))) : am_LV ad ls' lsR' := by
  unfold am_st2 at hs
  split at hs
  next hc =>
    simp only [Option.some.injEq] at hs
    subst hs
    refine ⟨by rw [h.1, List.length_set, List.length_set], h.2.1, fun i w hw => ?_⟩
    rw [List.getElem?_set] at hw
    split at hw
    next e =>
      subst e
      split at hw
      next => simp at hw
      next => simp at hw
    next e1 =>
      rw [List.getElem?_set] at hw
      split at hw
      next e =>
        subst e
        have hlt : k < ls.length := by omega
        simp only [hlt, if_true, Option.some.injEq] at hw
        subst hw
        exact h.2.2 _ List.mem_cons_self
      next e =>
        refine h.2.2 (i, am_rv ad w) (List.mem_cons_of_mem _ (List.mem_filter.mpr ⟨am_prs_mem.mpr ⟨w, hw, rfl⟩, ?_⟩))
        simp only [Bool.and_eq_true, Bool.not_eq_true', beq_eq_false_iff_ne, ne_eq, Bool.and_eq_false_iff]
        refine ⟨fun z => e z.symm, fun z => e1 z.symm, ?_⟩
        by_cases z : i + 1 = k
        · right
          rw [am_rv_cat]
          rcases hc.2 with h0 | h0
          · omega
          · have hk : k - 1 = i := by omega
            rw [hk, List.getD_eq_getElem?_getD, hw] at h0
            simpa [am_cat2] using h0
        · exact Or.inl z
  next => cases hs
theorem am_st1_lt {ls ls' : am_LS} {k : Nat} {v : Value} (hs : am_st1 ls k v = some ls') : k < ls.length := by
  unfold am_st1 at hs
  split at hs
  next hc => exact hc.1
  next => cases hs
theorem am_st2_lt {ls ls' : am_LS} {k : Nat} {v : Value} (hs : am_st2 ls k v = some ls') : k + 1 < ls.length := by
  unfold am_st2 at hs
  split at hs
  next hc => exact hc.1
  next => cases hs
theorem am_jmp_some {pc t : Nat} {off : Int} (h : am_jmp pc off = some t) : (pc : Int) + off = (t : Int) := by
  unfold am_jmp at h
  split at h
  next hc => cases h; omega
  next => cases h
section AM1
variable {p : Program} {l : Launch} {e : Env} {R : Room} {s : State} {m : MethodId} {args : Array Value} {below : List Frame} {meth : Method} {c : Code} {H : Heap} {locs : List Loc} {cells slots : Nat} {Q : State → Prop}
variable {cc : ByteArray} {pc len : Nat} {lsR : Array Slot} {ad : Nat → Nat} {i : Instr}
set_option maxHeartbeats 4000000 in
theorem am_pure_W (hx : p.tables.exec = Jvm.exec) (hb : c.code = cc) (hd : decode cc pc = .ok (i, len)) {st st' : List Value} (h : am_pure i len st = some st')
    (kk : W p l e R s m args below meth c H locs cells slots Q (F0 m (pc + len) lsR (st'.map (am_rv ad)))) : W p l e R s m args below meth c H locs cells slots Q (F0 m pc lsR (st.map (am_rv ad))) := by
  unfold am_pure at h
  split at h <;> try (first | (cases h; done) | skip)
  · cases h; exact lv_iconst hx hb hd rfl kk
  · cases h; exact lv_bipush hx hb hd rfl kk
  · cases h; exact lv_sipush hx hb hd rfl kk
  · cases h; exact lv_lconst hx hb hd rfl kk
  · cases h; exact lv_iadd hx hb hd kk
  · cases h; exact lv_isub hx hb hd kk
  · cases h; exact lv_imul hx hb hd kk
  · cases h; exact lv_iand hx hb hd kk
  · cases h; exact lv_ior hx hb hd kk
  · cases h; exact lv_ixor hx hb hd kk
  · split at h
    · cases h
    · next hy => cases h; exact lv_idiv hx hb hd hy kk
  · split at h
    · cases h
    · next hy => cases h; exact lv_irem hx hb hd hy kk
  · cases h; exact lv_ineg hx hb hd kk
  · cases h; exact lv_ishl hx hb hd kk
  · cases h; exact lv_ishr hx hb hd kk
  · cases h; exact lv_iushr hx hb hd rfl kk
  · cases h; exact lv_ladd hx hb hd kk
  · cases h; exact lv_lmul hx hb hd kk
  · cases h; exact lv_lshl hx hb hd rfl kk
  · cases h; exact W.lcmp hx hb hd kk
  · cases h; exact lv_i2l hx hb hd rfl kk
  · cases h; exact lv_l2i hx hb hd rfl kk
  · cases h; exact lv_i2b hx hb hd rfl kk
  · cases h; exact lv_i2c hx hb hd rfl kk
  · split at h
    · next hc => cases h; exact lv_dup hx hb hd (by rw [am_rv_cat]; exact hc) kk
    · cases h
  · split at h
    · next hc => cases h; exact lv_pop hx hb hd (by rw [am_rv_cat]; exact hc) kk
    · cases h
  · split at h
    · next hc => cases h; exact lv_dup_x1 hx hb hd (by rw [am_rv_cat]; exact hc.1) (by rw [am_rv_cat]; exact hc.2) kk
    · cases h
  · split at h
    · next hc => cases h; exact lv_dup2_11 hx hb hd (by rw [am_rv_cat]; exact hc.1) (by rw [am_rv_cat]; exact hc.2) kk
    · cases h
set_option maxHeartbeats 4000000 in
theorem am_load_W (hx : p.tables.exec = Jvm.exec) (hb : c.code = cc) (hd : decode cc pc = .ok (i, len)) {ls : am_LS} {st : List Value} {v : Value} (hl : am_LV ad ls lsR) (h : am_load i len ls = some v)
    (kk : W p l e R s m args below meth c H locs cells slots Q (F0 m (pc + len) lsR ((v :: st).map (am_rv ad)))) : W p l e R s m args below meth c H locs cells slots Q (F0 m pc lsR (st.map (am_rv ad))) := by
  unfold am_load at h
  split at h <;> try (first | (cases h; done) | skip)
  · split at h
    · next hg => cases h; exact lv_iload hx hb hd (hl.2.2 _ _ (am_getD hg)) kk
    · cases h
  · split at h
    · next hg => cases h; exact lv_iload_n hx hb hd rfl (hl.2.2 _ _ (am_getD hg)) kk
    · cases h
  · split at h
    · next hg => cases h; exact lv_lload hx hb hd (hl.2.2 _ _ (am_getD hg)) kk
    · cases h
  · split at h
    · next hg => cases h; exact lv_lload_n hx hb hd rfl (hl.2.2 _ _ (am_getD hg)) kk
    · cases h
  · split at h
    · next hg => cases h; exact lv_aload hx hb hd (hl.2.2 _ _ (am_getD hg)) kk
    · next hg => cases h; exact lv_aloadN hx hb hd (hl.2.2 _ _ (am_getD hg)) kk
    · cases h
  · split at h
    · next hg => cases h; exact lv_aload_n hx hb hd rfl (hl.2.2 _ _ (am_getD hg)) kk
    · next hg => cases h; exact lv_aload_nN hx hb hd rfl (hl.2.2 _ _ (am_getD hg)) kk
    · cases h
theorem am_map_some {α β : Type} {o : Option α} {f : α → β} {b : β} (h : o.map f = some b) : ∃ a, o = some a ∧ f a = b := by
  cases o with
  | none => cases h
  | some a => exact ⟨a, rfl, Option.some.inj h⟩
set_option maxHeartbeats 4000000 in
theorem am_store_W (hx : p.tables.exec = Jvm.exec) (hb : c.code = cc) (hd : decode cc pc = .ok (i, len)) {ls ls' : am_LS} {st st' : List Value} (hl : am_LV ad ls lsR) (h : am_store i len ls st = some (ls', st'))
    (kk : ∀ lsR' : Array Slot, am_LV ad ls' lsR' → W p l e R s m args below meth c H locs cells slots Q (F0 m (pc + len) lsR' (st'.map (am_rv ad)))) : W p l e R s m args below meth c H locs cells slots Q (F0 m pc lsR (st.map (am_rv ad))) := by
  unfold am_store at h
  split at h <;> try (first | (cases h; done) | skip)
  · obtain ⟨l', h1, h2⟩ := am_map_some h; cases h2
    exact lv_istore hx hb hd hl.has (am_st1_lt h1) rfl (fun lsR' h' => kk lsR' (am_LV.st1 h1 h'))
  · obtain ⟨l', h1, h2⟩ := am_map_some h; cases h2
    exact lv_istore_n hx hb hd rfl hl.has (am_st1_lt h1) rfl (fun lsR' h' => kk lsR' (am_LV.st1 h1 h'))
  · obtain ⟨l', h1, h2⟩ := am_map_some h; cases h2
    exact lv_lstore hx hb hd hl.has (am_st2_lt h1) rfl (fun lsR' h' => kk lsR' (am_LV.st2 h1 h'))
  · obtain ⟨l', h1, h2⟩ := am_map_some h; cases h2
    exact lv_lstore_n hx hb hd rfl hl.has (am_st2_lt h1) rfl (fun lsR' h' => kk lsR' (am_LV.st2 h1 h'))
  · obtain ⟨l', h1, h2⟩ := am_map_some h; cases h2
    exact lv_astore hx hb hd hl.has (am_st1_lt h1) rfl (fun lsR' h' => kk lsR' (am_LV.st1 h1 h'))
  · obtain ⟨l', h1, h2⟩ := am_map_some h; cases h2
    exact lv_astoreN hx hb hd hl.has (am_st1_lt h1) rfl (fun lsR' h' => kk lsR' (am_LV.st1 h1 h'))
  · obtain ⟨l', h1, h2⟩ := am_map_some h; cases h2
    exact lv_astore_n hx hb hd rfl hl.has (am_st1_lt h1) rfl (fun lsR' h' => kk lsR' (am_LV.st1 h1 h'))
  · obtain ⟨l', h1, h2⟩ := am_map_some h; cases h2
    exact lv_astore_nN hx hb hd rfl hl.has (am_st1_lt h1) rfl (fun lsR' h' => kk lsR' (am_LV.st1 h1 h'))
  · split at h
    · next hg =>
      obtain ⟨l', h1, h2⟩ := am_map_some h; cases h2
      obtain ⟨k9, hk9⟩ := am_prs_of (ad := ad) hg
      exact lv_iinc (k := k9) hx hb hd hl.has hk9 rfl (am_st1_lt h1) rfl (fun lsR' h' => kk lsR' (am_LV.st1 h1 h'))
    · cases h
set_option maxHeartbeats 4000000 in
theorem am_jump_W (hx : p.tables.exec = Jvm.exec) (hb : c.code = cc) (hd : decode cc pc = .ok (i, len)) {st st' : List Value} {t : Nat} (h : am_jump i len pc st = some (t, st'))
    (kk : W p l e R s m args below meth c H locs cells slots Q (F0 m t lsR (st'.map (am_rv ad)))) : W p l e R s m args below meth c H locs cells slots Q (F0 m pc lsR (st.map (am_rv ad))) := by
  unfold am_jump at h
  split at h <;> try (first | (cases h; done) | skip)
  · next cd off x st =>
    obtain ⟨t', h1, h2⟩ := am_map_some h
    simp only [Prod.mk.injEq] at h2
    obtain ⟨h2, rfl⟩ := h2
    have ht := am_jmp_some h1
    subst h2
    cases cd
    · exact lv_if_eq hx hb hd ht (fun q => by rw [if_pos (by simp [am_cnd, q])] at kk; exact kk) (fun q => by rw [if_neg (by simp [am_cnd, q])] at kk; exact kk)
    · exact lv_if_ne hx hb hd ht (fun q => by rw [if_pos (by simp [am_cnd, q])] at kk; exact kk) (fun q => by rw [if_neg (by simp [am_cnd, q])] at kk; exact kk)
    · exact lv_if_lt hx hb hd ht (fun q => by rw [if_pos (by simp only [am_cnd, decide_eq_true_eq]; exact q)] at kk; exact kk) (fun q => by rw [if_neg (by simp only [am_cnd, decide_eq_true_eq]; exact q)] at kk; exact kk)
    · exact lv_if_ge hx hb hd ht (fun q => by rw [if_pos (by simp only [am_cnd, decide_eq_true_eq]; exact q)] at kk; exact kk) (fun q => by rw [if_neg (by simp only [am_cnd, decide_eq_true_eq]; exact q)] at kk; exact kk)
    · exact lv_if_gt hx hb hd ht (fun q => by rw [if_pos (by simp only [am_cnd, decide_eq_true_eq]; exact q)] at kk; exact kk) (fun q => by rw [if_neg (by simp only [am_cnd, decide_eq_true_eq]; exact q)] at kk; exact kk)
    · exact lv_if_le hx hb hd ht (fun q => by rw [if_pos (by simp only [am_cnd, decide_eq_true_eq]; exact q)] at kk; exact kk) (fun q => by rw [if_neg (by simp only [am_cnd, decide_eq_true_eq]; exact q)] at kk; exact kk)
  · next cd off y x st =>
    obtain ⟨t', h1, h2⟩ := am_map_some h
    simp only [Prod.mk.injEq] at h2
    obtain ⟨h2, rfl⟩ := h2
    have ht := am_jmp_some h1
    subst h2
    cases cd
    · exact lv_icmp_eq hx hb hd ht (fun q => by rw [if_pos (by simp [am_cnd, q])] at kk; exact kk) (fun q => by rw [if_neg (by simp [am_cnd, q])] at kk; exact kk)
    · exact lv_icmp_ne hx hb hd ht (fun q => by rw [if_pos (by simp [am_cnd, q])] at kk; exact kk) (fun q => by rw [if_neg (by simp [am_cnd, q])] at kk; exact kk)
    · exact lv_icmp_lt hx hb hd ht (fun q => by rw [if_pos (by simp only [am_cnd, decide_eq_true_eq]; exact q)] at kk; exact kk) (fun q => by rw [if_neg (by simp only [am_cnd, decide_eq_true_eq]; exact q)] at kk; exact kk)
    · exact lv_icmp_ge hx hb hd ht (fun q => by rw [if_pos (by simp only [am_cnd, decide_eq_true_eq]; exact q)] at kk; exact kk) (fun q => by rw [if_neg (by simp only [am_cnd, decide_eq_true_eq]; exact q)] at kk; exact kk)
    · exact lv_icmp_gt hx hb hd ht (fun q => by rw [if_pos (by simp only [am_cnd, decide_eq_true_eq]; exact q)] at kk; exact kk) (fun q => by rw [if_neg (by simp only [am_cnd, decide_eq_true_eq]; exact q)] at kk; exact kk)
    · exact lv_icmp_le hx hb hd ht (fun q => by rw [if_pos (by simp only [am_cnd, decide_eq_true_eq]; exact q)] at kk; exact kk) (fun q => by rw [if_neg (by simp only [am_cnd, decide_eq_true_eq]; exact q)] at kk; exact kk)
  · obtain ⟨t', h1, h2⟩ := am_map_some h; cases h2
    exact lv_goto hx hb hd (am_jmp_some h1) kk
  · obtain ⟨t', h1, h2⟩ := am_map_some h; cases h2
    exact lv_ifnullN hx hb hd (am_jmp_some h1) kk
  · cases h; exact lv_ifnull hx hb hd kk
  · cases h; exact lv_ifnonnullN hx hb hd kk
  · obtain ⟨t', h1, h2⟩ := am_map_some h; cases h2
    exact lv_ifnonnull hx hb hd (am_jmp_some h1) kk
  · split at h
    · next hc =>
      obtain ⟨t', h1, h2⟩ := am_map_some h; cases h2
      exact lv_tableOut hx hb hd hc (am_jmp_some h1) kk
    · next hc =>
      split at h
      · next off ho =>
        obtain ⟨t', h1, h2⟩ := am_map_some h; cases h2
        exact lv_tableIn hx hb hd (fun q => hc (Or.inl q)) (fun q => hc (Or.inr q)) ho (am_jmp_some h1) kk
      · cases h
end AM1
