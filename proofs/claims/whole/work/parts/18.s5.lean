/-! THE ABSTRACT MACHINE IS THE MACHINE, five: natives, calls -/
theorem am_over_moved {u U : State} (hvm : u.vm.Alike U.vm) (h : (Cond.arrayOver (.array .int)).before #[] u = true) : (Cond.arrayOver (.array .int)).before #[] U = true := by
  obtain ⟨comp, c, k, h1, h2, h3, h4, h5⟩ := am_over_spec h
  obtain ⟨k', hk', he⟩ := hvm.2.2 _ _ h3
  have hi : U.vm.classes.findIdx? (am_arrOf comp) = some c := by
    rw [← am_idx_bare]
    first | rw [hvm.bare_eq] | rw [← hvm.bare_eq]
    rw [am_idx_bare]
    exact h2
  have hkind : k'.kind = .array comp (.array .int) := by rw [he]; exact h4
  have f1 : U.vm.findClass (FieldType.array .int).toString = some comp := by rw [hvm.findClass]; exact h1
  have f2 : U.vm.findClass ("[" ++ (FieldType.array .int).toString) = some c := by rw [hvm.findClass]; exact h5
  unfold Cond.before Cond.holds
  simp only [Cond.value]
  rw [f1, Option.bind_some]
  refine (congrArg (fun o : Option Nat => (o.bind (fun c => (U.vm.classes[c]?).map fun (k : Class) => match k.kind with | .array _ ty => decide (ty = FieldType.array .int) && decide (U.vm.findClass ("[" ++ (FieldType.array .int).toString) = some c) | _ => false) == some true)) hi).trans ?_
  simp [hk', hkind, f2]
theorem am_RO.moved {X : am_X} {base : Nat} {ro : Nat → Nat} {s U : State} (hW : s.WarmedH U.vm) (hq : ∀ a : Nat, a < s.heap.size → ¬ base ≤ a → U.heap[a]? = s.heap[a]?) (h : am_RO X base ro s) : am_RO X base ro U := by
  obtain ⟨h1, h2, h3, h4, h5, h6, h7, h8, h9, h10, h11, h12, h13⟩ := h
  exact ⟨(vk_S.moved hW.alike h1).kept hq, vk_R.warm hW h2, vk_R.warm hW h3, (va_Z.moved hW.alike h4).kept hq, (va_T.moved hW.alike h5).kept hq, va_Nw.warmM hW h6, va_Nw.warmM hW h7, va_Nw.warmM hW h8, va_Nw.warmM hW h9, va_Nw.warmM hW h10, va_AO.moved hW.alike h11, am_over_moved hW.alike h12, (va_Z.moved hW.alike h13).kept hq⟩
theorem am_sum_rv (ad : Nat → Nat) (st : List Value) : ((st.map (am_rv ad)).map fun v => v.category).sum = am_sum st := by
  unfold am_sum
  rw [List.map_map]
  congr 1
  apply List.map_congr_left
  intro v _
  exact am_rv_cat ad v
section AM5
variable {p : Program} {l : Launch} {e : Env} {R : Room} {s : State} {m : MethodId} {args : Array Value} {below : List Frame} {meth : Method} {c : Code} {H : Heap} {locs : List Loc} {cells slots : Nat} {Q : State → Prop}
variable {cc : ByteArray} {pc len : Nat} {lsR : Array Slot} {i : Instr} {base : Nat} {ro : Nat → Nat} {ct : Nat → ClassId} {D : va_G} {X : am_X}
set_option maxHeartbeats 8000000 in
theorem am_nat_W (hx : p.tables.exec = Jvm.exec) (hb : c.code = cc) (hml : c.maxLocals = lsR.size) (hd : decode cc pc = .ok (i, len)) {μ : am_MM} (hown : s.vm.findClass (am_cn μ.1) = some m.cls) (hts : ∀ w ∈ am_WS, w.before args s = true) (hK : va_K D vwCl (am_tl ct) s) {M M' : am_M} (hn : M.1 ≤ 1003) (hP : va_P D vwCl (am_Wd ct (am_ad base ro) M) H) (hS : va_S (fun q => base ≤ q) s.heap H locs)
    (hfr : 1 ≤ R.frames) (hlo : 60 ≤ R.locals) (hrc : cells ≤ R.cells) (hrs : slots ≤ R.slots) {st st' : List Value} (h : am_inv μ i len st M = some (.inr (st', M')))
    (kk : ∀ (H1 : Heap) (locs1 : List Loc), va_P D vwCl (am_Wd ct (am_ad base ro) M') H1 → va_S (fun q => base ≤ q) s.heap H1 locs1 → W p l e R s m args below meth c H1 locs1 cells slots Q (F0 m (pc + len) lsR (st'.map (am_rv (am_ad base ro))))) : M'.1 = M.1 ∧ W p l e R s m args below meth c H locs cells slots Q (F0 m pc lsR (st.map (am_rv (am_ad base ro)))) := by
  unfold am_inv at h
  split at h <;> try (first | (cases h; done) | skip)
  · split at h
    · split at h
      · split at h <;> cases h
      · cases h
    · cases h
  · next ix =>
    split at h
    · split at h <;> cases h
    · next hlk =>
      have hw := (am_lk_some hlk).1
      split at h
      · split at h
        · next hc =>
          cases h
          exact ⟨rfl, va_mmax hx hb hml hown (hts _ (hw _ (by simp [am_wds]))) (hts _ (hw _ (by simp [am_wds]))) (hts _ (hw _ (by simp [am_wds]))) (hts _ (hw _ (by simp [am_wds]))) hfr (by rw [am_sum_rv]; omega) hrc hrs hd (kk H locs hP hS)⟩
        · cases h
      · cases h
    · next hlk =>
      have hw := (am_lk_some hlk).1
      split at h
      · split at h
        · next hc =>
          cases h
          exact ⟨rfl, va_mmin hx hb hml hown (hts _ (hw _ (by simp [am_wds]))) (hts _ (hw _ (by simp [am_wds]))) (hts _ (hw _ (by simp [am_wds]))) (hts _ (hw _ (by simp [am_wds]))) hfr (by rw [am_sum_rv]; omega) hrc hrs hd (kk H locs hP hS)⟩
        · cases h
      · cases h
    · next hlk =>
      have hw := (am_lk_some hlk).1
      split at h
      · split at h
        · next hc =>
          cases h
          exact ⟨rfl, va_mabs hx hb hml hown (hts _ (hw _ (by simp [am_wds]))) (hts _ (hw _ (by simp [am_wds]))) (hts _ (hw _ (by simp [am_wds]))) (hts _ (hw _ (by simp [am_wds]))) hfr (by rw [am_sum_rv]; omega) hrc hrs hd (kk H locs hP hS)⟩
        · cases h
      · cases h
    · next hlk =>
      have hw := (am_lk_some hlk).1
      split at h
      · next n dp b sp a r =>
        split at h
        · next hc =>
          cases h
          obtain ⟨hc1, hc2, hc3, hc4, hc5, hc6, hc7, hc8⟩ := hc
          obtain ⟨h1, h2⟩ := am_is_iff hc1
          obtain ⟨h3, h4⟩ := am_is_iff hc2
          have hea := am_Wd_at (ct := ct) (ad := am_ad base ro) h1
          rw [am_cell_i h2 (Or.inl rfl)] at hea
          have heb := am_Wd_at (ct := ct) (ad := am_ad base ro) h3
          rw [am_cell_i h4 (Or.inl rfl)] at heb
          have hnf : nativeFrameWords "java/lang/System" "arraycopy" 5 = 7 := by decide
          refine ⟨rfl, va_copyi (ty := .int) hx hb hml hown (hts _ (hw _ (by simp [am_wds]))) (hts _ (hw _ (by simp [am_wds]))) (hts _ (hw _ (by simp [am_wds]))) (hts _ (hw _ (by simp [am_wds]))) hK hP (am_Wd_D hn) hS a b 0 0 hea heb rfl rfl rfl hc3 hc4 hc5 hc6 hc7 (fun _ _ => rfl) hfr (by rw [am_sum_rv]; omega) hd (fun H1 locs1 g1 _ g3 => ?_)⟩
          rw [am_Wd_set (ct := ct) (ad := am_ad base ro) (M := M) (k := b) (M' := am_copy M a b sp.toNatClampNeg dp.toNatClampNeg n.toNatClampNeg) rfl (by rw [am_cell_i h4 (Or.inl rfl)]; exact congrArg (fun z => Sum.inl (ct 20, (am_SH b).2, Sum.inl z)) am_w_eq) (fun z hz => am_cell_congr (am_w_ne hz) rfl rfl)] at g1
          exact kk H1 locs1 g1 g3
        · cases h
      · cases h
    · cases h
  · next ix =>
    split at h
    · split at h
      · split at h <;> cases h
      · cases h
    · split at h
      · split at h <;> cases h
      · cases h
    · next hlk =>
      have hw := (am_lk_some hlk).1
      split at h
      · split at h
        · next hc =>
          cases h
          refine ⟨rfl, W.objInit hx hb hown (hts _ (hw _ (by simp [am_wds]))) (hts _ (hw _ (by simp [am_wds]))) (hts _ (hw _ (by simp [am_wds]))) rfl (by exact hml.symm) rfl hd hfr ?_ (kk H locs hP hS)⟩
          rw [am_sum_rv]
          show 2 * 0 + _ + 12 ≤ _
          omega
        · cases h
      · cases h
    · cases h
end AM5
