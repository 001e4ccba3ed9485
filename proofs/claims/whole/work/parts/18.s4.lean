/-! THE ABSTRACT MACHINE IS THE MACHINE, four: all writes -/
section AM4
variable {p : Program} {l : Launch} {e : Env} {R : Room} {s : State} {m : MethodId} {args : Array Value} {below : List Frame} {meth : Method} {c : Code} {H : Heap} {locs : List Loc} {cells slots : Nat} {Q : State → Prop}
variable {cc : ByteArray} {pc len : Nat} {lsR : Array Slot} {i : Instr} {base : Nat} {ro : Nat → Nat} {ct : Nat → ClassId} {D : va_G} {X : am_X}
theorem am_Hsize {M : am_M} (hn : M.1 ≤ 1003) (hsz : s.heap.size + cells = base + M.1) (hbz : base ≤ s.heap.size) (hP : va_P D vwCl (am_Wd ct (am_ad base ro) M) H) (hS : va_S (fun q => base ≤ q) s.heap H locs) (hz : H.size ≤ s.heap.size + cells) : H.size = base + M.1 := by
  have h1 := hS.1
  by_cases h0 : M.1 = 0
  · omega
  · have h2 := (hP _ _ (am_Wd_at (ct := ct) (ad := am_ad base ro) (k := M.1 - 1) (by omega))).lt
    have h3 : am_ad base ro (M.1 - 1) = base + (M.1 - 1) := by unfold am_ad; rw [if_pos (by omega)]
    have h4 : am_ad base ro (M.1 - 1) < H.size := h2
    omega
theorem am_setI_ne {M : am_M} {k j : Nat} {x : Int32} {ad : Nat → Nat} : ∀ a, a ≠ k → am_cell ct ad (am_setI M k j x) a = am_cell ct ad M a := fun _ ha => am_cell_congr (am_u_ne ha) rfl rfl
theorem am_setL_ne {M : am_M} {k j : Nat} {x : Int64} {ad : Nat → Nat} : ∀ a, a ≠ k → am_cell ct ad (am_setL M k j x) a = am_cell ct ad M a := fun _ ha => am_cell_congr rfl (am_u_ne ha) rfl
theorem am_setR_ne {M : am_M} {k j : Nat} {x : Option Nat} {ad : Nat → Nat} : ∀ a, a ≠ k → am_cell ct ad (am_setR M k j x) a = am_cell ct ad M a := fun _ ha => am_cell_congr rfl rfl (am_u_ne ha)
theorem am_upd_u {h : Nat → Nat → Int32} {k j : Nat} {x : Int32} : am_u h k j x k = upd (h k) j x := by
  funext b; simp [am_u, upd]
theorem am_upd_uL {h : Nat → Nat → Int64} {k j : Nat} {x : Int64} : am_u h k j x k = vp_updL (h k) j x := by
  funext b; simp [am_u, vp_updL]
theorem am_mna_locs {locs : List Loc} {base N h : Nat} (hl : ∀ l ∈ locs, base ≤ l.base) (hb : base ≤ h) : ∀ l ∈ locs ++ (List.range N).map (fun j => (⟨h, j⟩ : Loc)), base ≤ l.base := by
  intro l hm
  rcases List.mem_append.mp hm with hm | hm
  · exact hl l hm
  · obtain ⟨j, -, rfl⟩ := List.mem_map.mp hm
    exact hb
set_option maxHeartbeats 4000000 in
theorem am_mna (hexec : p.tables.exec = Jvm.exec) (hb : c.code = cc) {own : String} {index : Nat} {cy : ClassId} (hown : s.vm.findClass own = some m.cls) (hclink : (Cond.classLink own index ("[" ++ (FieldType.array .int).toString)).before args s = true) (hover : (Cond.arrayOver (.array .int)).before args s = true) (harr : (Cond.arrayClass .int).before args s = true) (hcy : s.vm.findClass (FieldType.array .int).toString = some cy)
    {n k : Int32} {rest : List Value} (hn : ¬ n < 0) (hk : ¬ k < 0) (hb1 : n.toNatClampNeg ≤ 1003) (hb2 : k.toNatClampNeg ≤ 1003) (hcells : cells + (1 + n.toNatClampNeg) ≤ R.cells) (hslots : slots + (n.toNatClampNeg + n.toNatClampNeg * k.toNatClampNeg) ≤ R.slots) (hdg : decode cc pc = .ok (.multianewarray index 2, 4))
    (kk : ∀ (cA : ClassId) (H1 : Heap), s.vm.findClass ("[" ++ (FieldType.array .int).toString) = some cA → H1.size = H.size + 1 + n.toNatClampNeg → H1[H.size]? = some (vp_cell cA (n.toNatClampNeg, .inr (.inr (.inr (.inr (fun i => if i < n.toNatClampNeg then some (H.size + 1 + i) else none)))))) → (∀ j : Nat, j < n.toNatClampNeg → H1[H.size + 1 + j]? = some (vp_cell cy (k.toNatClampNeg, .inl (fun _ => 0)))) → (∀ x : Nat, x < H.size → H1[x]? = H[x]?) →
      W p l e R s m args below meth c H1 (locs ++ (List.range n.toNatClampNeg).map fun j => ⟨H.size, j⟩) (cells + 1 + n.toNatClampNeg) (slots + n.toNatClampNeg + n.toNatClampNeg * k.toNatClampNeg) Q (F0 m (pc + 4) lsR (.ref H.size :: rest))) : W p l e R s m args below meth c H locs cells slots Q (F0 m pc lsR (.int k :: .int n :: rest)) := by
  intro T hT Xs
  have hpl : e.platform.magicAccessors = ({} : Platform).magicAccessors := by rw [Xs.admits.platform]
  obtain ⟨comp, cA, kA, hcomp, -, hkA, hkindA, hnameA⟩ := am_over_spec hover
  obtain ⟨comp', kC, c3, hcomp', hkC, hkindC⟩ := Cond.arrayClass_spec harr
  have ecomp : comp' = comp := Option.some.inj (hcomp'.symm.trans hcomp)
  subst ecomp
  have ecy : cy = comp' := Option.some.inj (hcy.symm.trans hcomp)
  subst ecy
  obtain ⟨c0, hfc0, hcl⟩ := Cond.classLink_spec hown hclink e.platform hpl
  cases hnameA.symm.trans hfc0
  obtain ⟨hg₁, hwarm₁, hready₁⟩ := State.classEntry (e := e) Xs.warmed hcl
  generalize T.vm.noted m.cls index (.cls cA) = vm₁ at hg₁ hwarm₁ hready₁
  have hal : s.vm.Alike vm₁ := hwarm₁.alike
  obtain ⟨kA₁, hkA₁, heA⟩ := hal.2.2 _ _ hkA
  obtain ⟨kC₁, hkC₁, heC⟩ := hal.2.2 _ _ hkC
  have hkindA₁ : kA₁.kind = .array cy (.array .int) := by rw [heA]; exact hkindA
  have hkindC₁ : kC₁.kind = .array c3 .int := by rw [heC]; exact hkindC
  have X₁ := Xs.noted hwarm₁
  obtain ⟨hr1, hr2⟩ := Xs.roomAbove hcells hslots
  have XF := mu_stand X₁ cA cy n.toNatClampNeg k.toNatClampNeg n.toNatClampNeg
  have hTh : (T.setVm vm₁).heap = H := hT
  obtain ⟨f1, f2, -, -, f5, f6⟩ := mu_facts (T.setVm vm₁) cA cy n.toNatClampNeg k.toNatClampNeg n.toNatClampNeg
  rw [hTh] at f1 f2 f5 f6 XF
  obtain ⟨t, a1, b1⟩ := kk cA _ hnameA (by rw [f1]) f2 f6 f5 _ rfl XF
  refine ⟨t, ?_, b1⟩
  have hl1 : ¬ n.toNatClampNeg > e.platform.arrayLengthLimit := by rw [Launch.admits_arrayLengthLimit Xs.admits]; omega
  have hh1 : ¬ n.toNatClampNeg * componentBytes (.array .int) > e.platform.maxHeapBytes := by
    rw [Launch.admits_maxHeapBytes Xs.admits]; show ¬ n.toNatClampNeg * 4 > 536870912; omega
  have hl2 : ¬ k.toNatClampNeg > e.platform.arrayLengthLimit := by rw [Launch.admits_arrayLengthLimit Xs.admits]; omega
  have hh2 : ¬ k.toNatClampNeg * componentBytes .int > e.platform.maxHeapBytes := by
    rw [Launch.admits_maxHeapBytes Xs.admits]; show ¬ k.toNatClampNeg * 4 > 536870912; omega
  jvm_step Xs.here [hexec, hb, hdg]
  simp only [multianewarray.sem, wp_bind', W.resolveClassAt_links (State.method?_setTop (F0 m pc lsR (.int k :: .int n :: rest)) Xs.here.top) hg₁]
  rw [W.popN, if_neg (by decide)]
  refine ⟨F0 m pc lsR (.int k :: .int n :: rest), State.topJava?_setTop' (s := T.setVm vm₁) _ Xs.here.top, [.int n, .int k], rest, rfl, rfl, ?_⟩
  simp only [List.mapM_cons, List.mapM_nil, wp_bind', wp_pure']
  refine mu_make (k := kA₁) (kc := kC₁) (comp := cy) (cc := c3) hkA₁ hkindA₁ hkC₁ hkindC₁ hn hk hl1 hh1 hl2 hh2 (by show T.heap.size + 1 + _ ≤ _; omega) (by show T.slotsUsed + _ + _ ≤ _; omega) (fun d' acts' => ?_)
  have eS : ((T.setTop (F0 m pc lsR (.int k :: .int n :: rest))).setVm vm₁).setTop (F0 m pc lsR rest) = (T.setVm vm₁).setTop (F0 m pc lsR rest) := by
    show ((T.setVm vm₁).setTop _).setTop _ = _
    rw [State.setTop_setTop]
  rw [eS, mu_top]
  simp only [wp_bind', W.mark, W.pushRef, State.topJava?_setTop' _ XF.here.top, Option.some.injEq, exists_eq_left', State.setTop_setTop, State.heap_setTop]
  intro acts
  simp [jvm, XF.here.top]
  have e9 : T.heap.size = H.size := by rw [hT]
  rw [e9]
  exact a1
set_option maxHeartbeats 8000000 in
theorem am_write_W (hx : p.tables.exec = Jvm.exec) (hb : c.code = cc) (hd : decode cc pc = .ok (i, len)) {μ : am_MM} (hown : s.vm.findClass (am_cn μ.1) = some m.cls) (hts : ∀ w ∈ am_WS, w.before args s = true) (hnm : μ.2.1.name = "<init>" → meth.name = "<init>") (hK : va_K D vwCl (am_tl ct) s) {M M' : am_M} (hn : M.1 ≤ 1003) (hP : va_P D vwCl (am_Wd ct (am_ad base ro) M) H) (hS : va_S (fun q => base ≤ q) s.heap H locs) (hO : am_RO X base ro s)
    (hsz : s.heap.size + cells = base + M.1) (hbz : base ≤ s.heap.size) {st st' : List Value} (h : am_write μ i len st M = some (st', M')) (hn' : M'.1 ≤ 1003) (hR : cells + (M'.1 - M.1) ≤ R.cells) (hR2 : slots + (am_sl M'.1 - am_sl M.1) ≤ R.slots)
    (kk : ∀ (H1 : Heap) (locs1 : List Loc), va_P D vwCl (am_Wd ct (am_ad base ro) M') H1 → va_S (fun q => base ≤ q) s.heap H1 locs1 → W p l e R s m args below meth c H1 locs1 (cells + (M'.1 - M.1)) (slots + (am_sl M'.1 - am_sl M.1)) Q (F0 m (pc + len) lsR (st'.map (am_rv (am_ad base ro))))) : W p l e R s m args below meth c H locs cells slots Q (F0 m pc lsR (st.map (am_rv (am_ad base ro)))) := by
  have hA : ∀ q, s.heap.size ≤ q → (fun q => base ≤ q) q := fun q hq => Nat.le_trans hbz hq
  unfold am_write at h
  split at h <;> try (first | (cases h; done) | skip)
  · next ix v k st =>
    split at h
    · next ci j hf =>
      split at h
      · next hc =>
        obtain ⟨hc1, hc2, hc3⟩ := hc
        split at h
        · next x hfk =>
          split at h
          · next hnf =>
            cases h
            have kk := fun H1 locs1 g1 g3 => kk H1 locs1 g1 g3
            simp only [am_setI, Nat.sub_self, Nat.add_zero] at kk
            exact am_put_W hx hb hd hown hts hnm hK hn hP hS hf hc1 hc2 hc3 hnf.1 hnf.2 (M' := am_setI M k j x) rfl am_setI_ne (fun a ha => by simp [am_get, am_setI, am_u, ha]) (by simp [am_get, hfk, am_setI, am_u]) kk
          · cases h
        · next x hfk =>
          cases h
          have kk := fun H1 locs1 g1 g3 => kk H1 locs1 g1 g3
          simp only [am_setL, Nat.sub_self, Nat.add_zero] at kk
          exact am_put_W hx hb hd hown hts hnm hK hn hP hS hf hc1 hc2 hc3 (am_narrow_long hfk x).1 (am_narrow_long hfk x).2 (M' := am_setL M k j x) rfl am_setL_ne (fun a ha => by simp [am_get, am_setL, am_u, ha]) (by simp [am_get, hfk, am_setL, am_u]) kk
        · next a hfk =>
          cases h
          have kk := fun H1 locs1 g1 g3 => kk H1 locs1 g1 g3
          simp only [am_setR, Nat.sub_self, Nat.add_zero] at kk
          exact am_put_W hx hb hd hown hts hnm hK hn hP hS hf hc1 hc2 hc3 (am_narrow_ref hfk _ (Or.inl ⟨_, rfl⟩)).1 (am_narrow_ref hfk _ (Or.inl ⟨_, rfl⟩)).2 (M' := am_setR M k j (some a)) rfl am_setR_ne (fun a ha => by simp [am_get, am_setR, am_u, ha]) (by simp [am_get, hfk, am_setR, am_u, va_rf]) kk
        · next hfk =>
          cases h
          have kk := fun H1 locs1 g1 g3 => kk H1 locs1 g1 g3
          simp only [am_setR, Nat.sub_self, Nat.add_zero] at kk
          exact am_put_W hx hb hd hown hts hnm hK hn hP hS hf hc1 hc2 hc3 (am_narrow_ref hfk _ (Or.inr rfl)).1 (am_narrow_ref hfk _ (Or.inr rfl)).2 (M' := am_setR M k j none) rfl am_setR_ne (fun a ha => by simp [am_get, am_setR, am_u, ha]) (by simp [am_get, hfk, am_setR, am_u, va_rf]) kk
        · cases h
      · cases h
    · cases h
  · next x i k st =>
    split at h
    · next hc =>
      cases h
      obtain ⟨h1, h2⟩ := am_is_iff hc.1
      have he := am_Wd_at (ct := ct) (ad := am_ad base ro) h1
      rw [am_cell_i h2 (Or.inl rfl)] at he
      refine va_iast hx hb hK hP (am_Wd_D hn) hS k 0 he rfl (am_in_iff hc.2) hd (fun H1 locs1 g1 _ g3 => ?_)
      rw [am_Wd_set (ct := ct) (ad := am_ad base ro) (M := M) (k := k) (M' := am_setI M k i.toNatClampNeg x) rfl (by rw [am_cell_i h2 (Or.inl rfl)]; exact congrArg (fun z => Sum.inl (ct 20, (am_SH k).2, Sum.inl z)) am_upd_u) am_setI_ne] at g1
      have k1 := kk H1 locs1 g1 g3
      simp only [am_setI, Nat.sub_self, Nat.add_zero] at k1
      exact k1
    · cases h
  · next x i k st =>
    split at h
    · next hc =>
      cases h
      obtain ⟨h1, h2⟩ := am_is_iff hc.1
      have he := am_Wd_at (ct := ct) (ad := am_ad base ro) h1
      rw [am_cell_i h2 (Or.inr (Or.inl rfl))] at he
      refine va_bast hx hb hK hP (am_Wd_D hn) hS k 1 he rfl (am_in_iff hc.2) hd (fun H1 locs1 g1 _ g3 => ?_)
      rw [am_Wd_set (ct := ct) (ad := am_ad base ro) (M := M) (k := k) (M' := am_setI M k i.toNatClampNeg (vp_nar .byte x)) rfl (by rw [am_cell_i h2 (Or.inr (Or.inl rfl))]; exact congrArg (fun z => Sum.inl (ct 21, (am_SH k).2, Sum.inl z)) am_upd_u) am_setI_ne] at g1
      have k1 := kk H1 locs1 g1 g3
      simp only [am_setI, Nat.sub_self, Nat.add_zero] at k1
      exact k1
    · split at h
      · next hc =>
        cases h
        obtain ⟨h1, h2⟩ := am_is_iff hc.1
        have he := am_Wd_at (ct := ct) (ad := am_ad base ro) h1
        rw [am_cell_i h2 (Or.inr (Or.inr rfl))] at he
        refine va_zast hx hb hK hP (am_Wd_D hn) hS k 2 he rfl (am_in_iff hc.2) hd (fun H1 locs1 g1 _ g3 => ?_)
        rw [am_Wd_set (ct := ct) (ad := am_ad base ro) (M := M) (k := k) (M' := am_setI M k i.toNatClampNeg (vp_nar .boolean x)) rfl (by rw [am_cell_i h2 (Or.inr (Or.inr rfl))]; exact congrArg (fun z => Sum.inl (ct 22, (am_SH k).2, Sum.inl z)) am_upd_u) am_setI_ne] at g1
        have k1 := kk H1 locs1 g1 g3
        simp only [am_setI, Nat.sub_self, Nat.add_zero] at k1
        exact k1
      · cases h
  · next x i k st =>
    split at h
    · next hc =>
      cases h
      obtain ⟨h1, h2⟩ := am_is_iff hc.1
      have he := am_Wd_at (ct := ct) (ad := am_ad base ro) h1
      rw [am_cell_l h2] at he
      refine va_last hx hb hK hP (am_Wd_D hn) hS k 3 he rfl (am_in_iff hc.2) hd (fun H1 locs1 g1 _ g3 => ?_)
      rw [am_Wd_set (ct := ct) (ad := am_ad base ro) (M := M) (k := k) (M' := am_setL M k i.toNatClampNeg x) rfl (by rw [am_cell_l h2]; exact congrArg (fun z => Sum.inl (ct 23, (am_SH k).2, Sum.inr (Sum.inl z))) am_upd_uL) am_setL_ne] at g1
      have k1 := kk H1 locs1 g1 g3
      simp only [am_setL, Nat.sub_self, Nat.add_zero] at k1
      exact k1
    · cases h
  · next a i k st =>
    split at h
    · next hc =>
      cases h
      obtain ⟨h1, h2⟩ := am_is_iff hc.1
      obtain ⟨h3, h4⟩ := am_is_iff hc.2.1
      have he := am_Wd_at (ct := ct) (ad := am_ad base ro) h1
      rw [am_cell_r h2 (Or.inl rfl)] at he
      have hea := am_Wd_at (ct := ct) (ad := am_ad base ro) h3
      rw [am_cell_o h4 (by omega)] at hea
      refine va_astq (r := am_cls 3) hx hb hK hP (am_Wd_D hn) hS k 4 a 3 he rfl hea rfl (am_in_iff hc.2.2) hd (fun H1 locs1 g1 _ g3 => ?_)
      rw [am_Wd_set (ct := ct) (ad := am_ad base ro) (M := M) (k := k) (M' := am_setR M k i.toNatClampNeg (some a)) rfl (by
        rw [am_cell_r h2 (Or.inl rfl)]
        refine congrArg (fun z => Sum.inl (ct 24, (am_SH k).2, Sum.inr (Sum.inr (Sum.inr (Sum.inr z))))) ?_
        funext b
        by_cases hbb : b = i.toNatClampNeg
        · simp [am_setR, am_u, va_up, hbb]
        · simp [am_setR, am_u, va_up, hbb]) am_setR_ne] at g1
      have k1 := kk H1 locs1 g1 g3
      simp only [am_setR, Nat.sub_self, Nat.add_zero] at k1
      exact k1
    · cases h
  · next ix st =>
    split at h
    · next ci hcl =>
      split at h
      · next hc =>
        cases h
        have hw := am_cl_some hcl
        have hci : ci < 13 := by
          by_cases hh : ci < 13
          · exact hh
          · exfalso
            exact absurd hcl (am_cl_lt hh)
        have hcc := am_cls_at hci
        have hN : (am_SH M.1).2 = (am_cls ci).2.2 := by rw [am_shN' (by rw [hc]; exact hci), hc]
        have how : am_own ci = (am_cls ci).1 := by simp only [am_own, hcc]
        rw [how] at hw
        have e1 : (am_make M).1 - M.1 = 1 := by show M.1 + 1 - M.1 = 1; omega
        have e2 : am_sl (am_make M).1 - am_sl M.1 = (am_cls ci).2.2 := by show am_sl M.1 + (am_SH M.1).2 - am_sl M.1 = _; rw [hN]; omega
        rw [e1] at hR
        rw [e2] at hR2
        refine va_new (ci := ci) (fs := (List.range (am_SH M.1).2).map (fun j => am_rv (am_ad base ro) (am_get (am_make M) ci M.1 j))) (C := (am_cls ci).1) (T := (am_cls ci).2.1) (N := (am_cls ci).2.2) hx hb hts (am_kin hci).1 (am_ty ci) (am_kin hci).2.1 hown (hts _ hw) (hts _ (am_kin hci).2.2.2.1) (hts _ (am_kin hci).2.2.2.2) hK hP (am_Wd_D hn) hS hA hcc (fun j hj => ?_) hR hR2 hd (fun q H1 g1 g2 g3 => ?_)
        · rw [vp_V, List.getD_eq_getElem?_getD, List.getElem?_map, List.getElem?_range (by rw [hN]; exact hj)]
          exact am_default hci hj _ (by simp [am_make, am_w]) (by simp [am_make, am_w]) (by simp [am_make, am_w])
        · refine am_size (fun hz => ?_)
          have hq := am_new_at hn g1 g2 (by omega)
          subst hq
          rw [am_make_Wd (by rw [am_cell_o hc hci])] at g1
          have k1 := kk H1 locs g1 g3
          rw [e1, e2] at k1
          exact k1
      · cases h
    · cases h
  · next ty n st =>
    split at h
    · next hc =>
      cases h
      obtain ⟨hc1, hc2, hc3, hc4⟩ := hc
      have e1 : (am_make M).1 - M.1 = 1 := by show M.1 + 1 - M.1 = 1; omega
      have e2 : am_sl (am_make M).1 - am_sl M.1 = (am_SH M.1).2 := by show am_sl M.1 + (am_SH M.1).2 - am_sl M.1 = _; omega
      rw [e1] at hR
      rw [e2] at hR2
      have fin : ∀ (t t0 : Nat) (ft : FieldType) (a0 : vp_A), newarray.typeOf ty = ft → (am_tl ct)[t0]? = some (ct t, ft) → (∀ C, ft ≠ .object C) → (Cond.arrayClass ft) ∈ am_WS → componentBytes ft ≤ 8 → (∀ cA : ClassId, vp_cell cA a0 = arrV cA (am_SH M.1).2 (fun _ => defaultValue ft)) → am_cell ct (am_ad base ro) (am_make M) M.1 = .inl (ct t, a0) → W p l e R s m args below meth c H locs cells slots Q (F0 m pc lsR ((Value.int n :: st).map (am_rv (am_ad base ro)))) := by
        intro t t0 ft a0 hft htl hob hac hby ha0 hcell
        refine va_newa (a0 := a0) hx hb (by rw [hft]; exact hts _ hac) hft hK hP (am_Wd_D hn) hS hA ha0 hc1 hc2 (by have : (am_SH M.1).2 * componentBytes ft ≤ 100000 * 8 := Nat.mul_le_mul hc3 hby; omega) hR hR2 hd (fun q cA H1 gk g1 g2 g3 => ?_)
        have hca : cA = ct t := by
          have r1 := (gk.2 6 (cA, ft) (by simp [am_tl])).2
          have r2 := (hK.2 t0 _ htl).2
          cases ft <;> first | exact absurd rfl (hob _) | exact Option.some.inj (r1.symm.trans r2)
        subst hca
        refine am_size (fun hz => ?_)
        have hq := am_new_at hn g1 g2 (by omega)
        subst hq
        rw [am_make_Wd hcell] at g1
        have k1 := kk H1 locs g1 g3
        rw [e1, e2] at k1
        exact k1
      rcases hc4 with ⟨h1, h2⟩ | ⟨h1, h2⟩ | ⟨h1, h2⟩ | ⟨h1, h2⟩
      · exact fin 20 0 .int ((am_SH M.1).2, .inl (fun _ => 0)) h1 rfl (fun C z => by cases z) (am_Ow _ (by simp)) (by decide) (fun cA => rfl) (by rw [am_cell_i h2 (Or.inl rfl)]; exact congrArg (fun z => Sum.inl (ct 20, (am_SH M.1).2, Sum.inl z)) am_w_eq)
      · exact fin 21 1 .byte ((am_SH M.1).2, .inl (fun _ => 0)) h1 rfl (fun C z => by cases z) (am_Ow _ (by simp)) (by decide) (fun cA => rfl) (by rw [am_cell_i h2 (Or.inr (Or.inl rfl))]; exact congrArg (fun z => Sum.inl (ct 21, (am_SH M.1).2, Sum.inl z)) am_w_eq)
      · exact fin 22 2 .boolean ((am_SH M.1).2, .inl (fun _ => 0)) h1 rfl (fun C z => by cases z) (am_Ow _ (by simp)) (by decide) (fun cA => rfl) (by rw [am_cell_i h2 (Or.inr (Or.inr rfl))]; exact congrArg (fun z => Sum.inl (ct 22, (am_SH M.1).2, Sum.inl z)) am_w_eq)
      · exact fin 23 3 .long ((am_SH M.1).2, .inr (.inl (fun _ => 0))) h1 rfl (fun C z => by cases z) (am_Ow _ (by simp)) (by decide) (fun cA => rfl) (by rw [am_cell_l h2]; exact congrArg (fun z => Sum.inl (ct 23, (am_SH M.1).2, Sum.inr (Sum.inl z))) am_w_eq)
    · cases h
  · next ix n st =>
    split at h
    · next hc =>
      cases h
      obtain ⟨hm, hix, hc1, hc2, hc3, hc4⟩ := hc
      subst hix
      rw [hm] at hown
      have e1 : (am_make M).1 - M.1 = 1 := by show M.1 + 1 - M.1 = 1; omega
      have e2 : am_sl (am_make M).1 - am_sl M.1 = (am_SH M.1).2 := by show am_sl M.1 + (am_SH M.1).2 - am_sl M.1 = _; omega
      rw [e1] at hR
      rw [e2] at hR2
      refine va_newq (C := RX3) hx hb hown (hts _ (am_Ow _ (by simp [am_cn]))) hO.2.2.2.2.2.2.2.2.2.2.1 hK hP (am_Wd_D hn) hS hA hc1 hc2 (by omega) hR hR2 hd (fun q cA H1 gk g1 g2 g3 => ?_)
      have hca : cA = ct 24 := by
        obtain ⟨_, _, _, _, _, r1⟩ := (gk.2 6 (cA, .object RX3) (by simp [am_tl])).2
        obtain ⟨_, _, _, _, _, r2⟩ := (hK.2 4 _ rfl).2
        exact Option.some.inj (r1.symm.trans r2)
      subst hca
      refine am_size (fun hz => ?_)
      have hq := am_new_at hn g1 g2 (by omega)
      subst hq
      rw [am_make_Wd (by rw [am_cell_r hc4 (Or.inl rfl)]; exact congrArg (fun z => Sum.inl (ct 24, (am_SH M.1).2, Sum.inr (Sum.inr (Sum.inr (Sum.inr z))))) (by funext b; simp [am_make, am_w]))] at g1
      have k1 := kk H1 locs g1 g3
      rw [e1, e2] at k1
      exact k1
    · cases h
  · next ix dm k n st =>
    split at h
    · next hc =>
      cases h
      obtain ⟨rfl, hm, hc1, hc2, hc3, hc4, hc5, hc6, hc7⟩ := hc
      have hall : ∀ j, j < (am_SH M.1).2 → am_SH (M.1 + 1 + j) = (20, k.toNatClampNeg) := fun j hj => by
        have := List.all_eq_true.mp hc7 j (List.mem_range.mpr hj)
        simpa using this
      have e1 : (am_many M (am_SH M.1).2).1 - M.1 = 1 + (am_SH M.1).2 := by show M.1 + 1 + (am_SH M.1).2 - M.1 = _; omega
      have esl : ∀ N, N ≤ (am_SH M.1).2 → am_sl (M.1 + 1 + N) = am_sl M.1 + (am_SH M.1).2 + N * k.toNatClampNeg := by
        intro N
        induction N with
        | zero => intro _; show am_sl M.1 + (am_SH M.1).2 = _; omega
        | succ N ih =>
          intro hN
          show am_sl (M.1 + 1 + N) + (am_SH (M.1 + 1 + N)).2 = _
          rw [ih (by omega), hall N (by omega), Nat.succ_mul]
          omega
      have e2 : am_sl (am_many M (am_SH M.1).2).1 - am_sl M.1 = (am_SH M.1).2 + (am_SH M.1).2 * k.toNatClampNeg := by
        show am_sl (M.1 + 1 + (am_SH M.1).2) - am_sl M.1 = _
        rw [esl _ (Nat.le_refl _)]; omega
      rw [e1] at hR
      rw [e2] at hR2
      have h1000 : M.1 + 1 + (am_SH M.1).2 ≤ 1003 := hn'
      refine am_size (fun hz => ?_)
      have hHs := am_Hsize hn hsz hbz hP hS hz
      have hclk : ∃ w : String, am_cn μ.1 = w ∧ (Cond.classLink w ix ("[" ++ (FieldType.array .int).toString)).before args s = true := by
        rcases hm with ⟨h1, rfl⟩ | ⟨h1, rfl⟩
        · exact ⟨RX4, by rw [h1]; rfl, hts _ (am_Ow _ (by simp; decide))⟩
        · exact ⟨RX2, by rw [h1]; rfl, hts _ (am_Ow _ (by simp; decide))⟩
      obtain ⟨w, hw1, hw2⟩ := hclk
      rw [hw1] at hown
      refine am_mna (cy := ct 20) hx hb hown hw2 hO.2.2.2.2.2.2.2.2.2.2.2.1 (hts _ (am_Ow _ (by simp))) (hK.2 0 _ rfl).2 hc1 hc2 (by omega) hc6 (by rw [hc4]; exact hR) (by rw [hc4]; exact hR2) hd (fun cA H1 fA z1 g1 g2 g3 => ?_)
      have hca : cA = ct 25 := Option.some.inj (fA.symm.trans (hK.2 5 _ rfl).2)
      subst hca
      rw [hc4] at z1 g1 g2
      have had : ∀ a, a ≤ 1003 → am_ad base ro a = base + a := fun a ha => by unfold am_ad; rw [if_pos (by omega)]
      have g4 : va_P D vwCl (am_Wd ct (am_ad base ro) (am_many M (am_SH M.1).2)) H1 := by
        intro a q hq
        obtain ⟨ha, rfl⟩ := am_Wd_inv hq
        have ha : a < M.1 + 1 + (am_SH M.1).2 := ha
        by_cases h1 : a < M.1
        · rw [am_cell_congr (M := M) (by funext b; simp [am_many]; omega) (by funext b; simp [am_many]; omega) (by funext b; simp [am_many, show ¬ a = M.1 by omega]; omega)]
          have ho := hP a _ (am_Wd_at h1)
          refine va_at.kept ho ?_
          show H1[am_ad base ro a]? = H[am_ad base ro a]?
          exact g3 _ (by rw [had a (by omega)]; omega)
        · by_cases h2 : a = M.1
          · subst h2
            rw [am_cell_r hc3 (Or.inr rfl)]
            show H1[am_ad base ro M.1]? = some (vp_cell _ _)
            rw [had _ (by omega), ← hHs, g1]
            congr 3
            refine congrArg (fun z => Sum.inr (Sum.inr (Sum.inr (Sum.inr z)))) (funext fun b => ?_)
            by_cases hbb : b < (am_SH M.1).2
            · simp [am_many, hbb, had (M.1 + 1 + b) (by omega)]; omega
            · simp [am_many, hbb]
          · have h3 := hall (a - M.1 - 1) (by omega)
            rw [show M.1 + 1 + (a - M.1 - 1) = a by omega] at h3
            rw [am_cell_i (by rw [h3]) (Or.inl rfl)]
            show H1[am_ad base ro a]? = some (vp_cell _ _)
            have h4 := g2 (a - M.1 - 1) (by omega)
            rw [show H.size + 1 + (a - M.1 - 1) = base + a by omega] at h4
            rw [had a (by omega), h4, h3]
            congr 3
            refine congrArg Sum.inl (funext fun b => ?_)
            simp [am_many, show M.1 ≤ a by omega, show a < M.1 + 1 + (am_SH M.1).2 by omega]
      have k1 := kk H1 (locs ++ (List.range (am_SH M.1).2).map fun j => ⟨H.size, j⟩) g4 ⟨by have := hS.1; omega, fun x y1 y2 => (g3 x (Nat.lt_of_lt_of_le y1 hS.1)).trans (hS.2.1 x y1 y2), am_mna_locs hS.2.2 (by omega)⟩
      rw [e1, e2] at k1
      rw [hc4]
      have hst : (Value.ref M.1 :: st).map (am_rv (am_ad base ro)) = .ref H.size :: st.map (am_rv (am_ad base ro)) := by
        show Value.ref (am_ad base ro M.1) :: _ = _
        rw [had _ (by omega), hHs]
      rw [hst, ← Nat.add_assoc, ← Nat.add_assoc] at k1
      exact k1
    · cases h
end AM4
