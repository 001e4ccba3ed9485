/-! THE ABSTRACT MACHINE IS THE MACHINE, two: cells -/
def am_ad (base : Nat) (ro : Nat → Nat) (k : Nat) : Nat := if k < 1000000 then base + k else ro k
def am_cell (ct : Nat → ClassId) (ad : Nat → Nat) (M : am_M) (k : Nat) : va_E :=
  if (am_SH k).1 < 20 then .inr ((am_SH k).1, (List.range (am_SH k).2).map (fun j => am_rv ad (am_get M (am_SH k).1 k j)))
  else if (am_SH k).1 < 23 then .inl (ct (am_SH k).1, (am_SH k).2, .inl (M.2.1 k))
  else if (am_SH k).1 = 23 then .inl (ct 23, (am_SH k).2, .inr (.inl (M.2.2.1 k)))
  else .inl (ct (am_SH k).1, (am_SH k).2, .inr (.inr (.inr (.inr (fun j => (M.2.2.2 k j).map ad)))))
def am_Wd (ct : Nat → ClassId) (ad : Nat → Nat) (M : am_M) : va_W := (List.range M.1).map (fun k => (ad k, am_cell ct ad M k))
def am_tl (ct : Nat → ClassId) : List (ClassId × FieldType) := [(ct 20, .int), (ct 21, .byte), (ct 22, .boolean), (ct 23, .long), (ct 24, .object RX3), (ct 25, .array .int)]
theorem am_Wd_at {ct : Nat → ClassId} {ad : Nat → Nat} {M : am_M} {k : Nat} (h : k < M.1) : (am_Wd ct ad M)[k]? = some (ad k, am_cell ct ad M k) := by
  unfold am_Wd
  rw [List.getElem?_map, List.getElem?_range h]
  rfl
theorem am_Wd_inv {ct : Nat → ClassId} {ad : Nat → Nat} {M : am_M} {k : Nat} {q : Nat × va_E} (h : (am_Wd ct ad M)[k]? = some q) : k < M.1 ∧ q = (ad k, am_cell ct ad M k) := by
  have hl : k < M.1 := by
    have := (List.getElem?_eq_some_iff.mp h).1
    simpa [am_Wd] using this
  rw [am_Wd_at hl] at h
  exact ⟨hl, (Option.some.inj h).symm⟩
theorem am_Wd_set {ct : Nat → ClassId} {ad : Nat → Nat} {M M' : am_M} {k : Nat} {x : va_E} (hn : M'.1 = M.1) (hx : am_cell ct ad M' k = x) (ho : ∀ j, j ≠ k → am_cell ct ad M' j = am_cell ct ad M j) : (am_Wd ct ad M).set k (ad k, x) = am_Wd ct ad M' := by
  apply List.ext_getElem?
  intro j
  rw [List.getElem?_set]
  by_cases hj : k = j
  · subst hj
    rw [if_pos rfl]
    by_cases hl : k < M.1
    · rw [if_pos (by simpa [am_Wd] using hl), am_Wd_at (by rw [hn]; exact hl), hx]
    · rw [if_neg (by simpa [am_Wd] using hl)]
      symm
      apply List.getElem?_eq_none
      simp [am_Wd, hn]; omega
  · rw [if_neg hj]
    by_cases hl : j < M.1
    · rw [am_Wd_at hl, am_Wd_at (by rw [hn]; exact hl), ho j (fun z => hj z.symm)]
    · rw [List.getElem?_eq_none (by simp [am_Wd]; omega), List.getElem?_eq_none (by simp [am_Wd, hn]; omega)]
theorem am_Wd_D {base : Nat} {ro : Nat → Nat} {ct : Nat → ClassId} {M : am_M} (hn : M.1 ≤ 1003) : va_D (fun q => base ≤ q) (am_Wd ct (am_ad base ro) M) := by
  have ha : ∀ k, k < M.1 → am_ad base ro k = base + k := fun k hk => by unfold am_ad; rw [if_pos (by omega)]
  refine ⟨fun i j x y hi hj hxy => ?_, fun k q hq => ?_⟩
  · obtain ⟨h1, rfl⟩ := am_Wd_inv hi
    obtain ⟨h2, rfl⟩ := am_Wd_inv hj
    have h3 : am_ad base ro i = am_ad base ro j := hxy
    rw [ha i h1, ha j h2] at h3
    omega
  · obtain ⟨h1, rfl⟩ := am_Wd_inv hq
    show base ≤ am_ad base ro k
    rw [ha k h1]
    omega
theorem am_is_iff {M : am_M} {k t : Nat} (h : am_is M k t = true) : k < M.1 ∧ (am_SH k).1 = t := by
  simp only [am_is, Bool.and_eq_true, beq_iff_eq, Nat.blt_eq] at h
  exact h
theorem am_in_iff {i : Int32} {n : Nat} (h : am_in i n = true) : vp_in i n := by
  simp only [am_in, Bool.not_eq_true', Bool.or_eq_false_iff, decide_eq_false_iff_not] at h
  exact fun q => q.elim h.1 h.2
theorem am_cell_o {ct : Nat → ClassId} {ad : Nat → Nat} {M : am_M} {k ci : Nat} (h : (am_SH k).1 = ci) (hc : ci < 13) : am_cell ct ad M k = .inr (ci, (List.range (am_SH k).2).map (fun j => am_rv ad (am_get M ci k j))) := by
  unfold am_cell
  rw [h, if_pos (by omega)]
theorem am_cell_i {ct : Nat → ClassId} {ad : Nat → Nat} {M : am_M} {k t : Nat} (h : (am_SH k).1 = t) (ht : t = 20 ∨ t = 21 ∨ t = 22) : am_cell ct ad M k = .inl (ct t, (am_SH k).2, .inl (M.2.1 k)) := by
  unfold am_cell
  rw [h, if_neg (by omega), if_pos (by omega)]
theorem am_cell_l {ct : Nat → ClassId} {ad : Nat → Nat} {M : am_M} {k : Nat} (h : (am_SH k).1 = 23) : am_cell ct ad M k = .inl (ct 23, (am_SH k).2, .inr (.inl (M.2.2.1 k))) := by
  unfold am_cell
  rw [h, if_neg (by omega), if_neg (by omega), if_pos rfl]
theorem am_cell_r {ct : Nat → ClassId} {ad : Nat → Nat} {M : am_M} {k t : Nat} (h : (am_SH k).1 = t) (ht : t = 24 ∨ t = 25) : am_cell ct ad M k = .inl (ct t, (am_SH k).2, .inr (.inr (.inr (.inr (fun j => (M.2.2.2 k j).map ad))))) := by
  unfold am_cell
  rw [h, if_neg (by omega), if_neg (by omega), if_neg (by omega)]
theorem am_rv_rf (ad : Nat → Nat) (o : Option Nat) : am_rv ad (va_rf o) = va_rf (o.map ad) := by cases o <;> rfl
/-- what is there beside our cells: the two String constants, COMPACT_STRINGS, the script, nest mates' links, array classes -/
def am_RO (X : am_X) (base : Nat) (ro : Nat → Nat) (s : State) : Prop :=
  vk_S 2 am_len am_byt (fun i => ro (1000000 + 2 * i)) (fun i => ro (1000001 + 2 * i)) (fun q => base ≤ q) s s.heap ∧
  vk_R RX11 49 "puppet string child order verdict votes storm seed if then else apart tangles pulls nods side hand seat which at " (ro 1000000) s ∧
  vk_R RX11 82 ";=+-*/<()" (ro 1000002) s ∧
  va_Z "java/lang/String" "COMPACT_STRINGS" "Z" (.int 1) (fun q => base ≤ q) s s.heap ∧
  va_T .int (ro 2000000) X.1 (fun j => .int (X.2 j)) (fun q => base ≤ q) s s.heap ∧
  va_Nw (.methodLinkNest RX10 51 yX1_init RX12) s ∧ va_Nw (.methodLinkNest RX12 29 yX9_init RX12) s ∧ va_Nw (.methodLinkNest RX12 45 yX3_init RX12) s ∧ va_Nw (.methodLinkNest RX12 52 yX6_init RX12) s ∧ va_Nw (.methodLinkNest RX6 30 yX3_init RX12) s ∧
  va_AO RX3 s ∧ (Cond.arrayOver (.array .int)).before #[] s = true ∧
  va_Z "jdk/internal/util/Preconditions" "SIOOBE_FORMATTER" "Ljava/util/function/BiFunction;" (if X.2 5000 = 0 then .null else .ref (ro 3000000)) (fun q => base ≤ q) s s.heap
theorem am_sioo : (Cond.fieldLink "java/lang/String" 1053 "jdk/internal/util/Preconditions" "SIOOBE_FORMATTER" "Ljava/util/function/BiFunction;") ∈ am_WS := by decide +kernel
theorem am_str_some {k n : Nat} (h : am_str k = some n) : n < 2 ∧ k = 1000000 + 2 * n := by
  unfold am_str at h
  split at h
  · cases h; omega
  · split at h
    · cases h; omega
    · cases h
theorem am_val_some {k n : Nat} (h : am_val k = some n) : n < 2 ∧ k = 1000001 + 2 * n := by
  unfold am_val at h
  split at h
  · cases h; omega
  · split at h
    · cases h; omega
    · cases h
section AM2
variable {p : Program} {l : Launch} {e : Env} {R : Room} {s : State} {m : MethodId} {args : Array Value} {below : List Frame} {meth : Method} {c : Code} {H : Heap} {locs : List Loc} {cells slots : Nat} {Q : State → Prop}
variable {cc : ByteArray} {pc len : Nat} {lsR : Array Slot} {i : Instr} {base : Nat} {ro : Nat → Nat} {ct : Nat → ClassId} {D : va_G} {X : am_X}
set_option maxHeartbeats 8000000 in
theorem am_read_W (hx : p.tables.exec = Jvm.exec) (hb : c.code = cc) (hd : decode cc pc = .ok (i, len)) {cx : Nat} (hown : s.vm.findClass (am_cn cx) = some m.cls) (hts : ∀ w ∈ am_WS, w.before args s = true) (hK : va_K D vwCl (am_tl ct) s) {M : am_M} (hP : va_P D vwCl (am_Wd ct (am_ad base ro) M) H) (hS : va_S (fun q => base ≤ q) s.heap H locs) (hO : am_RO X base ro s) {st st' : List Value} (h : am_read X cx i len st M = some st')
    (kk : W p l e R s m args below meth c H locs cells slots Q (F0 m (pc + len) lsR (st'.map (am_rv (am_ad base ro))))) : W p l e R s m args below meth c H locs cells slots Q (F0 m pc lsR (st.map (am_rv (am_ad base ro)))) := by
  obtain ⟨oS, oR0, oR1, oZ, oT, -, -, -, -, -, -, -, oF⟩ := hO
  unfold am_read at h
  split at h <;> try (first | (cases h; done) | skip)
  · next ix k st =>
    split at h
    · next hcx =>
      subst hcx
      split at h
      · next n hn =>
        obtain ⟨hn2, hkn⟩ := am_str_some hn
        have ea : am_ad base ro k = ro (1000000 + 2 * n) := by unfold am_ad; rw [if_neg (by omega), hkn]
        have e1 : @Eq Nat (k + 1) (1000001 + 2 * n) := by
          have h9 : @Eq Nat k (1000000 + 2 * n) := hkn
          omega
        have ea1 : am_ad base ro (k + 1) = ro (1000001 + 2 * n) := by unfold am_ad; rw [if_neg (by omega), e1]
        split at h
        · next hc =>
          cases h
          subst hc
          show W p l e R s m args below meth c H locs cells slots Q (F0 m pc lsR (.ref (am_ad base ro k) :: st.map _))
          rw [ea]
          refine vk_getf (ref := "java/lang/String") hx hb (oS.1 n hn2).2.2.1 hS hown (hts _ (am_Ow _ (by simp [am_cn, RJ0]))) (fun _ z => z) hd ?_
          have kk : W p l e R s m args below meth c H locs cells slots Q (F0 m (pc + 3) lsR (.ref (am_ad base ro (k + 1)) :: st.map (am_rv (am_ad base ro)))) := kk
          rw [ea1] at kk
          exact kk
        · split at h
          · next hc =>
            cases h
            subst hc
            show W p l e R s m args below meth c H locs cells slots Q (F0 m pc lsR (.ref (am_ad base ro k) :: st.map _))
            rw [ea]
            exact vk_getf (ref := "java/lang/String") hx hb (oS.1 n hn2).2.1 hS hown (hts _ (am_Ow _ (by simp [am_cn, RJ0]))) (fun _ z => z) hd kk
          · cases h
      · cases h
    · split at h
      · next ci j hf =>
        split at h
        · next hc =>
          cases h
          obtain ⟨hw, q, hq, hj, ho⟩ := am_fl_some hf
          obtain ⟨h1, h2⟩ := am_is_iff hc.1
          have hci : ci < 13 := (List.getElem?_eq_some_iff.mp hq).1
          have hcc := am_cls_at hci
          rw [hcc] at hq
          cases hq
          have hw2 := hts _ hw
          simp only [am_fw, am_own, hcc, Option.elim_some] at hw2
          have he := am_Wd_at (ct := ct) (ad := am_ad base ro) h1
          rw [am_cell_o h2 hci] at he
          refine va_get (C := (am_cls ci).1) (T := (am_cls ci).2.1) (N := (am_cls ci).2.2) (ref := (am_cls ci).1) hx hb hts (am_kin hci).1 hown hK hP k he hcc j hj hw2 (fun x hxx => by rw [ho] at hxx; exact hxx) (v := am_rv (am_ad base ro) (am_get M ci k j)) ?_ hd kk
          rw [List.getElem?_map, List.getElem?_range hc.2]
          rfl
        · cases h
      · cases h
  · next i k st =>
    split at h
    · next hcx =>
      split at h
      · next hc =>
        cases h
        obtain ⟨rfl, hi⟩ := hc
        exact va_ti hx hb oT hS (am_in_iff hi) rfl hd kk
      · cases h
    · split at h
      · next hc =>
        cases h
        obtain ⟨h1, h2⟩ := am_is_iff hc.1
        have he := am_Wd_at (ct := ct) (ad := am_ad base ro) h1
        rw [am_cell_i h2 (Or.inl rfl)] at he
        exact va_iald hx hb hK hP k 0 he rfl (am_in_iff hc.2) hd kk
      · cases h
  · next i k st =>
    split at h
    · next hcx =>
      split at h
      · next n hn =>
        obtain ⟨hn2, hkn⟩ := am_val_some hn
        have ea : am_ad base ro k = ro (1000001 + 2 * n) := by unfold am_ad; rw [if_neg (by omega), hkn]
        split at h
        · next hi =>
          cases h
          show W p l e R s m args below meth c H locs cells slots Q (F0 m pc lsR (.int i :: .ref (am_ad base ro k) :: st.map _))
          rw [ea]
          exact va_tb hx hb (oS.1 n hn2).2.2.2 hS (am_in_iff hi) rfl hd kk
        · cases h
      · cases h
    · split at h
      · next hc =>
        cases h
        rcases hc.1 with h0 | h0
        · obtain ⟨h1, h2⟩ := am_is_iff h0
          have he := am_Wd_at (ct := ct) (ad := am_ad base ro) h1
          rw [am_cell_i h2 (Or.inr (Or.inl rfl))] at he
          exact va_bald hx hb hK hP k 1 he rfl (am_in_iff hc.2) hd kk
        · obtain ⟨h1, h2⟩ := am_is_iff h0
          have he := am_Wd_at (ct := ct) (ad := am_ad base ro) h1
          rw [am_cell_i h2 (Or.inr (Or.inr rfl))] at he
          exact va_zald hx hb hK hP k 2 he rfl (am_in_iff hc.2) hd kk
      · cases h
  · next i k st =>
    split at h
    · next hc =>
      cases h
      obtain ⟨h1, h2⟩ := am_is_iff hc.1
      have he := am_Wd_at (ct := ct) (ad := am_ad base ro) h1
      rw [am_cell_l h2] at he
      exact va_lald hx hb hK hP k 3 he rfl (am_in_iff hc.2) hd kk
    · cases h
  · next i k st =>
    split at h
    · next hc =>
      cases h
      have kk : W p l e R s m args below meth c H locs cells slots Q (F0 m (pc + 1) lsR (am_rv (am_ad base ro) (va_rf (M.2.2.2 k i.toNatClampNeg)) :: st.map (am_rv (am_ad base ro)))) := kk
      rw [am_rv_rf] at kk
      rcases hc.1 with h0 | h0
      · obtain ⟨h1, h2⟩ := am_is_iff h0
        have he := am_Wd_at (ct := ct) (ad := am_ad base ro) h1
        rw [am_cell_r h2 (Or.inl rfl)] at he
        exact va_aldq (f := fun j => (M.2.2.2 k j).map (am_ad base ro)) hx hb hK hP k 4 he rfl (am_in_iff hc.2) hd kk
      · obtain ⟨h1, h2⟩ := am_is_iff h0
        have he := am_Wd_at (ct := ct) (ad := am_ad base ro) h1
        rw [am_cell_r h2 (Or.inr rfl)] at he
        have hin := am_in_iff hc.2
        have hlt : i.toNatClampNeg < (am_SH k).2 := Nat.not_le.mp fun q => hin (Or.inr q)
        exact W.aald (v := va_rf ((M.2.2.2 k i.toNatClampNeg).map (am_ad base ro))) (ty := .array .int) hx hb (hP k _ he) ((hK.2 5 _ rfl).1 (am_SH k).2 (fun j => va_rf ((M.2.2.2 k j).map (am_ad base ro)))) rfl (fun q => by cases q) (by show ¬ (i < 0 ∨ (arrV _ _ _).slots.size ≤ _); rw [arrV_size]; exact hin) (by show (arrV _ _ _).slots[_]? = _; rw [arrV_read _ _ hlt]) rfl rfl hd kk
    · cases h
  · next k st =>
    split at h
    · split at h
      · next hk =>
        cases h
        subst hk
        exact va_tlen hx hb oT hS rfl hd kk
      · cases h
    · split at h
      · split at h
        · next n hn =>
          obtain ⟨hn2, hkn⟩ := am_val_some hn
          have ea : am_ad base ro k = ro (1000001 + 2 * n) := by unfold am_ad; rw [if_neg (by omega), hkn]
          cases h
          show W p l e R s m args below meth c H locs cells slots Q (F0 m pc lsR (.ref (am_ad base ro k) :: st.map _))
          rw [ea]
          exact va_tlen hx hb (oS.1 n hn2).2.2.2 hS rfl hd kk
        · cases h
      · split at h
        · next hc =>
          cases h
          obtain ⟨h0, h2, h3⟩ := hc
          have h1 : k < M.1 := by simpa using h0
          have he := am_Wd_at (ct := ct) (ad := am_ad base ro) h1
          have ht : (am_SH k).1 = 20 ∨ (am_SH k).1 = 21 ∨ (am_SH k).1 = 22 ∨ (am_SH k).1 = 23 ∨ (am_SH k).1 = 24 ∨ (am_SH k).1 = 25 := by omega
          rcases ht with ht | ht | ht | ht | ht | ht
          · rw [am_cell_i ht (Or.inl rfl)] at he
            exact va_alen hx hb hK hP k 0 he rfl rfl hd kk
          · rw [am_cell_i ht (Or.inr (Or.inl rfl))] at he
            exact va_alen hx hb hK hP k 1 he rfl rfl hd kk
          · rw [am_cell_i ht (Or.inr (Or.inr rfl))] at he
            exact va_alen hx hb hK hP k 2 he rfl rfl hd kk
          · rw [am_cell_l ht] at he
            exact va_alen hx hb hK hP k 3 he rfl rfl hd kk
          · rw [am_cell_r ht (Or.inl rfl)] at he
            exact va_alen hx hb hK hP k 4 he rfl rfl hd kk
          · rw [am_cell_r ht (Or.inr rfl)] at he
            exact va_alen hx hb hK hP k 5 he rfl rfl hd kk
        · cases h
  · next ix st =>
    split at h
    · next hc =>
      cases h
      obtain ⟨rfl, rfl⟩ := hc
      exact va_ldcS hx hb hown oR0 hd kk
    · split at h
      · next hc =>
        cases h
        obtain ⟨rfl, rfl⟩ := hc
        exact va_ldcS hx hb hown oR1 hd kk
      · obtain ⟨v, h1, h2⟩ := am_map_some h
        cases h2
        exact lv_ldc hx hb hown (hts _ (am_kc_some h1)) hd kk
  · next ix st =>
    obtain ⟨v, h1, h2⟩ := am_map_some h
    cases h2
    exact lv_ldcw hx hb hown (hts _ (am_kc_some h1)) hd kk
  · next ix st =>
    split at h
    · next hc =>
      cases h
      obtain ⟨rfl, rfl⟩ := hc
      exact lv_ldc2 hx hb hown (hts _ (am_Ow _ (by simp [am_cn]))) hd kk
    · split at h
      · next hc =>
        cases h
        obtain ⟨rfl, rfl⟩ := hc
        exact lv_ldc2 hx hb hown (hts _ (am_Ow _ (by simp [am_cn]))) hd kk
      · cases h
  · next ix st =>
    split at h
    · next hc =>
      cases h
      obtain ⟨rfl, rfl⟩ := hc
      exact va_gets (ref := "java/lang/String") hx hb oZ hS hown (hts _ (am_Ow _ (by simp [am_cn, RJ0]))) (fun _ z => z) hd kk
    · split at h
      · next hc =>
        cases h
        obtain ⟨rfl, rfl⟩ := hc
        have e : am_rv (am_ad base ro) (if X.2 5000 = 0 then .null else .ref 3000000) = (if X.2 5000 = 0 then .null else .ref (ro 3000000)) := by
          split
          · rfl
          · show Value.ref (am_ad base ro 3000000) = _
            unfold am_ad
            rw [if_neg (by omega)]
        rw [List.map_cons, e] at kk
        exact va_gets (ref := "jdk/internal/util/Preconditions") hx hb oF hS hown (hts _ am_sioo) (fun _ z => z) hd kk
      · cases h
end AM2
