/-! THE ABSTRACT MACHINE IS THE MACHINE, three: writes and new cells -/
def am_sl : Nat → Nat
  | 0 => 0
  | n + 1 => am_sl n + (am_SH n).2
theorem am_sl_add (n k : Nat) : am_sl n ≤ am_sl (n + k) := by
  induction k with
  | zero => exact Nat.le_refl _
  | succ k ih => exact Nat.le_trans ih (by show am_sl (n + k) ≤ am_sl (n + k) + _; omega)
theorem am_sl_mono {a b : Nat} (h : a ≤ b) : am_sl a ≤ am_sl b := by
  have := am_sl_add a (b - a)
  rwa [show a + (b - a) = b by omega] at this
theorem am_cell_congr {ct : Nat → ClassId} {ad : Nat → Nat} {M M' : am_M} {k : Nat} (h1 : M'.2.1 k = M.2.1 k) (h2 : M'.2.2.1 k = M.2.2.1 k) (h3 : M'.2.2.2 k = M.2.2.2 k) : am_cell ct ad M' k = am_cell ct ad M k := by
  simp only [am_cell, am_get, h1, h2, h3]
theorem am_fs_set {N j : Nat} {f g : Nat → Value} {v : Value} (h1 : ∀ i, i ≠ j → g i = f i) (h2 : g j = v) : (List.range N).map g = ((List.range N).map f).set j v := by
  apply List.ext_getElem?
  intro a
  rw [List.getElem?_set]
  by_cases ha : a < N
  · by_cases hj : j = a
    · subst hj
      rw [if_pos rfl, if_pos (by simpa using ha), List.getElem?_map, List.getElem?_range ha]
      simp [h2]
    · rw [if_neg hj, List.getElem?_map, List.getElem?_map, List.getElem?_range ha]
      simp [h1 a (fun z => hj z.symm)]
  · have hN : (List.range N)[a]? = none := List.getElem?_eq_none (by simpa using Nat.not_lt.mp ha)
    by_cases hj : j = a
    · subst hj
      rw [if_pos rfl, if_neg (by simpa using ha), List.getElem?_map, hN]
      rfl
    · rw [if_neg hj, List.getElem?_map, List.getElem?_map, hN]
      rfl
theorem am_narrow_ref {ty : FieldType} (h : am_fk ty = 2) (v : Value) (hv : (∃ a, v = .ref a) ∨ v = .null) : narrow ty v = v ∧ fits ty v = true := by
  cases ty <;> simp [am_fk] at h <;> rcases hv with ⟨a, rfl⟩ | rfl <;> exact ⟨rfl, rfl⟩
theorem am_narrow_long {ty : FieldType} (h : am_fk ty = 1) (x : Int64) : narrow ty (.long x) = .long x ∧ fits ty (.long x) = true := by
  cases ty <;> simp [am_fk] at h
  exact ⟨rfl, rfl⟩
theorem am_size {p : Program} {l : Launch} {e : Env} {R : Room} {s : State} {m : MethodId} {args : Array Value} {below : List Frame} {meth : Method} {c : Code} {H : Heap} {locs : List Loc} {cells slots : Nat} {Q : State → Prop} {g : JFrame} (h : H.size ≤ s.heap.size + cells → W p l e R s m args below meth c H locs cells slots Q g) : W p l e R s m args below meth c H locs cells slots Q g :=
  fun T hT X => h (by rw [← hT]; exact X.heapSize) T hT X
theorem am_fks : ∀ ci, ci < 13 → ∀ j, j < (am_cls ci).2.2 → am_fk (am_ty ci j) ≤ 2 := by decide +kernel
theorem am_CLd : am_CL.all (fun e => decide (e.2.2 < 13)) = true := by decide +kernel
theorem am_cl_lt {c i ci : Nat} (h : ¬ ci < 13) : am_cl c i ≠ some ci := by
  intro hc
  unfold am_cl at hc
  cases hf : am_CL.find? (fun e => e.1 == c && e.2.1 == i) with
  | none => rw [hf] at hc; cases hc
  | some e =>
    rw [hf] at hc
    have h2 := List.mem_of_find?_eq_some hf
    have h3 := List.all_eq_true.mp am_CLd _ h2
    simp only [Option.map_some, Option.some.injEq] at hc
    rw [hc] at h3
    simp at h3
    omega
theorem am_default {ci : Nat} (hc : ci < 13) {j : Nat} (hj : j < (am_cls ci).2.2) (ad : Nat → Nat) {M : am_M} {k : Nat} (h1 : M.2.1 k j = 0) (h2 : M.2.2.1 k j = 0) (h3 : M.2.2.2 k j = none) : defaultValue (am_ty ci j) = am_rv ad (am_get M ci k j) := by
  have h0 := am_fks ci hc j hj
  unfold am_get
  cases ht : am_ty ci j <;> simp [ht, am_fk] at h0 ⊢ <;> simp [h1, h2, h3, am_rv, va_rf, defaultValue]
section AM3
variable {p : Program} {l : Launch} {e : Env} {R : Room} {s : State} {m : MethodId} {args : Array Value} {below : List Frame} {meth : Method} {c : Code} {H : Heap} {locs : List Loc} {cells slots : Nat} {Q : State → Prop}
variable {cc : ByteArray} {pc len : Nat} {lsR : Array Slot} {i : Instr} {base : Nat} {ro : Nat → Nat} {ct : Nat → ClassId} {D : va_G} {X : am_X}
set_option maxHeartbeats 8000000 in
theorem am_put_W (hx : p.tables.exec = Jvm.exec) (hb : c.code = cc) {μ : am_MM} {ix : Nat} (hd : decode cc pc = .ok (.putfield ix, 3)) (hown : s.vm.findClass (am_cn μ.1) = some m.cls) (hts : ∀ w ∈ am_WS, w.before args s = true) (hnm : μ.2.1.name = "<init>" → meth.name = "<init>") (hK : va_K D vwCl (am_tl ct) s) {M M' : am_M} (hn : M.1 ≤ 1003) (hP : va_P D vwCl (am_Wd ct (am_ad base ro) M) H) (hS : va_S (fun q => base ≤ q) s.heap H locs) {st : List Value} {v : Value} {k ci j : Nat}
    (hf : am_fl μ.1 ix = some (ci, j)) (hi : am_is M k ci = true) (hj2 : j < (am_SH k).2) (hfin : am_fin ci j = false ∨ (μ.2.1.name = "<init>" ∧ am_own ci = am_cn μ.1)) (hnr : narrow (am_ty ci j) (am_rv (am_ad base ro) v) = am_rv (am_ad base ro) v) (hft : fits (am_ty ci j) (am_rv (am_ad base ro) v) = true)
    (h1' : M'.1 = M.1) (ho : ∀ a, a ≠ k → am_cell ct (am_ad base ro) M' a = am_cell ct (am_ad base ro) M a) (hg : ∀ a, a ≠ j → am_get M' ci k a = am_get M ci k a) (hv : am_get M' ci k j = v)
    (kk : ∀ (H1 : Heap) (locs1 : List Loc), va_P D vwCl (am_Wd ct (am_ad base ro) M') H1 → va_S (fun q => base ≤ q) s.heap H1 locs1 → W p l e R s m args below meth c H1 locs1 cells slots Q (F0 m (pc + 3) lsR (st.map (am_rv (am_ad base ro))))) : W p l e R s m args below meth c H locs cells slots Q (F0 m pc lsR ((v :: .ref k :: st).map (am_rv (am_ad base ro)))) := by
  obtain ⟨hw, q, hq, hj, hoo⟩ := am_fl_some hf
  obtain ⟨h1, h2⟩ := am_is_iff hi
  have hci : ci < 13 := (List.getElem?_eq_some_iff.mp hq).1
  have hcc := am_cls_at hci
  rw [hcc] at hq
  cases hq
  have hw2 := hts _ hw
  simp only [am_fw, am_own, hcc, Option.elim_some] at hw2
  have he := am_Wd_at (ct := ct) (ad := am_ad base ro) h1
  rw [am_cell_o h2 hci] at he
  have hset : (am_Wd ct (am_ad base ro) M).set k (am_ad base ro k, .inr (ci, ((List.range (am_SH k).2).map (fun j => am_rv (am_ad base ro) (am_get M ci k j))).set j (am_rv (am_ad base ro) v))) = am_Wd ct (am_ad base ro) M' := by
    refine am_Wd_set h1' ?_ ho
    rw [am_cell_o h2 hci]
    congr 2
    refine am_fs_set (fun a ha => by rw [hg a ha]) (by rw [hv])
  by_cases hfn : ((am_cls ci).2.1 j).2.2.2 = false
  · refine va_put (C := (am_cls ci).1) (T := (am_cls ci).2.1) (N := (am_cls ci).2.2) (ref := (am_cls ci).1) hx hb hts (am_kin hci).1 (am_ty ci) (am_kin hci).2.1 (am_kin hci).2.2.1 hown hK hP (am_Wd_D hn) hS k he hcc j hj hw2 (fun x hxx => by rw [hoo] at hxx; exact hxx) hfn ((am_kin hci).2.1 j hj) hnr hft (by simpa using hj2) hd (fun H1 locs1 g1 _ g3 => ?_)
    rw [hset] at g1
    exact kk H1 locs1 g1 g3
  · have hfn2 : ((am_cls ci).2.1 j).2.2.2 = true := by simpa using hfn
    have hh : μ.2.1.name = "<init>" ∧ am_own ci = am_cn μ.1 := by
      rcases hfin with z | z
      · simp only [am_fin, hcc] at z
        exact absurd z hfn
      · exact z
    have how : (am_cls ci).1 = am_cn μ.1 := by
      have := hh.2
      simp only [am_own, hcc] at this
      exact this
    refine va_putF (C := (am_cls ci).1) (T := (am_cls ci).2.1) (N := (am_cls ci).2.2) (ref := (am_cls ci).1) hx hb hts (am_kin hci).1 (am_ty ci) (am_kin hci).2.1 (am_kin hci).2.2.1 hown hK hP (am_Wd_D hn) hS k he hcc j hj hw2 (fun x hxx => by rw [hoo] at hxx; exact hxx) hfn2 (hnm hh.1) (by rw [hoo]; exact how) ((am_kin hci).2.1 j hj) hnr hft (by simpa using hj2) hd (fun H1 locs1 g1 _ g3 => ?_)
    rw [hset] at g1
    exact kk H1 locs1 g1 g3
/-- a new cell lies behind the others -/
theorem am_new_at {q : Nat} {x : va_E} {M : am_M} {H1 : Heap} (hn : M.1 ≤ 1003) (hP : va_P D vwCl (am_Wd ct (am_ad base ro) M ++ [(q, x)]) H1) (hD : va_D (fun q => base ≤ q) (am_Wd ct (am_ad base ro) M ++ [(q, x)])) (hz : H1.size ≤ base + M.1 + 1) : q = am_ad base ro M.1 := by
  have hlen : (am_Wd ct (am_ad base ro) M).length = M.1 := by simp [am_Wd]
  have hl : (am_Wd ct (am_ad base ro) M ++ [(q, x)])[M.1]? = some (q, x) := by
    rw [List.getElem?_append_right (by omega), hlen]; simp
  have h1 : q < H1.size := (hP _ _ hl).lt
  have h2 : base ≤ q := hD.2 _ _ hl
  have h3 : ∀ k, k < M.1 → q ≠ base + k := by
    intro k hk hq
    have hk' : (am_Wd ct (am_ad base ro) M ++ [(q, x)])[k]? = some (am_ad base ro k, am_cell ct (am_ad base ro) M k) := by
      rw [List.getElem?_append_left (by omega)]; exact am_Wd_at hk
    have := hD.1 k M.1 _ _ hk' hl (by show am_ad base ro k = q; unfold am_ad; rw [if_pos (by omega), hq])
    omega
  unfold am_ad
  rw [if_pos (by omega)]
  have h4 := h3 (q - base)
  by_cases h5 : q - base < M.1
  · exact absurd (by omega) (h4 h5)
  · omega
theorem am_make_Wd {M : am_M} {x : va_E} (hx : am_cell ct (am_ad base ro) (am_make M) M.1 = x) : am_Wd ct (am_ad base ro) M ++ [(am_ad base ro M.1, x)] = am_Wd ct (am_ad base ro) (am_make M) := by
  unfold am_Wd
  show _ = (List.range (M.1 + 1)).map _
  rw [List.range_succ, List.map_append, List.map_singleton, hx]
  congr 1
  apply List.map_congr_left
  intro k hk
  have hk' : k ≠ M.1 := by have := List.mem_range.mp hk; omega
  rw [am_cell_congr (M' := am_make M) (M := M)]
  · exact am_w_ne hk'
  · exact am_w_ne hk'
  · exact am_w_ne hk'
end AM3
