/-! RULES of am_F for what touches the cells -/
theorem am_clen : ∀ ci, ci < 13 → ∀ k, k < 119 → (am_SH k).1 = ci → (am_SH k).2 = (am_cls ci).2.2 := by decide +kernel
theorem am_shle : ∀ k, k < 124 → (am_SH k).2 ≤ 2720 := by decide +kernel
theorem am_shle' (k : Nat) : (am_SH k).2 ≤ 2720 := by
  by_cases hk : k < 124
  · exact am_shle k hk
  · unfold am_SH
    rw [if_neg (by omega)]
    split <;> simp
theorem am_in_nI {j N : Nat} (h : j < N) (hN : N ≤ 2720) : am_in (nI j) N = true := by
  simp only [am_in, Bool.not_eq_true', Bool.or_eq_false_iff, decide_eq_false_iff_not]
  exact ⟨nI_pos (by omega), by rw [nI_clamp (by omega)]; omega⟩
theorem am_is_of {n k t : Nat} {I : Nat → Nat → Int32} {L : Nat → Nat → Int64} {R : Nat → Nat → Option Nat} (hk : k < n) (hs : (am_SH k).1 = t) : am_is (n, I, L, R) k t = true := by
  simp [am_is, hk, hs]
theorem am_blt {k n : Nat} (hk : k < n) : Nat.blt k n = true := by simpa using hk
theorem am_fl_lt {c ix ci j k : Nat} (hf : am_fl c ix = some (ci, j)) (hs : (am_SH k).1 = ci) : j < (am_SH k).2 := by
  obtain ⟨-, q, hq, hj, -⟩ := am_fl_some hf
  have hci : ci < 13 := (List.getElem?_eq_some_iff.mp hq).1
  rw [am_cls_at hci] at hq
  cases hq
  rw [am_shN' (by rw [hs]; exact hci), hs]
  exact hj
theorem am_lk_of {c i : Nat} {a b : Nat} {q : Nat × Nat × am_MM} (j : Nat) (h1 : am_LK.findIdx? (fun e => e.1 == c && e.2.1 == i) = some j) (h2 : am_LK[j]? = some (a, b, q)) : am_lk c i = some q := by
  unfold am_lk
  have h3 : am_LK.find? (fun e => e.1 == c && e.2.1 == i) = am_LK[j]? := by
    rw [List.find?_eq_bind_findIdx?_getElem?, h1]; rfl
  rw [h3, h2]
  rfl
section AMR
variable {X : am_X} {d : Nat} {μ : am_MM} {pc : Nat} {ls : am_LS} {st : List Value} {Q : Option Value → am_M → Prop} {n : Nat} {I : Nat → Nat → Int32} {L : Nat → Nat → Int64} {R : Nat → Nat → Option Nat} {k j ci ix : Nat}
theorem am_r_get (hd : decode μ.2.2.1 pc = .ok (.getfield ix, 3)) (h20 : ¬ μ.1 = 20) (hf : am_fl μ.1 ix = some (ci, j)) (hk : k < n) (hs : (am_SH k).1 = ci) : am_F X d μ pc ls (.ref k :: st) (n, I, L, R) Q ↔ am_F X d μ (pc + 3) ls (am_get (n, I, L, R) ci k j :: st) (n, I, L, R) Q := by
  refine am_F_nx hd ?_
  have e1 : j < (am_SH k).2 := am_fl_lt hf hs
  simp [am_stp, am_pure, am_load, am_store, am_jump, am_read, h20, hf, am_is_of hk hs, e1]
theorem am_r_put {v : Value} {M' : am_M} (hd : decode μ.2.2.1 pc = .ok (.putfield ix, 3)) (hw : am_write μ (.putfield ix) 3 (v :: .ref k :: st) (n, I, L, R) = some (st, M')) (hn : M'.1 ≤ 1003) : am_F X d μ pc ls (v :: .ref k :: st) (n, I, L, R) Q ↔ am_F X d μ (pc + 3) ls st M' Q := by
  refine am_F_nx hd ?_
  simp [am_stp, am_pure, am_load, am_store, am_jump, am_read, hw, hn]
theorem am_r_putI {x : Int32} (hd : decode μ.2.2.1 pc = .ok (.putfield ix, 3)) (hf : am_fl μ.1 ix = some (ci, j)) (hfn : am_fin ci j = false ∨ (μ.2.1.name = "<init>" ∧ am_own ci = am_cn μ.1)) (hfk : am_fk (am_ty ci j) = 0) (hnr : narrow (am_ty ci j) (.int x) = .int x) (hft : fits (am_ty ci j) (.int x) = true) (hn : n ≤ 1003) (hk : k < n) (hs : (am_SH k).1 = ci) : am_F X d μ pc ls (.int x :: .ref k :: st) (n, I, L, R) Q ↔ am_F X d μ (pc + 3) ls st (n, am_u I k j x, L, R) Q := by
  refine am_r_put hd ?_ hn
  have e1 : j < (am_SH k).2 := am_fl_lt hf hs
  simp only [am_write, hf]
  rw [if_pos ⟨am_is_of hk hs, e1, hfn⟩, hfk]
  simp only
  rw [if_pos ⟨hnr, hft⟩]
  rfl
theorem am_r_putL {x : Int64} (hd : decode μ.2.2.1 pc = .ok (.putfield ix, 3)) (hf : am_fl μ.1 ix = some (ci, j)) (hfn : am_fin ci j = false ∨ (μ.2.1.name = "<init>" ∧ am_own ci = am_cn μ.1)) (hfk : am_fk (am_ty ci j) = 1) (hn : n ≤ 1003) (hk : k < n) (hs : (am_SH k).1 = ci) : am_F X d μ pc ls (.long x :: .ref k :: st) (n, I, L, R) Q ↔ am_F X d μ (pc + 3) ls st (n, I, am_u L k j x, R) Q := by
  refine am_r_put hd ?_ hn
  have e1 : j < (am_SH k).2 := am_fl_lt hf hs
  simp only [am_write, hf]
  rw [if_pos ⟨am_is_of hk hs, e1, hfn⟩, hfk]
  rfl
theorem am_r_putR {a : Nat} (hd : decode μ.2.2.1 pc = .ok (.putfield ix, 3)) (hf : am_fl μ.1 ix = some (ci, j)) (hfn : am_fin ci j = false ∨ (μ.2.1.name = "<init>" ∧ am_own ci = am_cn μ.1)) (hfk : am_fk (am_ty ci j) = 2) (hn : n ≤ 1003) (hk : k < n) (hs : (am_SH k).1 = ci) : am_F X d μ pc ls (.ref a :: .ref k :: st) (n, I, L, R) Q ↔ am_F X d μ (pc + 3) ls st (n, I, L, am_u R k j (some a)) Q := by
  refine am_r_put hd ?_ hn
  have e1 : j < (am_SH k).2 := am_fl_lt hf hs
  simp only [am_write, hf]
  rw [if_pos ⟨am_is_of hk hs, e1, hfn⟩, hfk]
  rfl
theorem am_r_iald (hd : decode μ.2.2.1 pc = .ok (.iaload, 1)) (h30 : ¬ μ.1 = 30) (hk : k < n) (hs : (am_SH k).1 = 20) (hj : j < (am_SH k).2) : am_F X d μ pc ls (.int (nI j) :: .ref k :: st) (n, I, L, R) Q ↔ am_F X d μ (pc + 1) ls (.int (I k j) :: st) (n, I, L, R) Q := by
  refine am_F_nx hd ?_
  have e2 : (nI j).toNatClampNeg = j := nI_clamp (by have := am_shle' k; omega)
  simp [am_stp, am_pure, am_load, am_store, am_jump, am_read, h30, am_is_of hk hs, am_in_nI hj (am_shle' k), e2]
theorem am_r_bald (hd : decode μ.2.2.1 pc = .ok (.baload, 1)) (h21 : ¬ μ.1 = 21) (hk : k < n) (hs : (am_SH k).1 = 21 ∨ (am_SH k).1 = 22) (hj : j < (am_SH k).2) : am_F X d μ pc ls (.int (nI j) :: .ref k :: st) (n, I, L, R) Q ↔ am_F X d μ (pc + 1) ls (.int (I k j) :: st) (n, I, L, R) Q := by
  refine am_F_nx hd ?_
  have e2 : (nI j).toNatClampNeg = j := nI_clamp (by have := am_shle' k; omega)
  have e3 : am_is (n, I, L, R) k 21 = true ∨ am_is (n, I, L, R) k 22 = true := hs.imp (am_is_of hk) (am_is_of hk)
  simp [am_stp, am_pure, am_load, am_store, am_jump, am_read, h21, e3, am_in_nI hj (am_shle' k), e2]
theorem am_r_lald (hd : decode μ.2.2.1 pc = .ok (.laload, 1)) (hk : k < n) (hs : (am_SH k).1 = 23) (hj : j < (am_SH k).2) : am_F X d μ pc ls (.int (nI j) :: .ref k :: st) (n, I, L, R) Q ↔ am_F X d μ (pc + 1) ls (.long (L k j) :: st) (n, I, L, R) Q := by
  refine am_F_nx hd ?_
  have e2 : (nI j).toNatClampNeg = j := nI_clamp (by have := am_shle' k; omega)
  simp [am_stp, am_pure, am_load, am_store, am_jump, am_read, am_is_of hk hs, am_in_nI hj (am_shle' k), e2]
theorem am_r_aald (hd : decode μ.2.2.1 pc = .ok (.aaload, 1)) (hk : k < n) (hs : (am_SH k).1 = 24 ∨ (am_SH k).1 = 25) (hj : j < (am_SH k).2) : am_F X d μ pc ls (.int (nI j) :: .ref k :: st) (n, I, L, R) Q ↔ am_F X d μ (pc + 1) ls (va_rf (R k j) :: st) (n, I, L, R) Q := by
  refine am_F_nx hd ?_
  have e2 : (nI j).toNatClampNeg = j := nI_clamp (by have := am_shle' k; omega)
  have e3 : am_is (n, I, L, R) k 24 = true ∨ am_is (n, I, L, R) k 25 = true := hs.imp (am_is_of hk) (am_is_of hk)
  simp [am_stp, am_pure, am_load, am_store, am_jump, am_read, e3, am_in_nI hj (am_shle' k), e2]
theorem am_r_alen (hd : decode μ.2.2.1 pc = .ok (.arraylength, 1)) (hc : ¬ μ.1 = 30 ∧ ¬ μ.1 = 20 ∧ ¬ μ.1 = 21) (hk : k < n) (hs : 20 ≤ (am_SH k).1 ∧ (am_SH k).1 ≤ 25) : am_F X d μ pc ls (.ref k :: st) (n, I, L, R) Q ↔ am_F X d μ (pc + 1) ls (.int (nI (am_SH k).2) :: st) (n, I, L, R) Q := by
  refine am_F_nx hd ?_
  simp [am_stp, am_pure, am_load, am_store, am_jump, am_read, hc.1, hc.2.1, hc.2.2, hk, hs.1, hs.2, nI]
theorem am_r_iast {x : Int32} (hd : decode μ.2.2.1 pc = .ok (.iastore, 1)) (hn : n ≤ 1003) (hk : k < n) (hs : (am_SH k).1 = 20) (hj : j < (am_SH k).2) : am_F X d μ pc ls (.int x :: .int (nI j) :: .ref k :: st) (n, I, L, R) Q ↔ am_F X d μ (pc + 1) ls st (n, am_u I k j x, L, R) Q := by
  refine am_F_nx hd ?_
  have e2 : (nI j).toNatClampNeg = j := nI_clamp (by have := am_shle' k; omega)
  simp [am_stp, am_pure, am_load, am_store, am_jump, am_read, am_write, am_is_of hk hs, am_in_nI hj (am_shle' k), e2, am_setI, hn]
theorem am_r_bast {x : Int32} (hd : decode μ.2.2.1 pc = .ok (.bastore, 1)) (hn : n ≤ 1003) (hk : k < n) (hs : (am_SH k).1 = 21) (hj : j < (am_SH k).2) : am_F X d μ pc ls (.int x :: .int (nI j) :: .ref k :: st) (n, I, L, R) Q ↔ am_F X d μ (pc + 1) ls st (n, am_u I k j (vp_nar .byte x), L, R) Q := by
  refine am_F_nx hd ?_
  have e2 : (nI j).toNatClampNeg = j := nI_clamp (by have := am_shle' k; omega)
  simp [am_stp, am_pure, am_load, am_store, am_jump, am_read, am_write, am_is_of hk hs, am_in_nI hj (am_shle' k), e2, am_setI, hn]
theorem am_r_zast {x : Int32} (hd : decode μ.2.2.1 pc = .ok (.bastore, 1)) (hn : n ≤ 1003) (hk : k < n) (hs : (am_SH k).1 = 22) (hj : j < (am_SH k).2) : am_F X d μ pc ls (.int x :: .int (nI j) :: .ref k :: st) (n, I, L, R) Q ↔ am_F X d μ (pc + 1) ls st (n, am_u I k j (vp_nar .boolean x), L, R) Q := by
  refine am_F_nx hd ?_
  have e2 : (nI j).toNatClampNeg = j := nI_clamp (by have := am_shle' k; omega)
  have e3 : am_is (n, I, L, R) k 21 = false := by simp [am_is, hs]
  simp [am_stp, am_pure, am_load, am_store, am_jump, am_read, am_write, e3, am_is_of hk hs, am_in_nI hj (am_shle' k), e2, am_setI, hn]
theorem am_r_last {x : Int64} (hd : decode μ.2.2.1 pc = .ok (.lastore, 1)) (hn : n ≤ 1003) (hk : k < n) (hs : (am_SH k).1 = 23) (hj : j < (am_SH k).2) : am_F X d μ pc ls (.long x :: .int (nI j) :: .ref k :: st) (n, I, L, R) Q ↔ am_F X d μ (pc + 1) ls st (n, I, am_u L k j x, R) Q := by
  refine am_F_nx hd ?_
  have e2 : (nI j).toNatClampNeg = j := nI_clamp (by have := am_shle' k; omega)
  simp [am_stp, am_pure, am_load, am_store, am_jump, am_read, am_write, am_is_of hk hs, am_in_nI hj (am_shle' k), e2, am_setL, hn]
theorem am_r_aast {a : Nat} (hd : decode μ.2.2.1 pc = .ok (.aastore, 1)) (hn : n ≤ 1003) (hk : k < n) (hs : (am_SH k).1 = 24) (hj : j < (am_SH k).2) (ha : a < n) (hsa : (am_SH a).1 = 3) : am_F X d μ pc ls (.ref a :: .int (nI j) :: .ref k :: st) (n, I, L, R) Q ↔ am_F X d μ (pc + 1) ls st (n, I, L, am_u R k j (some a)) Q := by
  refine am_F_nx hd ?_
  have e2 : (nI j).toNatClampNeg = j := nI_clamp (by have := am_shle' k; omega)
  simp [am_stp, am_pure, am_load, am_store, am_jump, am_read, am_write, am_is_of hk hs, am_is_of ha hsa, am_in_nI hj (am_shle' k), e2, am_setR, hn]
theorem am_r_new (hd : decode μ.2.2.1 pc = .ok (.new ix, 3)) (hf : am_cl μ.1 ix = some ci) (hn : n + 1 ≤ 1003) (hs : (am_SH n).1 = ci) : am_F X d μ pc ls st (n, I, L, R) Q ↔ am_F X d μ (pc + 3) ls (.ref n :: st) (am_make (n, I, L, R)) Q := by
  refine am_F_nx hd ?_
  simp [am_stp, am_pure, am_load, am_store, am_jump, am_read, am_write, hf, hs, am_make, hn]
theorem am_r_newI {x : Int32} (hd : decode μ.2.2.1 pc = .ok (.newarray .int, 2)) (hn : n + 1 ≤ 1003) (hs : am_SH n = (20, j)) (hx : x = nI j) : am_F X d μ pc ls (.int x :: st) (n, I, L, R) Q ↔ am_F X d μ (pc + 2) ls (.ref n :: st) (am_make (n, I, L, R)) Q := by
  refine am_F_nx hd ?_
  subst hx
  have hj := am_shle' n
  rw [hs] at hj
  have hj : j ≤ 2720 := hj
  have e2 : (nI j).toNatClampNeg = j := nI_clamp (by omega)
  have e3 : ¬ nI j < 0 := nI_pos (by omega)
  have hw : am_write μ (.newarray .int) 2 (.int (nI j) :: st) (n, I, L, R) = some (.ref n :: st, am_make (n, I, L, R)) := by
    simp only [am_write]
    rw [if_pos ⟨e3, by rw [hs]; exact e2, by rw [hs]; show j ≤ 100000; omega, Or.inl ⟨rfl, by rw [hs]⟩⟩]
  simp [am_stp, am_pure, am_load, am_store, am_jump, am_read, hw, am_make, hn]
theorem am_r_copy {a b sp dp m : Nat} {o : Nat × am_MM} (hd : decode μ.2.2.1 pc = .ok (.invokestatic ix, 3)) (hl : am_lk μ.1 ix = some (5, o)) (hst : am_sum st ≤ 8) (ha : a < n) (hsa : (am_SH a).1 = 20) (hb : b < n) (hsb : (am_SH b).1 = 20) (h1 : sp + m ≤ (am_SH a).2) (h2 : dp + m ≤ (am_SH b).2) : am_F X d μ pc ls (.int (nI m) :: .int (nI dp) :: .ref b :: .int (nI sp) :: .ref a :: st) (n, I, L, R) Q ↔ am_F X d μ (pc + 3) ls st (am_copy (n, I, L, R) a b sp dp m) Q := by
  refine am_F_nx hd ?_
  have ja := am_shle' a
  have jb := am_shle' b
  have e1 : (nI m).toNatClampNeg = m := nI_clamp (by omega)
  have e2 : (nI dp).toNatClampNeg = dp := nI_clamp (by omega)
  have e3 : (nI sp).toNatClampNeg = sp := nI_clamp (by omega)
  have f1 : ¬ nI m < 0 := nI_pos (by omega)
  have f2 : ¬ nI dp < 0 := nI_pos (by omega)
  have f3 : ¬ nI sp < 0 := nI_pos (by omega)
  obtain ⟨o1, o2⟩ := o
  simp [am_stp, am_pure, am_load, am_store, am_jump, am_read, am_write, am_ret, am_inv, hl, am_is_of ha hsa, am_is_of hb hsb, e1, e2, e3, f1, f2, f3, h1, h2, hst]
theorem am_r_objI {a : Nat} {o : Nat × am_MM} (hd : decode μ.2.2.1 pc = .ok (.invokespecial ix, 3)) (hl : am_lk μ.1 ix = some (4, o)) (hst : am_sum st ≤ 8) : am_F X d μ pc ls (.ref a :: st) (n, I, L, R) Q ↔ am_F X d μ (pc + 3) ls st (n, I, L, R) Q := by
  refine am_F_nx hd ?_
  obtain ⟨o1, o2⟩ := o
  simp [am_stp, am_pure, am_load, am_store, am_jump, am_read, am_write, am_ret, am_inv, hl, hst]
theorem am_r_max {x y : Int32} {o : Nat × am_MM} (hd : decode μ.2.2.1 pc = .ok (.invokestatic ix, 3)) (hl : am_lk μ.1 ix = some (6, o)) (hst : am_sum st ≤ 8) : am_F X d μ pc ls (.int y :: .int x :: st) (n, I, L, R) Q ↔ am_F X d μ (pc + 3) ls (.int (if x < y then y else x) :: st) (n, I, L, R) Q := by
  refine am_F_nx hd ?_
  obtain ⟨o1, o2⟩ := o
  simp [am_stp, am_pure, am_load, am_store, am_jump, am_read, am_write, am_ret, am_inv, hl, hst]
theorem am_r_min {x y : Int32} {o : Nat × am_MM} (hd : decode μ.2.2.1 pc = .ok (.invokestatic ix, 3)) (hl : am_lk μ.1 ix = some (7, o)) (hst : am_sum st ≤ 8) : am_F X d μ pc ls (.int y :: .int x :: st) (n, I, L, R) Q ↔ am_F X d μ (pc + 3) ls (.int (if y < x then y else x) :: st) (n, I, L, R) Q := by
  refine am_F_nx hd ?_
  obtain ⟨o1, o2⟩ := o
  simp [am_stp, am_pure, am_load, am_store, am_jump, am_read, am_write, am_ret, am_inv, hl, hst]
theorem am_r_abs {x : Int32} {o : Nat × am_MM} (hd : decode μ.2.2.1 pc = .ok (.invokestatic ix, 3)) (hl : am_lk μ.1 ix = some (8, o)) (hst : am_sum st ≤ 8) : am_F X d μ pc ls (.int x :: st) (n, I, L, R) Q ↔ am_F X d μ (pc + 3) ls (.int (if 0 ≤ x then x else 0 - x) :: st) (n, I, L, R) Q := by
  refine am_F_nx hd ?_
  obtain ⟨o1, o2⟩ := o
  simp [am_stp, am_pure, am_load, am_store, am_jump, am_read, am_write, am_ret, am_inv, hl, hst]
theorem am_r_virt {ν : am_MM} {a : Nat} {as : List Value} (hd : decode μ.2.2.1 pc = .ok (.invokevirtual ix, 3)) (hl : am_lk μ.1 ix = some (0, as.length, ν)) (hmx : ¬ ν.2.2.2.1 < (am_args (.ref a :: as)).length) (hst : am_sum st ≤ 8) (ha : a < n) (hci : (am_SH a).1 = ci) (h13 : ci < 13) (ho : am_own ci = ν.2.1.cls) : am_F X (d + 1) μ pc ls (as.reverse ++ .ref a :: st) (n, I, L, R) Q ↔ am_F X d ν 0 (am_en (.ref a :: as) ν.2.2.2.1) [] (n, I, L, R) (fun v M' => am_F X (d + 1) μ (pc + 3) ls (v.toList ++ st) M' Q) := by
  refine am_F_call hd ?_ hmx
  have e1 : List.drop as.length (as.reverse ++ Value.ref a :: st) = .ref a :: st := by
    have := List.drop_left (l₁ := as.reverse) (l₂ := Value.ref a :: st)
    rwa [List.length_reverse] at this
  have e2 : List.take as.length (as.reverse ++ Value.ref a :: st) = as.reverse := by
    have := List.take_left (l₁ := as.reverse) (l₂ := Value.ref a :: st)
    rwa [List.length_reverse] at this
  have e3 : (am_SH a).1 < 13 := by rw [hci]; exact h13
  have e4 : am_own (am_SH a).1 = ν.2.1.cls := by rw [hci]; exact ho
  have e5 : am_inv μ (.invokevirtual ix) 3 (as.reverse ++ .ref a :: st) (n, I, L, R) = some (.inl (ν, .ref a :: as, st)) := by
    simp only [am_inv, hl, e1, e2, List.length_reverse, List.reverse_reverse]
    rw [if_pos ⟨trivial, hst, Or.inl ⟨am_blt ha, e3, e4⟩⟩]
  simp [am_stp, am_pure, am_load, am_store, am_jump, am_read, am_write, am_ret, e5]
theorem am_r_stat {ν : am_MM} {as : List Value} (hd : decode μ.2.2.1 pc = .ok (.invokestatic ix, 3)) (hl : am_lk μ.1 ix = some (1, as.length, ν)) (hmx : ¬ ν.2.2.2.1 < (am_args as).length) (hst : am_sum st ≤ 8) : am_F X (d + 1) μ pc ls (as.reverse ++ st) (n, I, L, R) Q ↔ am_F X d ν 0 (am_en as ν.2.2.2.1) [] (n, I, L, R) (fun v M' => am_F X (d + 1) μ (pc + 3) ls (v.toList ++ st) M' Q) := by
  refine am_F_call hd ?_ hmx
  have e1 : List.drop as.length (as.reverse ++ st) = st := by
    have := List.drop_left (l₁ := as.reverse) (l₂ := st)
    rwa [List.length_reverse] at this
  have e2 : List.take as.length (as.reverse ++ st) = as.reverse := by
    have := List.take_left (l₁ := as.reverse) (l₂ := st)
    rwa [List.length_reverse] at this
  have e5 : am_inv μ (.invokestatic ix) 3 (as.reverse ++ st) (n, I, L, R) = some (.inl (ν, as, st)) := by
    simp only [am_inv, hl, e1, e2, List.length_reverse, List.reverse_reverse]
    rw [if_pos ⟨trivial, hst⟩]
  simp [am_stp, am_pure, am_load, am_store, am_jump, am_read, am_write, am_ret, e5]
theorem am_r_putInt {x : Int32} (hd : decode μ.2.2.1 pc = .ok (.putfield ix, 3)) (hf : am_fl μ.1 ix = some (ci, j)) (hfn : am_fin ci j = false) (hty : am_ty ci j = .int) (hn : n ≤ 1003) (hk : k < n) (hs : (am_SH k).1 = ci) : am_F X d μ pc ls (.int x :: .ref k :: st) (n, I, L, R) Q ↔ am_F X d μ (pc + 3) ls st (n, am_u I k j x, L, R) Q :=
  am_r_putI hd hf (Or.inl hfn) (by rw [hty]; rfl) (by rw [hty]; rfl) (by rw [hty]; rfl) hn hk hs
end AMR
theorem am_ifp {X : am_X} {d : Nat} {μ : am_MM} {a b : Nat} {ls : am_LS} {st : List Value} {M : am_M} {Q : Option Value → am_M → Prop} {c : Bool} {p : Prop} [Decidable p] (h : (c = true) ↔ p) : am_F X d μ (if c = true then a else b) ls st M Q ↔ (if p then am_F X d μ a ls st M Q else am_F X d μ b ls st M Q) := by
  by_cases hp : p
  · rw [if_pos (h.mpr hp), if_pos hp]
  · rw [if_neg (fun z => hp (h.mp z)), if_neg hp]
theorem am_r_iret {X : am_X} {d : Nat} {μ : am_MM} {pc : Nat} {ls : am_LS} {M : am_M} {Q : Option Value → am_M → Prop} {x : Int32} {ty : FieldType} (hd : decode μ.2.2.1 pc = .ok (.ireturn, 1)) (hr : μ.2.2.2.2 = some ty) (hx : narrow ty (.int x) = .int x) : am_F X d μ pc ls [.int x] M Q ↔ Q (some (.int x)) M := by
  refine am_F_ret hd ?_
  simp [am_stp, am_pure, am_load, am_store, am_jump, am_read, am_write, am_ret, hr, hx]
theorem am_st1_of {ls : am_LS} {k : Nat} {v : Value} (hk : k < ls.length) (h : k = 0 ∨ am_cat2 (ls.getD (k - 1) none) = false) : am_st1 ls k v = some (ls.set k (some v)) := by
  unfold am_st1
  rw [if_pos ⟨hk, h⟩]
theorem am_st2_of {ls : am_LS} {k : Nat} {v : Value} (hk : k + 1 < ls.length) (h : k = 0 ∨ am_cat2 (ls.getD (k - 1) none) = false) : am_st2 ls k v = some ((ls.set k (some v)).set (k + 1) none) := by
  unfold am_st2
  rw [if_pos ⟨hk, h⟩]
section AMS
variable {X : am_X} {d : Nat} {μ : am_MM} {pc : Nat} {ls ls' : am_LS} {st : List Value} {Q : Option Value → am_M → Prop} {M : am_M} {k : Nat}
theorem am_r_istore {x : Int32} (hd : decode μ.2.2.1 pc = .ok (.istore k, 2)) (h : am_st1 ls k (.int x) = some ls') : am_F X d μ pc ls (.int x :: st) M Q ↔ am_F X d μ (pc + 2) ls' st M Q := am_F_nx hd (by simp [am_stp, am_pure, am_load, am_store, h])
theorem am_r_istore_n {x : Int32} {q : Fin 4} (hd : decode μ.2.2.1 pc = .ok (.istore_n q, 1)) (h : am_st1 ls (q : Nat) (.int x) = some ls') : am_F X d μ pc ls (.int x :: st) M Q ↔ am_F X d μ (pc + 1) ls' st M Q := am_F_nx hd (by simp [am_stp, am_pure, am_load, am_store, h])
theorem am_r_astore {x : Nat} (hd : decode μ.2.2.1 pc = .ok (.astore k, 2)) (h : am_st1 ls k (.ref x) = some ls') : am_F X d μ pc ls (.ref x :: st) M Q ↔ am_F X d μ (pc + 2) ls' st M Q := am_F_nx hd (by simp [am_stp, am_pure, am_load, am_store, h])
theorem am_r_astore_n {x : Nat} {q : Fin 4} (hd : decode μ.2.2.1 pc = .ok (.astore_n q, 1)) (h : am_st1 ls (q : Nat) (.ref x) = some ls') : am_F X d μ pc ls (.ref x :: st) M Q ↔ am_F X d μ (pc + 1) ls' st M Q := am_F_nx hd (by simp [am_stp, am_pure, am_load, am_store, h])
theorem am_r_lstore {x : Int64} (hd : decode μ.2.2.1 pc = .ok (.lstore k, 2)) (h : am_st2 ls k (.long x) = some ls') : am_F X d μ pc ls (.long x :: st) M Q ↔ am_F X d μ (pc + 2) ls' st M Q := am_F_nx hd (by simp [am_stp, am_pure, am_load, am_store, h])
theorem am_r_lstore_n {x : Int64} {q : Fin 4} (hd : decode μ.2.2.1 pc = .ok (.lstore_n q, 1)) (h : am_st2 ls (q : Nat) (.long x) = some ls') : am_F X d μ pc ls (.long x :: st) M Q ↔ am_F X d μ (pc + 1) ls' st M Q := am_F_nx hd (by simp [am_stp, am_pure, am_load, am_store, h])
theorem am_r_iinc {x : Int32} {z : Int} (hd : decode μ.2.2.1 pc = .ok (.iinc k z, 3)) (hl : ls.getD k none = some (.int x)) (h : am_st1 ls k (.int (x + Int32.ofInt z)) = some ls') : am_F X d μ pc ls st M Q ↔ am_F X d μ (pc + 3) ls' st M Q := am_F_nx hd (by simp only [am_stp, am_pure, am_load, am_store, hl, h, Option.map_some])
theorem am_r_div {x y : Int32} (hd : decode μ.2.2.1 pc = .ok (.idiv, 1)) (hy : ¬ y = 0) : am_F X d μ pc ls (.int y :: .int x :: st) M Q ↔ am_F X d μ (pc + 1) ls (.int (x / y) :: st) M Q := am_F_nx hd (by simp [am_stp, am_pure, hy])
theorem am_r_rem {x y : Int32} (hd : decode μ.2.2.1 pc = .ok (.irem, 1)) (hy : ¬ y = 0) : am_F X d μ pc ls (.int y :: .int x :: st) M Q ↔ am_F X d μ (pc + 1) ls (.int (x - x / y * y) :: st) M Q := am_F_nx hd (by simp [am_stp, am_pure, hy])
theorem am_r_sw {x : Int32} {dflt lo hi : Int} {offs : Array Int} {len t : Nat} (hd : decode μ.2.2.1 pc = .ok (.tableswitch dflt lo hi offs, len)) (hx : x.toInt < lo ∨ hi < x.toInt) (ht : am_jmp pc dflt = some t) : am_F X d μ pc ls (.int x :: st) M Q ↔ am_F X d μ t ls st M Q := am_F_nx hd (by simp [am_stp, am_pure, am_load, am_store, am_jump, hx, ht])
end AMS
theorem am_c_eq {x y : Int32} : (am_cnd .eq x y = true) ↔ x = y := by simp [am_cnd]
theorem am_c_ne {x y : Int32} : (am_cnd .ne x y = true) ↔ ¬ x = y := by simp [am_cnd]
theorem am_c_lt {x y : Int32} : (am_cnd .lt x y = true) ↔ x < y := by simp [am_cnd]
theorem am_c_ge {x y : Int32} : (am_cnd .ge x y = true) ↔ y ≤ x := by simp [am_cnd]
theorem am_c_gt {x y : Int32} : (am_cnd .gt x y = true) ↔ y < x := by simp [am_cnd]
theorem am_c_le {x y : Int32} : (am_cnd .le x y = true) ↔ x ≤ y := by simp [am_cnd]
/-- no long is held here -/
def am_nl (o : Option Value) : Prop := am_cat2 o = false
theorem am_ci {x : Int32} : am_nl (some (.int x)) := rfl
theorem am_cr {x : Nat} : am_nl (some (.ref x)) := rfl
theorem am_cn0 : am_nl none := rfl
