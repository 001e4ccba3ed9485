/-! RULES of am_F for the rest: special calls, Strings, the script, other arrays -/
section AMX
variable {X : am_X} {d : Nat} {pc : Nat} {ls : am_LS} {st : List Value} {M : am_M} {Q : Option Value → am_M → Prop} {n : Nat} {I : Nat → Nat → Int32} {L : Nat → Nat → Int64} {R : Nat → Nat → Option Nat}
theorem am_r_spec {μ ν : am_MM} {pc ix a : Nat} {ls : am_LS} {st as : List Value} (hd : decode μ.2.2.1 pc = .ok (.invokespecial ix, 3)) (hl : am_lk μ.1 ix = some (3, as.length, ν)) (hmx : ¬ ν.2.2.2.1 < (am_args (.ref a :: as)).length) (hst : am_sum st ≤ 8) : am_F X (d + 1) μ pc ls (as.reverse ++ .ref a :: st) (n, I, L, R) Q ↔ am_F X d ν 0 (am_en (.ref a :: as) ν.2.2.2.1) [] (n, I, L, R) (fun v M' => am_F X (d + 1) μ (pc + 3) ls (v.toList ++ st) M' Q) := by
  refine am_F_call hd ?_ hmx
  have e1 : List.drop as.length (as.reverse ++ Value.ref a :: st) = .ref a :: st := by
    have := List.drop_left (l₁ := as.reverse) (l₂ := Value.ref a :: st)
    rwa [List.length_reverse] at this
  have e2 : List.take as.length (as.reverse ++ Value.ref a :: st) = as.reverse := by
    have := List.take_left (l₁ := as.reverse) (l₂ := Value.ref a :: st)
    rwa [List.length_reverse] at this
  have e5 : am_inv μ (.invokespecial ix) 3 (as.reverse ++ .ref a :: st) (n, I, L, R) = some (.inl (ν, .ref a :: as, st)) := by
    simp only [am_inv, hl, e1, e2, List.length_reverse, List.reverse_reverse]
    rw [if_pos ⟨trivial, hst⟩]
  simp [am_stp, am_pure, am_load, am_store, am_jump, am_read, am_write, am_ret, e5]
variable {μ : am_MM} {k i j ix N : Nat}
theorem srF_gets (hd : decode μ.2.2.1 pc = .ok (.getstatic 38, 3)) (hc : μ.1 = 20) : am_F X d μ pc ls st M Q ↔ am_F X d μ (pc + 3) ls (.int 1 :: st) M Q := am_F_nx hd (by simp [am_stp, am_pure, am_load, am_store, am_jump, am_read, hc])
theorem srF_getf (hd : decode μ.2.2.1 pc = .ok (.getstatic 1053, 3)) (hc : μ.1 = 20) : am_F X d μ pc ls st M Q ↔ am_F X d μ (pc + 3) ls ((if X.2 5000 = 0 then .null else .ref 3000000) :: st) M Q := am_F_nx hd (by simp [am_stp, am_pure, am_load, am_store, am_jump, am_read, hc])
theorem srF_f9 (hd : decode μ.2.2.1 pc = .ok (.getfield 9, 3)) (hc : μ.1 = 20) (hk : am_str k = some i) : am_F X d μ pc ls (.ref k :: st) M Q ↔ am_F X d μ (pc + 3) ls (.ref (k + 1) :: st) M Q := am_F_nx hd (by simp [am_stp, am_pure, am_load, am_store, am_jump, am_read, hc, hk])
theorem srF_f15 (hd : decode μ.2.2.1 pc = .ok (.getfield 15, 3)) (hc : μ.1 = 20) (hk : am_str k = some i) : am_F X d μ pc ls (.ref k :: st) M Q ↔ am_F X d μ (pc + 3) ls (.int 0 :: st) M Q := am_F_nx hd (by simp [am_stp, am_pure, am_load, am_store, am_jump, am_read, hc, hk])
theorem srF_len (hd : decode μ.2.2.1 pc = .ok (.arraylength, 1)) (hc : μ.1 = 20 ∨ μ.1 = 21) (hk : am_val k = some i) : am_F X d μ pc ls (.ref k :: st) M Q ↔ am_F X d μ (pc + 1) ls (.int (nI (am_len.getD i 0)) :: st) M Q := am_F_nx hd (by
  have h30 : ¬ μ.1 = 30 := by omega
  simp [am_stp, am_pure, am_load, am_store, am_jump, am_read, hc, h30, hk, nI])
theorem am_len_le : ∀ i, i < 2 → am_len.getD i 0 ≤ 2720 := by decide
theorem srF_bal (hd : decode μ.2.2.1 pc = .ok (.baload, 1)) (hc : μ.1 = 21) (hk : am_val k = some i) (hi : i < 2) (hj : j < am_len.getD i 0) : am_F X d μ pc ls (.int (nI j) :: .ref k :: st) M Q ↔ am_F X d μ (pc + 1) ls (.int ((am_byt.getD i []).getD j 0) :: st) M Q := am_F_nx hd (by
  have h1 := am_len_le i hi
  have e1 := am_in_nI hj h1
  have e2 : (nI j).toNatClampNeg = j := nI_clamp (by omega)
  simp only [am_stp, am_pure, am_load, am_store, am_jump, am_read, hc, hk, e1, e2, if_true])
theorem srF_virt {ν : am_MM} {a : Nat} {as : List Value} (hd : decode μ.2.2.1 pc = .ok (.invokevirtual ix, 3)) (hl : am_lk μ.1 ix = some (0, as.length, ν)) (hmx : ¬ ν.2.2.2.1 < (am_args (.ref a :: as)).length) (hst : am_sum st ≤ 8) (hs : (am_str a).isSome = true) (ho : ν.2.1.cls = "java/lang/String") : am_F X (d + 1) μ pc ls (as.reverse ++ .ref a :: st) (n, I, L, R) Q ↔ am_F X d ν 0 (am_en (.ref a :: as) ν.2.2.2.1) [] (n, I, L, R) (fun v M' => am_F X (d + 1) μ (pc + 3) ls (v.toList ++ st) M' Q) := by
  refine am_F_call hd ?_ hmx
  have e1 : List.drop as.length (as.reverse ++ Value.ref a :: st) = .ref a :: st := by
    have := List.drop_left (l₁ := as.reverse) (l₂ := Value.ref a :: st)
    rwa [List.length_reverse] at this
  have e2 : List.take as.length (as.reverse ++ Value.ref a :: st) = as.reverse := by
    have := List.take_left (l₁ := as.reverse) (l₂ := Value.ref a :: st)
    rwa [List.length_reverse] at this
  have e5 : am_inv μ (.invokevirtual ix) 3 (as.reverse ++ .ref a :: st) (n, I, L, R) = some (.inl (ν, .ref a :: as, st)) := by
    simp only [am_inv, hl, e1, e2, List.length_reverse, List.reverse_reverse]
    rw [if_pos ⟨trivial, hst, Or.inr ⟨hs, ho⟩⟩]
  simp [am_stp, am_pure, am_load, am_store, am_jump, am_read, am_write, am_ret, e5]
theorem am_r_sp2 {ν : am_MM} {a : Nat} {as : List Value} (hd : decode μ.2.2.1 pc = .ok (.invokespecial ix, 3)) (hl : am_lk μ.1 ix = some (2, as.length, ν)) (hmx : ¬ ν.2.2.2.1 < (am_args (.ref a :: as)).length) (hst : am_sum st ≤ 8) : am_F X (d + 1) μ pc ls (as.reverse ++ .ref a :: st) (n, I, L, R) Q ↔ am_F X d ν 0 (am_en (.ref a :: as) ν.2.2.2.1) [] (n, I, L, R) (fun v M' => am_F X (d + 1) μ (pc + 3) ls (v.toList ++ st) M' Q) := by
  refine am_F_call hd ?_ hmx
  have e1 : List.drop as.length (as.reverse ++ Value.ref a :: st) = .ref a :: st := by
    have := List.drop_left (l₁ := as.reverse) (l₂ := Value.ref a :: st)
    rwa [List.length_reverse] at this
  have e2 : List.take as.length (as.reverse ++ Value.ref a :: st) = as.reverse := by
    have := List.take_left (l₁ := as.reverse) (l₂ := Value.ref a :: st)
    rwa [List.length_reverse] at this
  have e5 : am_inv μ (.invokespecial ix) 3 (as.reverse ++ .ref a :: st) (n, I, L, R) = some (.inl (ν, .ref a :: as, st)) := by
    simp only [am_inv, hl, e1, e2, List.length_reverse, List.reverse_reverse]
    rw [if_pos ⟨trivial, hst⟩]
  simp [am_stp, am_pure, am_load, am_store, am_jump, am_read, am_write, am_ret, e5]
theorem lwF_iald (hd : decode μ.2.2.1 pc = .ok (.iaload, 1)) (hc : μ.1 = 30) (hX : X.1 ≤ 3072) (hj : j < X.1) : am_F X d μ pc ls (.int (nI j) :: .ref 2000000 :: st) (n, I, L, R) Q ↔ am_F X d μ (pc + 1) ls (.int (X.2 j) :: st) (n, I, L, R) Q := by
  refine am_F_nx hd ?_
  have e1 : am_in (nI j) X.1 = true := by
    simp only [am_in, Bool.not_eq_true', Bool.or_eq_false_iff, decide_eq_false_iff_not]
    exact ⟨nI_pos (by omega), by rw [nI_clamp (by omega)]; omega⟩
  have e2 : (nI j).toNatClampNeg = j := nI_clamp (by omega)
  simp only [am_stp, am_pure, am_load, am_store, am_jump, am_read, hc, e1, e2, and_self, if_true]
theorem lwF_alen (hd : decode μ.2.2.1 pc = .ok (.arraylength, 1)) (hc : μ.1 = 30) : am_F X d μ pc ls (.ref 2000000 :: st) (n, I, L, R) Q ↔ am_F X d μ (pc + 1) ls (.int (nI X.1) :: st) (n, I, L, R) Q := by
  refine am_F_nx hd ?_
  simp only [am_stp, am_pure, am_load, am_store, am_jump, am_read, hc, if_true]
  rfl
theorem am_r_newT {x : Int32} {ty : ArrayType} (hd : decode μ.2.2.1 pc = .ok (.newarray ty, 2)) {kd : Nat} (hk : (newarray.typeOf ty = .int ∧ kd = 20) ∨ (newarray.typeOf ty = .byte ∧ kd = 21) ∨ (newarray.typeOf ty = .boolean ∧ kd = 22) ∨ (newarray.typeOf ty = .long ∧ kd = 23)) (hn : n + 1 ≤ 1003) (hs : am_SH n = (kd, j)) (hx : x = nI j) : am_F X d μ pc ls (.int x :: st) (n, I, L, R) Q ↔ am_F X d μ (pc + 2) ls (.ref n :: st) (am_make (n, I, L, R)) Q := by
  refine am_F_nx hd ?_
  subst hx
  have hj := am_shle' n
  rw [hs] at hj
  have hj : j ≤ 2720 := hj
  have e2 : (nI j).toNatClampNeg = j := nI_clamp (by omega)
  have e3 : ¬ nI j < 0 := nI_pos (by omega)
  have hw : am_write μ (.newarray ty) 2 (.int (nI j) :: st) (n, I, L, R) = some (.ref n :: st, am_make (n, I, L, R)) := by
    simp only [am_write]
    rw [if_pos ⟨e3, by rw [hs]; exact e2, by rw [hs]; show j ≤ 100000; omega, by rw [hs]; exact hk⟩]
  simp [am_stp, am_pure, am_load, am_store, am_jump, am_read, hw, am_make, hn]
theorem am_r_anew {x : Int32} (hd : decode μ.2.2.1 pc = .ok (.anewarray 9, 3)) (hc : μ.1 = 6) (hn : n + 1 ≤ 1003) (hs : am_SH n = (24, j)) (hx : x = nI j) : am_F X d μ pc ls (.int x :: st) (n, I, L, R) Q ↔ am_F X d μ (pc + 3) ls (.ref n :: st) (am_make (n, I, L, R)) Q := by
  refine am_F_nx hd ?_
  subst hx
  have hj := am_shle' n
  rw [hs] at hj
  have hj : j ≤ 2720 := hj
  have e2 : (nI j).toNatClampNeg = j := nI_clamp (by omega)
  have e3 : ¬ nI j < 0 := nI_pos (by omega)
  have hw : am_write μ (.anewarray 9) 3 (.int (nI j) :: st) (n, I, L, R) = some (.ref n :: st, am_make (n, I, L, R)) := by
    simp only [am_write]
    rw [if_pos ⟨hc, trivial, e3, by rw [hs]; exact e2, by rw [hs]; show j ≤ 100000; omega, by rw [hs]⟩]
  simp [am_stp, am_pure, am_load, am_store, am_jump, am_read, hw, am_make, hn]
theorem am_r_multi {q : Nat} (hd : decode μ.2.2.1 pc = .ok (.multianewarray ix 2, 4)) (hc : (μ.1 = 4 ∧ ix = 11) ∨ (μ.1 = 2 ∧ ix = 24)) (hn : n + 1 + N ≤ 1003) (hs : am_SH n = (25, N)) (hq : q ≤ 1003) (hr : (List.range N).all (fun j => am_SH (n + 1 + j) == (20, q)) = true) : am_F X d μ pc ls (.int (nI q) :: .int (nI N) :: st) (n, I, L, R) Q ↔ am_F X d μ (pc + 4) ls (.ref n :: st) (am_many (n, I, L, R) N) Q := by
  refine am_F_nx hd ?_
  have e1 : (nI q).toNatClampNeg = q := nI_clamp (by omega)
  have e2 : (nI N).toNatClampNeg = N := nI_clamp (by omega)
  have f1 : ¬ nI q < 0 := nI_pos (by omega)
  have f2 : ¬ nI N < 0 := nI_pos (by omega)
  have hw : am_write μ (.multianewarray ix 2) 4 (.int (nI q) :: .int (nI N) :: st) (n, I, L, R) = some (.ref n :: st, am_many (n, I, L, R) N) := by
    simp only [am_write]
    rw [if_pos ⟨trivial, hc, f2, f1, by rw [hs], by rw [hs]; exact e2, by rw [hs]; show N ≤ 1003; omega, by rw [e1]; exact hq, by rw [hs, e1]; exact hr⟩]
    rw [hs]
  simp [am_stp, am_pure, am_load, am_store, am_jump, am_read, hw, am_many, hn]
end AMX
