--! 98
/-! THE CONSTRUCTORS: rules -/
def zI (n : Nat) (I : Nat → Nat → Int32) : Prop := ∀ k j, n ≤ k → I k j = 0
def zL (n : Nat) (L : Nat → Nat → Int64) : Prop := ∀ k j, n ≤ k → L k j = 0
def zR (n : Nat) (R : Nat → Nat → Option Nat) : Prop := ∀ k j, n ≤ k → R k j = none
section WA
variable {X : am_X} {d : Nat} {μ : am_MM} {pc : Nat} {ls : am_LS} {st : List Value} {Q : Option Value → am_M → Prop} {n m : Nat} {I : Nat → Nat → Int32} {L : Nat → Nat → Int64} {R : Nat → Nat → Option Nat} {k j ix N : Nat}
theorem am_sRR {a b : Nat} : am_sum [.ref a, .ref b] ≤ 8 := Nat.le_of_ble_eq_true rfl
theorem zI.le (h : zI n I) (hm : n ≤ m) : zI m I := fun k j hk => h k j (Nat.le_trans hm hk)
theorem zL.le (h : zL n L) (hm : n ≤ m) : zL m L := fun k j hk => h k j (Nat.le_trans hm hk)
theorem zR.le (h : zR n R) (hm : n ≤ m) : zR m R := fun k j hk => h k j (Nat.le_trans hm hk)
theorem z_u {α : Type} {H : Nat → Nat → α} {x z : α} (hk : k < n) : (∀ a b, n ≤ a → am_u H k j x a b = z) ↔ ∀ a b, n ≤ a → H a b = z :=
  ⟨fun h a b hab => by rw [← h a b hab, am_u_n1 (by omega)], fun h a b hab => by rw [am_u_n1 (by omega)]; exact h a b hab⟩
theorem zI_u {x : Int32} (hk : k < n) : zI n (am_u I k j x) ↔ zI n I := z_u hk
theorem zL_u {x : Int64} (hk : k < n) : zL n (am_u L k j x) ↔ zL n L := z_u hk
theorem zR_u {x : Option Nat} (hk : k < n) : zR n (am_u R k j x) ↔ zR n R := z_u hk
theorem zR_w {f : Nat → Option Nat} (hk : k < n) : zR n (am_w R k f) ↔ zR n R :=
  ⟨fun h a b hab => by rw [← h a b hab, am_w_ne (by omega)], fun h a b hab => by rw [am_w_ne (by omega)]; exact h a b hab⟩
theorem am_mk (hI : zI n I) (hL : zL n L) (hR : zR n R) : am_make (n, I, L, R) = (n + 1, I, L, R) := by
  have w : ∀ {α : Type} {H : Nat → Nat → α} {z : α}, (∀ j, H n j = z) → am_w H n (fun _ => z) = H := by
    intro α H z h
    funext a b
    unfold am_w
    split
    · next e => rw [e]; exact (h b).symm
    · rfl
  rw [am_make_eq, w (fun j => hI n j (Nat.le_refl _)), w (fun j => hL n j (Nat.le_refl _)), w (fun j => hR n j (Nat.le_refl _))]
theorem am_mny (hI : zI n I) (hL : zL n L) (hR : zR n R) : am_many (n, I, L, R) N = (n + 1 + N, I, L, am_w R n (fun b => if b < N then some (n + 1 + b) else none)) := by
  have e1 : (fun a b => if n ≤ a ∧ a < n + 1 + N then 0 else I a b) = I := by
    funext a b
    split
    · next e => exact (hI a b e.1).symm
    · rfl
  have e2 : (fun a b => if n ≤ a ∧ a < n + 1 + N then 0 else L a b) = L := by
    funext a b
    split
    · next e => exact (hL a b e.1).symm
    · rfl
  have e3 : (fun a b => if a = n then (if b < N then some (n + 1 + b) else none) else if n ≤ a ∧ a < n + 1 + N then none else R a b) = am_w R n (fun b => if b < N then some (n + 1 + b) else none) := by
    funext a b
    unfold am_w
    by_cases h : a = n
    · rw [if_pos h, if_pos h]
    · rw [if_neg h, if_neg h]
      split
      · next e => exact (hR a b e.1).symm
      · rfl
  show (n + 1 + N, (fun a b => if n ≤ a ∧ a < n + 1 + N then 0 else I a b), (fun a b => if n ≤ a ∧ a < n + 1 + N then 0 else L a b), (fun a b => if a = n then (if b < N then some (n + 1 + b) else none) else if n ≤ a ∧ a < n + 1 + N then none else R a b)) = _
  rw [e1, e2, e3]
theorem am_r_newT {x : Int32} {ty : ArrayType} (hd : decode μ.2.2.1 pc = .ok (.newarray ty, 2)) {kd : Nat} (hk : (newarray.typeOf ty = .int ∧ kd = 20) ∨ (newarray.typeOf ty = .byte ∧ kd = 21) ∨ (newarray.typeOf ty = .boolean ∧ kd = 22) ∨ (newarray.typeOf ty = .long ∧ kd = 23)) (hn : n + 1 ≤ 1000) (hs : am_SH n = (kd, j)) (hx : x = nI j) : am_E X d μ pc ls (.int x :: st) (n, I, L, R) Q ↔ am_E X d μ (pc + 2) ls (.ref n :: st) (am_make (n, I, L, R)) Q := by
  refine am_E_nx hd ?_
  subst hx
  have hj := am_shle' n
  rw [hs] at hj
  have hj : j ≤ 2720 := hj
  have e2 : (nI j).toNatClampNeg = j := nI_clamp (by omega)
  have e3 : ¬ nI j < 0 := nI_pos (by omega)
  have hw : am_write μ (.newarray ty) 2 (.int (nI j) :: st) (n, I, L, R) = some (.ref n :: st, am_make (n, I, L, R)) := by
    simp only [am_write]
    rw [if_pos ⟨e3, by rw [hs]; exact e2, by rw [hs]; show j ≤ 100000; omega, by rw [hs]; exact hk⟩]
  simp [am_stp, am_pure, am_load, am_store, am_jump, am_read, hw, am_make, hn]
theorem am_r_anew {x : Int32} (hd : decode μ.2.2.1 pc = .ok (.anewarray 9, 3)) (hc : μ.1 = 6) (hn : n + 1 ≤ 1000) (hs : am_SH n = (24, j)) (hx : x = nI j) : am_E X d μ pc ls (.int x :: st) (n, I, L, R) Q ↔ am_E X d μ (pc + 3) ls (.ref n :: st) (am_make (n, I, L, R)) Q := by
  refine am_E_nx hd ?_
  subst hx
  have hj := am_shle' n
  rw [hs] at hj
  have hj : j ≤ 2720 := hj
  have e2 : (nI j).toNatClampNeg = j := nI_clamp (by omega)
  have e3 : ¬ nI j < 0 := nI_pos (by omega)
  have hw : am_write μ (.anewarray 9) 3 (.int (nI j) :: st) (n, I, L, R) = some (.ref n :: st, am_make (n, I, L, R)) := by
    simp only [am_write]
    rw [if_pos ⟨hc, trivial, e3, by rw [hs]; exact e2, by rw [hs]; show j ≤ 100000; omega, by rw [hs]⟩]
  simp [am_stp, am_pure, am_load, am_store, am_jump, am_read, hw, am_make, hn]
theorem am_r_multi {q : Nat} (hd : decode μ.2.2.1 pc = .ok (.multianewarray ix 2, 4)) (hc : (μ.1 = 4 ∧ ix = 11) ∨ (μ.1 = 2 ∧ ix = 24)) (hn : n + 1 + N ≤ 1000) (hs : am_SH n = (25, N)) (hq : q ≤ 1000) (hr : (List.range N).all (fun j => am_SH (n + 1 + j) == (20, q)) = true) : am_E X d μ pc ls (.int (nI q) :: .int (nI N) :: st) (n, I, L, R) Q ↔ am_E X d μ (pc + 4) ls (.ref n :: st) (am_many (n, I, L, R) N) Q := by
  refine am_E_nx hd ?_
  have e1 : (nI q).toNatClampNeg = q := nI_clamp (by omega)
  have e2 : (nI N).toNatClampNeg = N := nI_clamp (by omega)
  have f1 : ¬ nI q < 0 := nI_pos (by omega)
  have f2 : ¬ nI N < 0 := nI_pos (by omega)
  have hw : am_write μ (.multianewarray ix 2) 4 (.int (nI q) :: .int (nI N) :: st) (n, I, L, R) = some (.ref n :: st, am_many (n, I, L, R) N) := by
    simp only [am_write]
    rw [if_pos ⟨trivial, hc, f2, f1, by rw [hs], by rw [hs]; exact e2, by rw [hs]; show N ≤ 1000; omega, by rw [e1]; exact hq, by rw [hs, e1]; exact hr⟩]
    rw [hs]
  simp [am_stp, am_pure, am_load, am_store, am_jump, am_read, hw, am_many, hn]
theorem rX10_init_86 {l0 : Option Value} {a : Nat} (hst : am_sum st ≤ 8) : am_E X (d + 1) mX10_init 86 [l0] (.ref a :: st) (n, I, L, R) Q ↔ am_E X d mX1_init 0 [some (.ref a)] [] (n, I, L, R) (fun v M' => am_E X (d + 1) mX10_init 89 [l0] (v.toList ++ st) M' Q) := am_r_spec (μ := mX10_init) (as := []) dX10_init_86 lk_10_51 (Nat.not_lt.mpr (Nat.le_of_ble_eq_true rfl)) hst
theorem rX9_init_9 {l0 : Option Value} {a : Nat} (hst : am_sum st ≤ 8) : am_E X (d + 1) mX9_init 9 [l0] (.ref a :: st) (n, I, L, R) Q ↔ am_E X d mX11_init 0 [some (.ref a), none, none, none, none, none] [] (n, I, L, R) (fun v M' => am_E X (d + 1) mX9_init 12 [l0] (v.toList ++ st) M' Q) := am_r_sp2 (μ := mX9_init) (as := []) dX9_init_9 lk_9_11 (Nat.not_lt.mpr (Nat.le_of_ble_eq_true rfl)) hst
theorem rX9_init_56 {l0 : Option Value} {a : Nat} (hst : am_sum st ≤ 8) : am_E X (d + 1) mX9_init 56 [l0] (.ref a :: st) (n, I, L, R) Q ↔ am_E X d mX10_init 0 [some (.ref a)] [] (n, I, L, R) (fun v M' => am_E X (d + 1) mX9_init 59 [l0] (v.toList ++ st) M' Q) := am_r_sp2 (μ := mX9_init) (as := []) dX9_init_56 lk_9_41 (Nat.not_lt.mpr (Nat.le_of_ble_eq_true rfl)) hst
theorem rX12_init_28 {l0 : Option Value} {a : Nat} (hst : am_sum st ≤ 8) : am_E X (d + 1) mX12_init 28 [l0] (.ref a :: st) (n, I, L, R) Q ↔ am_E X d mX10_init 0 [some (.ref a)] [] (n, I, L, R) (fun v M' => am_E X (d + 1) mX12_init 31 [l0] (v.toList ++ st) M' Q) := am_r_sp2 (μ := mX12_init) (as := []) dX12_init_28 lk_12_22 (Nat.not_lt.mpr (Nat.le_of_ble_eq_true rfl)) hst
theorem rX12_init_39 {l0 : Option Value} {a : Nat} (hst : am_sum st ≤ 8) : am_E X (d + 1) mX12_init 39 [l0] (.ref a :: st) (n, I, L, R) Q ↔ am_E X d mX9_init 0 [some (.ref a)] [] (n, I, L, R) (fun v M' => am_E X (d + 1) mX12_init 42 [l0] (v.toList ++ st) M' Q) := am_r_spec (μ := mX12_init) (as := []) dX12_init_39 lk_12_29 (Nat.not_lt.mpr (Nat.le_of_ble_eq_true rfl)) hst
theorem rX12_init_54 {l0 : Option Value} {a a0 : Nat} (hst : am_sum st ≤ 8) : am_E X (d + 1) mX12_init 54 [l0] (.ref a0 :: .ref a :: st) (n, I, L, R) Q ↔ am_E X d mX0_init 0 [some (.ref a), some (.ref a0)] [] (n, I, L, R) (fun v M' => am_E X (d + 1) mX12_init 57 [l0] (v.toList ++ st) M' Q) := am_r_sp2 (μ := mX12_init) (as := [.ref a0]) dX12_init_54 lk_12_36 (Nat.not_lt.mpr (Nat.le_of_ble_eq_true rfl)) hst
theorem rX12_init_65 {l0 : Option Value} {a : Nat} (hst : am_sum st ≤ 8) : am_E X (d + 1) mX12_init 65 [l0] (.ref a :: st) (n, I, L, R) Q ↔ am_E X d mX3_init 0 [some (.ref a)] [] (n, I, L, R) (fun v M' => am_E X (d + 1) mX12_init 68 [l0] (v.toList ++ st) M' Q) := am_r_spec (μ := mX12_init) (as := []) dX12_init_65 lk_12_45 (Nat.not_lt.mpr (Nat.le_of_ble_eq_true rfl)) hst
theorem rX12_init_76 {l0 : Option Value} {a : Nat} (hst : am_sum st ≤ 8) : am_E X (d + 1) mX12_init 76 [l0] (.ref a :: st) (n, I, L, R) Q ↔ am_E X d mX6_init 0 [some (.ref a)] [] (n, I, L, R) (fun v M' => am_E X (d + 1) mX12_init 79 [l0] (v.toList ++ st) M' Q) := am_r_spec (μ := mX12_init) (as := []) dX12_init_76 lk_12_52 (Nat.not_lt.mpr (Nat.le_of_ble_eq_true rfl)) hst
theorem rX12_init_95 {l0 : Option Value} {a a0 a1 : Nat} (hst : am_sum st ≤ 8) : am_E X (d + 1) mX12_init 95 [l0] (.ref a1 :: .ref a0 :: .ref a :: st) (n, I, L, R) Q ↔ am_E X d mX7_init 0 [some (.ref a), some (.ref a0), some (.ref a1)] [] (n, I, L, R) (fun v M' => am_E X (d + 1) mX12_init 98 [l0] (v.toList ++ st) M' Q) := am_r_sp2 (μ := mX12_init) (as := [.ref a0, .ref a1]) dX12_init_95 lk_12_59 (Nat.not_lt.mpr (Nat.le_of_ble_eq_true rfl)) hst
theorem rX12_init_114 {l0 : Option Value} {a a0 a1 : Nat} (hst : am_sum st ≤ 8) : am_E X (d + 1) mX12_init 114 [l0] (.ref a1 :: .ref a0 :: .ref a :: st) (n, I, L, R) Q ↔ am_E X d mX4_init 0 [some (.ref a), some (.ref a0), some (.ref a1)] [] (n, I, L, R) (fun v M' => am_E X (d + 1) mX12_init 117 [l0] (v.toList ++ st) M' Q) := am_r_sp2 (μ := mX12_init) (as := [.ref a0, .ref a1]) dX12_init_114 lk_12_68 (Nat.not_lt.mpr (Nat.le_of_ble_eq_true rfl)) hst
theorem rX12_init_133 {l0 : Option Value} {a a0 a1 : Nat} (hst : am_sum st ≤ 8) : am_E X (d + 1) mX12_init 133 [l0] (.ref a1 :: .ref a0 :: .ref a :: st) (n, I, L, R) Q ↔ am_E X d mX5_init 0 [some (.ref a), some (.ref a0), some (.ref a1)] [] (n, I, L, R) (fun v M' => am_E X (d + 1) mX12_init 136 [l0] (v.toList ++ st) M' Q) := am_r_sp2 (μ := mX12_init) (as := [.ref a0, .ref a1]) dX12_init_133 lk_12_75 (Nat.not_lt.mpr (Nat.le_of_ble_eq_true rfl)) hst
theorem rX12_init_148 {l0 : Option Value} {a a0 : Nat} (hst : am_sum st ≤ 8) : am_E X (d + 1) mX12_init 148 [l0] (.ref a0 :: .ref a :: st) (n, I, L, R) Q ↔ am_E X d mX2_init 0 [some (.ref a), some (.ref a0)] [] (n, I, L, R) (fun v M' => am_E X (d + 1) mX12_init 151 [l0] (v.toList ++ st) M' Q) := am_r_sp2 (μ := mX12_init) (as := [.ref a0]) dX12_init_148 lk_12_82 (Nat.not_lt.mpr (Nat.le_of_ble_eq_true rfl)) hst
theorem rX11_init_61 {l0 l1 l2 l3 l4 l5 : Option Value} (hst : am_sum st ≤ 8) : am_E X (d + 1) mX11_init 61 [l0, l1, l2, l3, l4, l5] (.ref 1000000 :: st) (n, I, L, R) Q ↔ am_E X d mJ0_length_8abf5 0 [some (.ref 1000000)] [] (n, I, L, R) (fun v M' => am_E X (d + 1) mX11_init 64 [l0, l1, l2, l3, l4, l5] (v.toList ++ st) M' Q) := sr_virt (μ := mX11_init) (a := 1000000) (as := []) dX11_init_61 lk_11_39 (Nat.not_lt.mpr (Nat.le_of_ble_eq_true rfl)) hst rfl rfl
theorem rX11_init_77 {l0 l1 l2 l3 l4 l5 : Option Value} {a : Int32} (hst : am_sum st ≤ 8) : am_E X (d + 1) mX11_init 77 [l0, l1, l2, l3, l4, l5] (.int a :: .ref 1000000 :: st) (n, I, L, R) Q ↔ am_E X d mJ0_charAt_5068e 0 [some (.ref 1000000), some (.int a)] [] (n, I, L, R) (fun v M' => am_E X (d + 1) mX11_init 80 [l0, l1, l2, l3, l4, l5] (v.toList ++ st) M' Q) := sr_virt (μ := mX11_init) (a := 1000000) (as := [.int a]) dX11_init_77 lk_11_44 (Nat.not_lt.mpr (Nat.le_of_ble_eq_true rfl)) hst rfl rfl
theorem rX9_init_18 {l0 : Option Value} {x : Int32} (hn : n + 1 ≤ 1000) (hs : am_SH n = (23, j)) (hx : x = nI j) : am_E X d mX9_init 18 [l0] (.int x :: st) (n, I, L, R) Q ↔ am_E X d mX9_init 20 [l0] (.ref n :: st) (am_make (n, I, L, R)) Q := am_r_newT (μ := mX9_init) dX9_init_18 (Or.inr (Or.inr (Or.inr ⟨rfl, rfl⟩))) hn hs hx
theorem rX11_init_7 {l0 l1 l2 l3 l4 l5 : Option Value} {x : Int32} (hn : n + 1 ≤ 1000) (hs : am_SH n = (23, j)) (hx : x = nI j) : am_E X d mX11_init 7 [l0, l1, l2, l3, l4, l5] (.int x :: st) (n, I, L, R) Q ↔ am_E X d mX11_init 9 [l0, l1, l2, l3, l4, l5] (.ref n :: st) (am_make (n, I, L, R)) Q := am_r_newT (μ := mX11_init) dX11_init_7 (Or.inr (Or.inr (Or.inr ⟨rfl, rfl⟩))) hn hs hx
theorem rX11_init_14 {l0 l1 l2 l3 l4 l5 : Option Value} {x : Int32} (hn : n + 1 ≤ 1000) (hs : am_SH n = (21, j)) (hx : x = nI j) : am_E X d mX11_init 14 [l0, l1, l2, l3, l4, l5] (.int x :: st) (n, I, L, R) Q ↔ am_E X d mX11_init 16 [l0, l1, l2, l3, l4, l5] (.ref n :: st) (am_make (n, I, L, R)) Q := am_r_newT (μ := mX11_init) dX11_init_14 (Or.inr (Or.inl ⟨rfl, rfl⟩)) hn hs hx
theorem rX12_init_8 {l0 : Option Value} {x : Int32} (hn : n + 1 ≤ 1000) (hs : am_SH n = (21, j)) (hx : x = nI j) : am_E X d mX12_init 8 [l0] (.int x :: st) (n, I, L, R) Q ↔ am_E X d mX12_init 10 [l0] (.ref n :: st) (am_make (n, I, L, R)) Q := am_r_newT (μ := mX12_init) dX12_init_8 (Or.inr (Or.inl ⟨rfl, rfl⟩)) hn hs hx
theorem rX13_init_8 {l0 : Option Value} {x : Int32} (hn : n + 1 ≤ 1000) (hs : am_SH n = (21, j)) (hx : x = nI j) : am_E X d mX13_init 8 [l0] (.int x :: st) (n, I, L, R) Q ↔ am_E X d mX13_init 10 [l0] (.ref n :: st) (am_make (n, I, L, R)) Q := am_r_newT (μ := mX13_init) dX13_init_8 (Or.inr (Or.inl ⟨rfl, rfl⟩)) hn hs hx
theorem rX13_init_17 {l0 : Option Value} {x : Int32} (hn : n + 1 ≤ 1000) (hs : am_SH n = (21, j)) (hx : x = nI j) : am_E X d mX13_init 17 [l0] (.int x :: st) (n, I, L, R) Q ↔ am_E X d mX13_init 19 [l0] (.ref n :: st) (am_make (n, I, L, R)) Q := am_r_newT (μ := mX13_init) dX13_init_17 (Or.inr (Or.inl ⟨rfl, rfl⟩)) hn hs hx
theorem rX13_init_53 {l0 : Option Value} {x : Int32} (hn : n + 1 ≤ 1000) (hs : am_SH n = (23, j)) (hx : x = nI j) : am_E X d mX13_init 53 [l0] (.int x :: st) (n, I, L, R) Q ↔ am_E X d mX13_init 55 [l0] (.ref n :: st) (am_make (n, I, L, R)) Q := am_r_newT (μ := mX13_init) dX13_init_53 (Or.inr (Or.inr (Or.inr ⟨rfl, rfl⟩))) hn hs hx
theorem rX13_init_61 {l0 : Option Value} {x : Int32} (hn : n + 1 ≤ 1000) (hs : am_SH n = (23, j)) (hx : x = nI j) : am_E X d mX13_init 61 [l0] (.int x :: st) (n, I, L, R) Q ↔ am_E X d mX13_init 63 [l0] (.ref n :: st) (am_make (n, I, L, R)) Q := am_r_newT (μ := mX13_init) dX13_init_61 (Or.inr (Or.inr (Or.inr ⟨rfl, rfl⟩))) hn hs hx
theorem rX13_init_74 {l0 : Option Value} {x : Int32} (hn : n + 1 ≤ 1000) (hs : am_SH n = (23, j)) (hx : x = nI j) : am_E X d mX13_init 74 [l0] (.int x :: st) (n, I, L, R) Q ↔ am_E X d mX13_init 76 [l0] (.ref n :: st) (am_make (n, I, L, R)) Q := am_r_newT (μ := mX13_init) dX13_init_74 (Or.inr (Or.inr (Or.inr ⟨rfl, rfl⟩))) hn hs hx
theorem rX13_init_198 {l0 : Option Value} {x : Int32} (hn : n + 1 ≤ 1000) (hs : am_SH n = (22, j)) (hx : x = nI j) : am_E X d mX13_init 198 [l0] (.int x :: st) (n, I, L, R) Q ↔ am_E X d mX13_init 200 [l0] (.ref n :: st) (am_make (n, I, L, R)) Q := am_r_newT (μ := mX13_init) dX13_init_198 (Or.inr (Or.inr (Or.inl ⟨rfl, rfl⟩))) hn hs hx
theorem rX13_init_326 {l0 : Option Value} {x : Int32} (hn : n + 1 ≤ 1000) (hs : am_SH n = (22, j)) (hx : x = nI j) : am_E X d mX13_init 326 [l0] (.int x :: st) (n, I, L, R) Q ↔ am_E X d mX13_init 328 [l0] (.ref n :: st) (am_make (n, I, L, R)) Q := am_r_newT (μ := mX13_init) dX13_init_326 (Or.inr (Or.inr (Or.inl ⟨rfl, rfl⟩))) hn hs hx
theorem rX13_init_373 {l0 : Option Value} {x : Int32} (hn : n + 1 ≤ 1000) (hs : am_SH n = (22, j)) (hx : x = nI j) : am_E X d mX13_init 373 [l0] (.int x :: st) (n, I, L, R) Q ↔ am_E X d mX13_init 375 [l0] (.ref n :: st) (am_make (n, I, L, R)) Q := am_r_newT (μ := mX13_init) dX13_init_373 (Or.inr (Or.inr (Or.inl ⟨rfl, rfl⟩))) hn hs hx
theorem rX6_init_7 {l0 : Option Value} {x : Int32} (hn : n + 1 ≤ 1000) (hs : am_SH n = (24, j)) (hx : x = nI j) : am_E X d mX6_init 7 [l0] (.int x :: st) (n, I, L, R) Q ↔ am_E X d mX6_init 10 [l0] (.ref n :: st) (am_make (n, I, L, R)) Q := am_r_anew (μ := mX6_init) dX6_init_7 rfl hn hs hx
theorem rX6_init_15 {l0 : Option Value} {x : Int32} (hn : n + 1 ≤ 1000) (hs : am_SH n = (24, j)) (hx : x = nI j) : am_E X d mX6_init 15 [l0] (.int x :: st) (n, I, L, R) Q ↔ am_E X d mX6_init 18 [l0] (.ref n :: st) (am_make (n, I, L, R)) Q := am_r_anew (μ := mX6_init) dX6_init_15 rfl hn hs hx
theorem rX2_init_39 {l0 l1 : Option Value} {q : Nat} (hn : n + 1 + N ≤ 1000) (hs : am_SH n = (25, N)) (hq : q ≤ 1000) (hr : (List.range N).all (fun j => am_SH (n + 1 + j) == (20, q)) = true) : am_E X d mX2_init 39 [l0, l1] (.int (nI q) :: .int (nI N) :: st) (n, I, L, R) Q ↔ am_E X d mX2_init 43 [l0, l1] (.ref n :: st) (am_many (n, I, L, R) N) Q := am_r_multi (μ := mX2_init) dX2_init_39 (Or.inr ⟨rfl, rfl⟩) hn hs hq hr
theorem rX4_init_9 {l0 l1 l2 : Option Value} {q : Nat} (hn : n + 1 + N ≤ 1000) (hs : am_SH n = (25, N)) (hq : q ≤ 1000) (hr : (List.range N).all (fun j => am_SH (n + 1 + j) == (20, q)) = true) : am_E X d mX4_init 9 [l0, l1, l2] (.int (nI q) :: .int (nI N) :: st) (n, I, L, R) Q ↔ am_E X d mX4_init 13 [l0, l1, l2] (.ref n :: st) (am_many (n, I, L, R) N) Q := am_r_multi (μ := mX4_init) dX4_init_9 (Or.inl ⟨rfl, rfl⟩) hn hs hq hr
end WA
