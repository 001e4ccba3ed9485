--! 98
/-! THE CONSTRUCTORS: rules -/
def zI (n : Nat) (I : Nat → Nat → Int32) : Prop := ∀ k j, n ≤ k → I k j = 0
def zL (n : Nat) (L : Nat → Nat → Int64) : Prop := ∀ k j, n ≤ k → L k j = 0
def zR (n : Nat) (R : Nat → Nat → Option Nat) : Prop := ∀ k j, n ≤ k → R k j = none
section WA
variable {X : am_X} {d : Nat} {μ : am_MM} {pc : Nat} {ls : am_LS} {st : List Value} {Q : Option Value → am_M → Prop} {n m : Nat} {I : Nat → Nat → Int32} {L : Nat → Nat → Int64} {R : Nat → Nat → Option Nat} {k j ix N : Nat}
theorem am_sRR {a b : Nat} : am_sum [.ref a, .ref b] ≤ 8 := Nat.le_of_ble_eq_true rfl
theorem zI.le (h : zI n I) (hm : n ≤ m) : zI m I := fun k j hk => h k j (Nat.le_trans hm hk)
theorem zL.le (h : zL n L) (hm : n ≤ m) : zL m L := fun k j hk => h k j (Nat.le_trans hm hk)
theorem zR.le (h : zR n R) (hm : n ≤ m) : zR m R := fun k j hk => h k j (Nat.le_trans hm hk)
theorem z_u {α : Type} {H : Nat → Nat → α} {x z : α} (hk : k < n) : (∀ a b, n ≤ a → am_u H k j x a b = z) ↔ ∀ a b, n ≤ a → H a b = z :=
  ⟨fun h a b hab => by rw [← h a b hab, am_u_n1 (by omega)], fun h a b hab => by rw [am_u_n1 (by omega)]; exact h a b hab⟩
theorem zI_u {x : Int32} (hk : k < n) : zI n (am_u I k j x) ↔ zI n I := z_u hk
theorem zL_u {x : Int64} (hk : k < n) : zL n (am_u L k j x) ↔ zL n L := z_u hk
theorem zR_u {x : Option Nat} (hk : k < n) : zR n (am_u R k j x) ↔ zR n R := z_u hk
theorem zR_w {f : Nat → Option Nat} (hk : k < n) : zR n (am_w R k f) ↔ zR n R :=
  ⟨fun h a b hab => by rw [← h a b hab, am_w_ne (by omega)], fun h a b hab => by rw [am_w_ne (by omega)]; exact h a b hab⟩
theorem am_mk (hI : zI n I) (hL : zL n L) (hR : zR n R) : am_make (n, I, L, R) = (n + 1, I, L, R) := by
  have w : ∀ {α : Type} {H : Nat → Nat → α} {z : α}, (∀ j, H n j = z) → am_w H n (fun _ => z) = H := by
    intro α H z h
    funext a b
    unfold am_w
    split
    · next e => rw [e]; exact (h b).symm
    · rfl
  rw [am_make_eq, w (fun j => hI n j (Nat.le_refl _)), w (fun j => hL n j (Nat.le_refl _)), w (fun j => hR n j (Nat.le_refl _))]
theorem am_mny (hI : zI n I) (hL : zL n L) (hR : zR n R) : am_many (n, I, L, R) N = (n + 1 + N, I, L, am_w R n (fun b => if b < N then some (n + 1 + b) else none)) := by
  have e1 : (fun a b => if n ≤ a ∧ a < n + 1 + N then 0 else I a b) = I := by
    funext a b
    split
    · next e => exact (hI a b e.1).symm
    · rfl
  have e2 : (fun a b => if n ≤ a ∧ a < n + 1 + N then 0 else L a b) = L := by
    funext a b
    split
    · next e => exact (hL a b e.1).symm
    · rfl
  have e3 : (fun a b => if a = n then (if b < N then some (n + 1 + b) else none) else if n ≤ a ∧ a < n + 1 + N then none else R a b) = am_w R n (fun b => if b < N then some (n + 1 + b) else none) := by
    funext a b
    unfold am_w
    by_cases h : a = n
    · rw [if_pos h, if_pos h]
    · rw [if_neg h, if_neg h]
      split
      · next e => exact (hR a b e.1).symm
      · rfl
  show (n + 1 + N, (fun a b => if n ≤ a ∧ a < n + 1 + N then 0 else I a b), (fun a b => if n ≤ a ∧ a < n + 1 + N then 0 else L a b), (fun a b => if a = n then (if b < N then some (n + 1 + b) else none) else if n ≤ a ∧ a < n + 1 + N then none else R a b)) = _
  rw [e1, e2, e3]
theorem rX10_init_86 {l0 : Option Value} {a : Nat} (hst : am_sum st ≤ 8) : am_E X (d + 1) mX10_init 86 [l0] (.ref a :: st) (n, I, L, R) Q ↔ am_E X d mX1_init 0 [some (.ref a)] [] (n, I, L, R) (fun v M' => am_E X (d + 1) mX10_init 89 [l0] (v.toList ++ st) M' Q) := am_q_spec (μ := mX10_init) (as := []) dX10_init_86 lk_10_51 (Nat.not_lt.mpr (Nat.le_of_ble_eq_true rfl)) hst
theorem rX9_init_56 {l0 : Option Value} {a : Nat} (hst : am_sum st ≤ 8) : am_E X (d + 1) mX9_init 56 [l0] (.ref a :: st) (n, I, L, R) Q ↔ am_E X d mX10_init 0 [some (.ref a)] [] (n, I, L, R) (fun v M' => am_E X (d + 1) mX9_init 59 [l0] (v.toList ++ st) M' Q) := am_q_sp2 (μ := mX9_init) (as := []) dX9_init_56 lk_9_41 (Nat.not_lt.mpr (Nat.le_of_ble_eq_true rfl)) hst
theorem rX12_init_54 {l0 : Option Value} {a a0 : Nat} (hst : am_sum st ≤ 8) : am_E X (d + 1) mX12_init 54 [l0] (.ref a0 :: .ref a :: st) (n, I, L, R) Q ↔ am_E X d mX0_init 0 [some (.ref a), some (.ref a0)] [] (n, I, L, R) (fun v M' => am_E X (d + 1) mX12_init 57 [l0] (v.toList ++ st) M' Q) := am_q_sp2 (μ := mX12_init) (as := [.ref a0]) dX12_init_54 lk_12_36 (Nat.not_lt.mpr (Nat.le_of_ble_eq_true rfl)) hst
theorem rX12_init_65 {l0 : Option Value} {a : Nat} (hst : am_sum st ≤ 8) : am_E X (d + 1) mX12_init 65 [l0] (.ref a :: st) (n, I, L, R) Q ↔ am_E X d mX3_init 0 [some (.ref a)] [] (n, I, L, R) (fun v M' => am_E X (d + 1) mX12_init 68 [l0] (v.toList ++ st) M' Q) := am_q_spec (μ := mX12_init) (as := []) dX12_init_65 lk_12_45 (Nat.not_lt.mpr (Nat.le_of_ble_eq_true rfl)) hst
theorem rX12_init_76 {l0 : Option Value} {a : Nat} (hst : am_sum st ≤ 8) : am_E X (d + 1) mX12_init 76 [l0] (.ref a :: st) (n, I, L, R) Q ↔ am_E X d mX6_init 0 [some (.ref a)] [] (n, I, L, R) (fun v M' => am_E X (d + 1) mX12_init 79 [l0] (v.toList ++ st) M' Q) := am_q_spec (μ := mX12_init) (as := []) dX12_init_76 lk_12_52 (Nat.not_lt.mpr (Nat.le_of_ble_eq_true rfl)) hst
theorem rX12_init_95 {l0 : Option Value} {a a0 a1 : Nat} (hst : am_sum st ≤ 8) : am_E X (d + 1) mX12_init 95 [l0] (.ref a1 :: .ref a0 :: .ref a :: st) (n, I, L, R) Q ↔ am_E X d mX7_init 0 [some (.ref a), some (.ref a0), some (.ref a1)] [] (n, I, L, R) (fun v M' => am_E X (d + 1) mX12_init 98 [l0] (v.toList ++ st) M' Q) := am_q_sp2 (μ := mX12_init) (as := [.ref a0, .ref a1]) dX12_init_95 lk_12_59 (Nat.not_lt.mpr (Nat.le_of_ble_eq_true rfl)) hst
theorem rX12_init_114 {l0 : Option Value} {a a0 a1 : Nat} (hst : am_sum st ≤ 8) : am_E X (d + 1) mX12_init 114 [l0] (.ref a1 :: .ref a0 :: .ref a :: st) (n, I, L, R) Q ↔ am_E X d mX4_init 0 [some (.ref a), some (.ref a0), some (.ref a1)] [] (n, I, L, R) (fun v M' => am_E X (d + 1) mX12_init 117 [l0] (v.toList ++ st) M' Q) := am_q_sp2 (μ := mX12_init) (as := [.ref a0, .ref a1]) dX12_init_114 lk_12_68 (Nat.not_lt.mpr (Nat.le_of_ble_eq_true rfl)) hst
theorem rX12_init_133 {l0 : Option Value} {a a0 a1 : Nat} (hst : am_sum st ≤ 8) : am_E X (d + 1) mX12_init 133 [l0] (.ref a1 :: .ref a0 :: .ref a :: st) (n, I, L, R) Q ↔ am_E X d mX5_init 0 [some (.ref a), some (.ref a0), some (.ref a1)] [] (n, I, L, R) (fun v M' => am_E X (d + 1) mX12_init 136 [l0] (v.toList ++ st) M' Q) := am_q_sp2 (μ := mX12_init) (as := [.ref a0, .ref a1]) dX12_init_133 lk_12_75 (Nat.not_lt.mpr (Nat.le_of_ble_eq_true rfl)) hst
theorem rX12_init_148 {l0 : Option Value} {a a0 : Nat} (hst : am_sum st ≤ 8) : am_E X (d + 1) mX12_init 148 [l0] (.ref a0 :: .ref a :: st) (n, I, L, R) Q ↔ am_E X d mX2_init 0 [some (.ref a), some (.ref a0)] [] (n, I, L, R) (fun v M' => am_E X (d + 1) mX12_init 151 [l0] (v.toList ++ st) M' Q) := am_q_sp2 (μ := mX12_init) (as := [.ref a0]) dX12_init_148 lk_12_82 (Nat.not_lt.mpr (Nat.le_of_ble_eq_true rfl)) hst
theorem fL_law_4 {l0 l1 l2 l3 : Option Value} {a : Nat} (hst : am_sum st ≤ 8) : am_F X (d + 1) mL_law 4 [l0, l1, l2, l3] (.ref a :: st) (n, I, L, R) Q ↔ am_F X d mX12_init 0 [some (.ref a)] [] (n, I, L, R) (fun v M' => am_F X (d + 1) mL_law 7 [l0, l1, l2, l3] (v.toList ++ st) M' Q) := am_r_sp2 (μ := mL_law) (as := []) dL_law_4 lk_30_9 (Nat.not_lt.mpr (Nat.le_of_ble_eq_true rfl)) hst
theorem fX12_init_28 {l0 : Option Value} {a : Nat} (hst : am_sum st ≤ 8) : am_F X (d + 1) mX12_init 28 [l0] (.ref a :: st) (n, I, L, R) Q ↔ am_F X d mX10_init 0 [some (.ref a)] [] (n, I, L, R) (fun v M' => am_F X (d + 1) mX12_init 31 [l0] (v.toList ++ st) M' Q) := am_r_sp2 (μ := mX12_init) (as := []) dX12_init_28 lk_12_22 (Nat.not_lt.mpr (Nat.le_of_ble_eq_true rfl)) hst
theorem fX12_init_39 {l0 : Option Value} {a : Nat} (hst : am_sum st ≤ 8) : am_F X (d + 1) mX12_init 39 [l0] (.ref a :: st) (n, I, L, R) Q ↔ am_F X d mX9_init 0 [some (.ref a)] [] (n, I, L, R) (fun v M' => am_F X (d + 1) mX12_init 42 [l0] (v.toList ++ st) M' Q) := am_r_spec (μ := mX12_init) (as := []) dX12_init_39 lk_12_29 (Nat.not_lt.mpr (Nat.le_of_ble_eq_true rfl)) hst
theorem fX10_init_86 {l0 : Option Value} {a : Nat} (hst : am_sum st ≤ 8) : am_F X (d + 1) mX10_init 86 [l0] (.ref a :: st) (n, I, L, R) Q ↔ am_F X d mX1_init 0 [some (.ref a)] [] (n, I, L, R) (fun v M' => am_F X (d + 1) mX10_init 89 [l0] (v.toList ++ st) M' Q) := am_r_spec (μ := mX10_init) (as := []) dX10_init_86 lk_10_51 (Nat.not_lt.mpr (Nat.le_of_ble_eq_true rfl)) hst
theorem fX9_init_9 {l0 : Option Value} {a : Nat} (hst : am_sum st ≤ 8) : am_F X (d + 1) mX9_init 9 [l0] (.ref a :: st) (n, I, L, R) Q ↔ am_F X d mX11_init 0 [some (.ref a), none, none, none, none, none] [] (n, I, L, R) (fun v M' => am_F X (d + 1) mX9_init 12 [l0] (v.toList ++ st) M' Q) := am_r_sp2 (μ := mX9_init) (as := []) dX9_init_9 lk_9_11 (Nat.not_lt.mpr (Nat.le_of_ble_eq_true rfl)) hst
theorem rX11_init_88 {l0 l1 l2 l3 l4 l5 : Option Value} (hst : am_sum st ≤ 8) : am_E X (d + 1) mX11_init 88 [l0, l1, l2, l3, l4, l5] (.ref 1000000 :: st) (n, I, L, R) Q ↔ am_E X d mJ0_length_8abf5 0 [some (.ref 1000000)] [] (n, I, L, R) (fun v M' => am_E X (d + 1) mX11_init 91 [l0, l1, l2, l3, l4, l5] (v.toList ++ st) M' Q) := sr_virt (μ := mX11_init) (a := 1000000) (as := []) dX11_init_88 lk_11_51 (Nat.not_lt.mpr (Nat.le_of_ble_eq_true rfl)) hst rfl rfl
theorem rX11_init_104 {l0 l1 l2 l3 l4 l5 : Option Value} {a : Int32} (hst : am_sum st ≤ 8) : am_E X (d + 1) mX11_init 104 [l0, l1, l2, l3, l4, l5] (.int a :: .ref 1000000 :: st) (n, I, L, R) Q ↔ am_E X d mJ0_charAt_5068e 0 [some (.ref 1000000), some (.int a)] [] (n, I, L, R) (fun v M' => am_E X (d + 1) mX11_init 107 [l0, l1, l2, l3, l4, l5] (v.toList ++ st) M' Q) := sr_virt (μ := mX11_init) (a := 1000000) (as := [.int a]) dX11_init_104 lk_11_56 (Nat.not_lt.mpr (Nat.le_of_ble_eq_true rfl)) hst rfl rfl
theorem rX9_init_18 {l0 : Option Value} {x : Int32} (h17 : 17 ≤ n) (hn : n + 1 ≤ 1000) (hs : am_SV n = (23, j)) (hx : x = nI j) : am_E X d mX9_init 18 [l0] (.int x :: st) (n, I, L, R) Q ↔ am_E X d mX9_init 20 [l0] (.ref n :: st) (am_make (n, I, L, R)) Q := am_q_newT (μ := mX9_init) dX9_init_18 (Or.inr (Or.inr (Or.inr ⟨rfl, rfl⟩))) h17 hn hs hx
theorem fX11_init_7 {l0 l1 l2 l3 l4 l5 : Option Value} {x : Int32} (hn : n + 1 ≤ 1003) (hs : am_SH n = (23, j)) (hx : x = nI j) : am_F X d mX11_init 7 [l0, l1, l2, l3, l4, l5] (.int x :: st) (n, I, L, R) Q ↔ am_F X d mX11_init 9 [l0, l1, l2, l3, l4, l5] (.ref n :: st) (am_make (n, I, L, R)) Q := am_r_newT (μ := mX11_init) dX11_init_7 (Or.inr (Or.inr (Or.inr ⟨rfl, rfl⟩))) hn hs hx
theorem fX11_init_34 {l0 l1 l2 l3 l4 l5 : Option Value} {x : Int32} (hn : n + 1 ≤ 1003) (hs : am_SH n = (23, j)) (hx : x = nI j) : am_F X d mX11_init 34 [l0, l1, l2, l3, l4, l5] (.int x :: st) (n, I, L, R) Q ↔ am_F X d mX11_init 36 [l0, l1, l2, l3, l4, l5] (.ref n :: st) (am_make (n, I, L, R)) Q := am_r_newT (μ := mX11_init) dX11_init_34 (Or.inr (Or.inr (Or.inr ⟨rfl, rfl⟩))) hn hs hx
theorem rX11_init_41 {l0 l1 l2 l3 l4 l5 : Option Value} {x : Int32} (h17 : 17 ≤ n) (hn : n + 1 ≤ 1000) (hs : am_SV n = (21, j)) (hx : x = nI j) : am_E X d mX11_init 41 [l0, l1, l2, l3, l4, l5] (.int x :: st) (n, I, L, R) Q ↔ am_E X d mX11_init 43 [l0, l1, l2, l3, l4, l5] (.ref n :: st) (am_make (n, I, L, R)) Q := am_q_newT (μ := mX11_init) dX11_init_41 (Or.inr (Or.inl ⟨rfl, rfl⟩)) h17 hn hs hx
theorem fX12_init_8 {l0 : Option Value} {x : Int32} (hn : n + 1 ≤ 1003) (hs : am_SH n = (21, j)) (hx : x = nI j) : am_F X d mX12_init 8 [l0] (.int x :: st) (n, I, L, R) Q ↔ am_F X d mX12_init 10 [l0] (.ref n :: st) (am_make (n, I, L, R)) Q := am_r_newT (μ := mX12_init) dX12_init_8 (Or.inr (Or.inl ⟨rfl, rfl⟩)) hn hs hx
theorem rX13_init_8 {l0 : Option Value} {x : Int32} (h17 : 17 ≤ n) (hn : n + 1 ≤ 1000) (hs : am_SV n = (21, j)) (hx : x = nI j) : am_E X d mX13_init 8 [l0] (.int x :: st) (n, I, L, R) Q ↔ am_E X d mX13_init 10 [l0] (.ref n :: st) (am_make (n, I, L, R)) Q := am_q_newT (μ := mX13_init) dX13_init_8 (Or.inr (Or.inl ⟨rfl, rfl⟩)) h17 hn hs hx
theorem rX13_init_17 {l0 : Option Value} {x : Int32} (h17 : 17 ≤ n) (hn : n + 1 ≤ 1000) (hs : am_SV n = (21, j)) (hx : x = nI j) : am_E X d mX13_init 17 [l0] (.int x :: st) (n, I, L, R) Q ↔ am_E X d mX13_init 19 [l0] (.ref n :: st) (am_make (n, I, L, R)) Q := am_q_newT (μ := mX13_init) dX13_init_17 (Or.inr (Or.inl ⟨rfl, rfl⟩)) h17 hn hs hx
theorem rX13_init_53 {l0 : Option Value} {x : Int32} (h17 : 17 ≤ n) (hn : n + 1 ≤ 1000) (hs : am_SV n = (23, j)) (hx : x = nI j) : am_E X d mX13_init 53 [l0] (.int x :: st) (n, I, L, R) Q ↔ am_E X d mX13_init 55 [l0] (.ref n :: st) (am_make (n, I, L, R)) Q := am_q_newT (μ := mX13_init) dX13_init_53 (Or.inr (Or.inr (Or.inr ⟨rfl, rfl⟩))) h17 hn hs hx
theorem rX13_init_61 {l0 : Option Value} {x : Int32} (h17 : 17 ≤ n) (hn : n + 1 ≤ 1000) (hs : am_SV n = (23, j)) (hx : x = nI j) : am_E X d mX13_init 61 [l0] (.int x :: st) (n, I, L, R) Q ↔ am_E X d mX13_init 63 [l0] (.ref n :: st) (am_make (n, I, L, R)) Q := am_q_newT (μ := mX13_init) dX13_init_61 (Or.inr (Or.inr (Or.inr ⟨rfl, rfl⟩))) h17 hn hs hx
theorem rX13_init_74 {l0 : Option Value} {x : Int32} (h17 : 17 ≤ n) (hn : n + 1 ≤ 1000) (hs : am_SV n = (23, j)) (hx : x = nI j) : am_E X d mX13_init 74 [l0] (.int x :: st) (n, I, L, R) Q ↔ am_E X d mX13_init 76 [l0] (.ref n :: st) (am_make (n, I, L, R)) Q := am_q_newT (μ := mX13_init) dX13_init_74 (Or.inr (Or.inr (Or.inr ⟨rfl, rfl⟩))) h17 hn hs hx
theorem rX13_init_198 {l0 : Option Value} {x : Int32} (h17 : 17 ≤ n) (hn : n + 1 ≤ 1000) (hs : am_SV n = (22, j)) (hx : x = nI j) : am_E X d mX13_init 198 [l0] (.int x :: st) (n, I, L, R) Q ↔ am_E X d mX13_init 200 [l0] (.ref n :: st) (am_make (n, I, L, R)) Q := am_q_newT (μ := mX13_init) dX13_init_198 (Or.inr (Or.inr (Or.inl ⟨rfl, rfl⟩))) h17 hn hs hx
theorem rX13_init_326 {l0 : Option Value} {x : Int32} (h17 : 17 ≤ n) (hn : n + 1 ≤ 1000) (hs : am_SV n = (22, j)) (hx : x = nI j) : am_E X d mX13_init 326 [l0] (.int x :: st) (n, I, L, R) Q ↔ am_E X d mX13_init 328 [l0] (.ref n :: st) (am_make (n, I, L, R)) Q := am_q_newT (μ := mX13_init) dX13_init_326 (Or.inr (Or.inr (Or.inl ⟨rfl, rfl⟩))) h17 hn hs hx
theorem rX13_init_373 {l0 : Option Value} {x : Int32} (h17 : 17 ≤ n) (hn : n + 1 ≤ 1000) (hs : am_SV n = (22, j)) (hx : x = nI j) : am_E X d mX13_init 373 [l0] (.int x :: st) (n, I, L, R) Q ↔ am_E X d mX13_init 375 [l0] (.ref n :: st) (am_make (n, I, L, R)) Q := am_q_newT (μ := mX13_init) dX13_init_373 (Or.inr (Or.inr (Or.inl ⟨rfl, rfl⟩))) h17 hn hs hx
theorem rX6_init_7 {l0 : Option Value} {x : Int32} (h17 : 17 ≤ n) (hn : n + 1 ≤ 1000) (hs : am_SV n = (24, j)) (hx : x = nI j) : am_E X d mX6_init 7 [l0] (.int x :: st) (n, I, L, R) Q ↔ am_E X d mX6_init 10 [l0] (.ref n :: st) (am_make (n, I, L, R)) Q := am_q_anew (μ := mX6_init) dX6_init_7 rfl h17 hn hs hx
theorem rX6_init_15 {l0 : Option Value} {x : Int32} (h17 : 17 ≤ n) (hn : n + 1 ≤ 1000) (hs : am_SV n = (24, j)) (hx : x = nI j) : am_E X d mX6_init 15 [l0] (.int x :: st) (n, I, L, R) Q ↔ am_E X d mX6_init 18 [l0] (.ref n :: st) (am_make (n, I, L, R)) Q := am_q_anew (μ := mX6_init) dX6_init_15 rfl h17 hn hs hx
theorem rX2_init_39 {l0 l1 : Option Value} {q : Nat} (h17 : 17 ≤ n) (hn : n + 1 + N ≤ 1000) (hs : am_SV n = (25, N)) (hq : q ≤ 1000) (hr : (List.range N).all (fun j => am_SV (n + 1 + j) == (20, q)) = true) : am_E X d mX2_init 39 [l0, l1] (.int (nI q) :: .int (nI N) :: st) (n, I, L, R) Q ↔ am_E X d mX2_init 43 [l0, l1] (.ref n :: st) (am_many (n, I, L, R) N) Q := am_q_multi (μ := mX2_init) dX2_init_39 (Or.inr ⟨rfl, rfl⟩) h17 hn hs hq hr
theorem rX4_init_9 {l0 l1 l2 : Option Value} {q : Nat} (h17 : 17 ≤ n) (hn : n + 1 + N ≤ 1000) (hs : am_SV n = (25, N)) (hq : q ≤ 1000) (hr : (List.range N).all (fun j => am_SV (n + 1 + j) == (20, q)) = true) : am_E X d mX4_init 9 [l0, l1, l2] (.int (nI q) :: .int (nI N) :: st) (n, I, L, R) Q ↔ am_E X d mX4_init 13 [l0, l1, l2] (.ref n :: st) (am_many (n, I, L, R) N) Q := am_q_multi (μ := mX4_init) dX4_init_9 (Or.inl ⟨rfl, rfl⟩) h17 hn hs hq hr
end WA
