--! 60
/-! THE CLASS: what can be undone -/
theorem am_make_eq {n : Nat} {I : Nat → Nat → Int32} {L : Nat → Nat → Int64} {R : Nat → Nat → Option Nat} : am_make (n, I, L, R) = (n + 1, am_w I n (fun _ => 0), am_w L n (fun _ => 0), am_w R n (fun _ => none)) := rfl
section PA
variable {X : am_X} {d n : Nat} {I : Nat → Nat → Int32} {L : Nat → Nat → Int64} {R : Nat → Nat → Option Nat} {Q : Option Value → am_M → Prop} {σ : rfP}
theorem rX6_remember_48 {st : List Value} {l0 l1 : Option Value} {a : Nat} (hst : am_sum st ≤ 8) : am_E X (d + 1) mX6_remember 48 [l0, l1] (.ref a :: st) (n, I, L, R) Q ↔ am_E X d mX3_init 0 [some (.ref a)] [] (n, I, L, R) (fun v M' => am_E X (d + 1) mX6_remember 51 [l0, l1] (v.toList ++ st) M' Q) := am_q_spec (μ := mX6_remember) (as := []) dX6_remember_48 lk_6_30 (Nat.not_lt.mpr (Nat.le_of_ble_eq_true rfl)) hst
theorem rX6_putInSlot_33 {st : List Value} {l0 l1 l2 : Option Value} {a : Nat} (hst : am_sum st ≤ 8) : am_E X (d + 1) mX6_putInSlot 33 [l0, l1, l2] (.ref a :: st) (n, I, L, R) Q ↔ am_E X d mX3_init 0 [some (.ref a)] [] (n, I, L, R) (fun v M' => am_E X (d + 1) mX6_putInSlot 36 [l0, l1, l2] (v.toList ++ st) M' Q) := am_q_spec (μ := mX6_putInSlot) (as := []) dX6_putInSlot_33 lk_6_30 (Nat.not_lt.mpr (Nat.le_of_ble_eq_true rfl)) hst
set_option maxRecDepth 20000 in
theorem c_X3init (hn : n + 5 ≤ 1000) (h1 : 116 ≤ n) (h2 : (n - 116) % 5 = 0) (hQ : ∀ I' L' R', (∀ k j, k < n → I' k j = I k j) → (∀ k j, k < n → L' k j = L k j) → (∀ k j, k < n → R' k j = R k j) → R' n 10 = some (n + 1) → R' n 11 = some (n + 2) → R' n 12 = some (n + 3) → R' n 13 = some (n + 4) → Q none (n + 5, I', L', R')) : am_E X d mX3_init 0 [some (.ref n)] [] (n + 1, I, L, R) Q := by
  obtain ⟨a1, a2, a3, a4, a5⟩ := sh_co n h1 h2 hn
  have b1 : (am_SV n).1 = 3 := by rw [a1]
  have b2 : am_SV (n + 1) = (20, 7) := a2
  have b3 : am_SV (n + 1 + 1) = (20, 12) := a3
  have b4 : am_SV (n + 1 + 1 + 1) = (20, 12) := a4
  have b5 : am_SV (n + 1 + 1 + 1 + 1) = (20, 12) := a5
  have l1 : n < n + 1 := by omega
  have l2 : n < n + 1 + 1 := by omega
  have l3 : n < n + 1 + 1 + 1 := by omega
  have l4 : n < n + 1 + 1 + 1 + 1 := by omega
  have l5 : n < n + 1 + 1 + 1 + 1 + 1 := by omega
  have m1 : n + 1 < n + 1 + 1 := by omega
  have m2 : n + 1 + 1 < n + 1 + 1 + 1 := by omega
  have m3 : n + 1 + 1 + 1 < n + 1 + 1 + 1 + 1 := by omega
  have m4 : n + 1 + 1 + 1 + 1 < n + 1 + 1 + 1 + 1 + 1 := by omega
  have k1 : n + 1 ≤ 1000 := by omega
  have k2 : n + 1 + 1 ≤ 1000 := by omega
  have k3 : n + 1 + 1 + 1 ≤ 1000 := by omega
  have k4 : n + 1 + 1 + 1 + 1 ≤ 1000 := by omega
  have k5 : n + 1 + 1 + 1 + 1 + 1 ≤ 1000 := by omega
  simp only [am_lv_of, rX3_init_0, rX3_init_1, rX3_init_4, rX3_init_5, rX3_init_6, rX3_init_9, rX3_init_10, rX3_init_11, rX3_init_14, rX3_init_15, rX3_init_16, rX3_init_19, rX3_init_20, rX3_init_21, rX3_init_24, rX3_init_25, rX3_init_26, rX3_init_29, rX3_init_30, rX3_init_31, rX3_init_34, rX3_init_35, rX3_init_36, rX3_init_39, rX3_init_40, rX3_init_41, rX3_init_44, rX3_init_45, rX3_init_46, rX3_init_49, rX3_init_50, rX3_init_51, rX3_init_54, rX3_init_55, rX3_init_59, rX3_init_62, rX3_init_63, rX3_init_67, rX3_init_70, rX3_init_71, rX3_init_75, rX3_init_78, rX3_init_79, rX3_init_83, rX3_init_86, rX3_init_57 (show 17 ≤ n + 1 by omega) k2 b2 rfl, rX3_init_65 (show 17 ≤ n + 1 + 1 by omega) k3 b3 rfl, rX3_init_73 (show 17 ≤ n + 1 + 1 + 1 by omega) k4 b4 rfl, rX3_init_81 (show 17 ≤ n + 1 + 1 + 1 + 1 by omega) k5 b5 rfl, am_make_eq, am_s0, am_s1, am_s1r, b1, b2, b3, b4, b5, l1, l2, l3, l4, l5, m1, m2, m3, m4, k1, k2, k3, k4, k5]
  refine hQ _ _ _ (fun k j hk => ?_) (fun k j hk => ?_) (fun k j hk => ?_) ?_ ?_ ?_ ?_
  · simp only [am_w, am_u, show ¬ k = n + 1 + 1 + 1 + 1 by omega, show ¬ k = n + 1 + 1 + 1 by omega, show ¬ k = n + 1 + 1 by omega, show ¬ k = n + 1 by omega, show ¬ k = n by omega, if_false]
  · simp only [am_w, show ¬ k = n + 1 + 1 + 1 + 1 by omega, show ¬ k = n + 1 + 1 + 1 by omega, show ¬ k = n + 1 + 1 by omega, show ¬ k = n + 1 by omega, if_false]
  · simp only [am_w, am_u, show ¬ k = n + 1 + 1 + 1 + 1 by omega, show ¬ k = n + 1 + 1 + 1 by omega, show ¬ k = n + 1 + 1 by omega, show ¬ k = n + 1 by omega, show ¬ k = n by omega, if_false]
  · simp [am_w, am_u, show ¬ n = n + 1 + 1 + 1 + 1 by omega, show ¬ n = n + 1 + 1 + 1 by omega, show ¬ n = n + 1 + 1 by omega]
  · simp [am_w, am_u, show ¬ n = n + 1 + 1 + 1 + 1 by omega, show ¬ n = n + 1 + 1 + 1 by omega]
  · simp [am_w, am_u, show ¬ n = n + 1 + 1 + 1 + 1 by omega]
  · simp [am_w, am_u]
theorem am_links_lt : ∀ e ∈ am_links, e.1 < 116 ∧ e.1 ≠ 40 ∧ e.1 ≠ 41 := by decide +kernel
theorem am_OR.mv {R' : Nat → Nat → Option Nat} (h : am_OR R) (g : ∀ k j, k < 116 → k ≠ 40 → k ≠ 41 → R' k j = R k j) : am_OR R' := fun e he => by
  obtain ⟨h1, h2, h3⟩ := am_links_lt e he
  rw [g _ _ h1 h2 h3]
  exact h e he
theorem cnt_up {p q : Nat → Bool} {i : Nat} (hp : p i = false) (hq : q i = true) (h : ∀ j, j ≠ i → p j = q j) : ∀ N, ((List.range N).filter q).length = ((List.range N).filter p).length + if i < N then 1 else 0 := by
  intro N
  induction N with
  | zero => simp
  | succ N ih =>
    rw [List.range_succ, List.filter_append, List.filter_append, List.length_append, List.length_append, ih]
    by_cases e : N = i
    · subst e
      simp [hp, hq]
    · rw [show List.filter q [N] = List.filter p [N] by simp [List.filter, h N e]]
      by_cases hi : i < N
      · rw [if_pos hi, if_pos (by omega)]; omega
      · rw [if_neg hi, if_neg (by omega)]; omega
theorem cnt_40 {R' : Nat → Nat → Option Nat} {i c : Nat} (hi : i < 40) (h0 : R 40 i = none) (h1 : R' 40 i = some c) (h2 : ∀ j, j ≠ i → R' 40 j = R 40 j) (h3 : ∀ j, R' 41 j = R 41 j) : cnt R' = cnt R + 1 := by
  unfold cnt
  have e1 := cnt_up (p := fun j => (R 40 j).isSome) (q := fun j => (R' 40 j).isSome) (i := i) (by simp [h0]) (by simp [h1]) (fun j hj => by simp only [h2 j hj]) 40
  have e2 : (fun j => (R' 41 j).isSome) = (fun j => (R 41 j).isSome) := funext fun j => by rw [h3]
  rw [e1, e2, if_pos hi]
  omega
theorem cnt_41 {R' : Nat → Nat → Option Nat} {i c : Nat} (hi : i < 3) (h0 : R 41 i = none) (h1 : R' 41 i = some c) (h2 : ∀ j, j ≠ i → R' 41 j = R 41 j) (h3 : ∀ j, R' 40 j = R 40 j) : cnt R' = cnt R + 1 := by
  unfold cnt
  have e1 := cnt_up (p := fun j => (R 41 j).isSome) (q := fun j => (R' 41 j).isSome) (i := i) (by simp [h0]) (by simp [h1]) (fun j hj => by simp only [h2 j hj]) 3
  have e2 : (fun j => (R' 40 j).isSome) = (fun j => (R 40 j).isSome) := funext fun j => by rw [h3]
  rw [e1, e2, if_pos hi]
  omega
/-- a new course is hung up: in the ring (t = 40) or a slot (t = 41) -/
theorem relR.hang {R' : Nat → Nat → Option Nat} {t i : Nat} (h : relR n R) (ht : (t = 40 ∧ i < 40) ∨ (t = 41 ∧ i < 3)) (h0 : R t i = none) (h1 : R' t i = some n) (h2 : ∀ k j, k < n → ¬ (k = t ∧ j = i) → R' k j = R k j) (l1 : R' n 10 = some (n + 1)) (l2 : R' n 11 = some (n + 2)) (l3 : R' n 12 = some (n + 3)) (l4 : R' n 13 = some (n + 4)) : relR (n + 5) R' := by
  have hN := h.N
  obtain ⟨a1, a2, a3, a4, a5, a6, a7, a8, a9⟩ := h
  have up : ∀ k, isCo n k → isCo (n + 5) k := fun k hk => ⟨hk.1, hk.2.1, by have := hk.2.2; omega⟩
  have nn : isCo (n + 5) n := ⟨hN, by omega, by omega⟩
  have lt : ∀ k, isCo n k → k ≠ n := fun k hk => by have := hk.2.2; omega
  have c40 : ∀ j k, j < 40 → R' 40 j = some k → (t = 40 ∧ j = i ∧ k = n) ∨ (¬ (t = 40 ∧ j = i) ∧ R 40 j = some k) := fun j k hj hk => by
    by_cases e : t = 40 ∧ j = i
    · obtain ⟨rfl, rfl⟩ := e
      exact Or.inl ⟨rfl, rfl, Option.some.inj (hk.symm.trans h1)⟩
    · exact Or.inr ⟨e, by rw [← h2 40 j (by omega) (fun z => e ⟨z.1.symm, z.2⟩)]; exact hk⟩
  have c41 : ∀ j k, j < 3 → R' 41 j = some k → (t = 41 ∧ j = i ∧ k = n) ∨ (¬ (t = 41 ∧ j = i) ∧ R 41 j = some k) := fun j k hj hk => by
    by_cases e : t = 41 ∧ j = i
    · obtain ⟨rfl, rfl⟩ := e
      exact Or.inl ⟨rfl, rfl, Option.some.inj (hk.symm.trans h1)⟩
    · exact Or.inr ⟨e, by rw [← h2 41 j (by omega) (fun z => e ⟨z.1.symm, z.2⟩)]; exact hk⟩
  refine ⟨a1.mv (fun k j k1 k2 k3 => h2 k j (by omega) (by omega)), ?_, fun j k hj hk => ?_, fun j k hj hk => ?_, fun i' j k hi hj hk1 hk2 => ?_, fun i' j k hi hj hk1 hk2 => ?_, fun i' j k hi hj hk1 hk2 => ?_, fun k hk => ?_, ?_⟩
  · rcases ht with ⟨rfl, hi⟩ | ⟨rfl, hi⟩
    · rw [cnt_40 hi h0 h1 (fun j hj => h2 40 j (by omega) (fun z => hj z.2)) (fun j => h2 41 j (by omega) (by omega))]; omega
    · rw [cnt_41 hi h0 h1 (fun j hj => h2 41 j (by omega) (fun z => hj z.2)) (fun j => h2 40 j (by omega) (by omega))]; omega
  · rcases c40 j k hj hk with ⟨-, -, rfl⟩ | ⟨-, z⟩
    · exact nn
    · exact up k (a3 j k hj z)
  · rcases c41 j k hj hk with ⟨-, -, rfl⟩ | ⟨-, z⟩
    · exact nn
    · exact up k (a4 j k hj z)
  · rcases c40 i' k hi hk1 with ⟨x1, x2, x3⟩ | ⟨x1, x2⟩ <;> rcases c40 j k hj hk2 with ⟨y1, y2, y3⟩ | ⟨y1, y2⟩
    · omega
    · exact absurd x3 (lt k (a3 j k hj y2))
    · exact absurd y3 (lt k (a3 i' k hi x2))
    · exact a5 i' j k hi hj x2 y2
  · rcases c41 i' k hi hk1 with ⟨x1, x2, x3⟩ | ⟨x1, x2⟩ <;> rcases c41 j k hj hk2 with ⟨y1, y2, y3⟩ | ⟨y1, y2⟩
    · omega
    · exact absurd x3 (lt k (a4 j k hj y2))
    · exact absurd y3 (lt k (a4 i' k hi x2))
    · exact a6 i' j k hi hj x2 y2
  · rcases c40 i' k hi hk1 with ⟨x1, x2, x3⟩ | ⟨x1, x2⟩ <;> rcases c41 j k hj hk2 with ⟨y1, y2, y3⟩ | ⟨y1, y2⟩
    · omega
    · exact absurd x3 (lt k (a4 j k hj y2))
    · exact absurd y3 (lt k (a3 i' k hi x2))
    · exact a7 i' j k hi hj x2 y2
  · by_cases e : k = n
    · subst e; exact ⟨l1, l2, l3, l4⟩
    · have hk' : isCo n k := ⟨hk.1, hk.2.1, by
        have e1 := hk.2.2
        have e2 := hk.2.1
        have e3 := hk.1
        omega⟩
      have hlt := hk'.2.2
      have := a8 k hk'
      have k116 := hk'.1
      rw [h2 k 10 (by omega) (by omega), h2 k 11 (by omega) (by omega), h2 k 12 (by omega) (by omega), h2 k 13 (by omega) (by omega)]
      exact this
  · unfold plL at a9 ⊢
    rw [h2 42 2 (by omega) (by omega), h2 42 3 (by omega) (by omega), h2 42 4 (by omega) (by omega), h2 42 5 (by omega) (by omega)]
    exact a9
end PA
