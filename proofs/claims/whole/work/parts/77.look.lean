--! 76
/-! PROMISE 34: look -/
def mxF (f : Nat → Nat) (x : Nat) : Nat → Nat → Nat
  | 0, b => b
  | m + 1, b => mxF f (x + 1) m (if b < f x then f x else b)
theorem mxF_ge {f : Nat → Nat} : ∀ (m x b : Nat), b ≤ mxF f x m b ∧ ∀ y, x ≤ y → y < x + m → f y ≤ mxF f x m b := by
  intro m
  induction m with
  | zero => intro x b; exact ⟨Nat.le_refl _, fun y y1 y2 => absurd y2 (by omega)⟩
  | succ m ih =>
    intro x b
    obtain ⟨h1, h2⟩ := ih (x + 1) (if b < f x then f x else b)
    rw [mxF]
    refine ⟨Nat.le_trans ?_ h1, fun y y1 y2 => ?_⟩
    · split <;> omega
    · by_cases e : y = x
      · subst e
        refine Nat.le_trans ?_ h1
        split <;> omega
      · exact h2 y (by omega) (by omega)
theorem mxF_le {f : Nat → Nat} {B : Nat} (h : ∀ x, f x ≤ B) : ∀ (m x b : Nat), b ≤ B → mxF f x m b ≤ B := by
  intro m
  induction m with
  | zero => intro x b hb; exact hb
  | succ m ih =>
    intro x b hb
    rw [mxF]
    refine ih _ _ ?_
    split
    · exact h x
    · exact hb
def slS (g : Nat → Nat) (p : Nat) (s : Option (Nat × Nat)) : Option (Nat × Nat) := match s with
  | none => some (p, g p)
  | some q => if g p < q.2 then some (p, g p) else some q
def slF (g : Nat → Nat) (p : Nat) : Nat → Option (Nat × Nat) → Option (Nat × Nat)
  | 0, s => s
  | m + 1, s => slF g (p + 1) m (slS g p s)
def slB (s : Option (Nat × Nat)) : Int32 := match s with
  | none => -2
  | some q => nI q.1
def slC (s : Option (Nat × Nat)) : Int32 := match s with
  | none => nI 1000000
  | some q => nI q.2
def slR (s : Option (Nat × Nat)) : Int32 := match s with
  | none => nI 0
  | some q => nI q.2
theorem cnF_pos {f : Nat → Bool} {y : Nat} (hy : f y = true) : ∀ t, y < t → 0 < cnF f t := by
  intro t
  induction t with
  | zero => intro h; omega
  | succ t ih =>
    intro h
    rw [cnF]
    by_cases e : y = t
    · subst e; rw [if_pos hy]; omega
    · have := ih (by omega); omega
theorem cnF_ex {f : Nat → Bool} : ∀ t, 0 < cnF f t → ∃ y, y < t ∧ f y = true := by
  intro t
  induction t with
  | zero => intro h; exact absurd h (Nat.lt_irrefl _)
  | succ t ih =>
    intro h
    rw [cnF] at h
    by_cases e : f t = true
    · exact ⟨t, by omega, e⟩
    · rw [if_neg e] at h
      obtain ⟨y, y1, y2⟩ := ih (by omega)
      exact ⟨y, by omega, y2⟩
section LK
variable {X : am_X} {d n : Nat} {I : Nat → Nat → Int32} {L : Nat → Nat → Int64} {R : Nat → Nat → Option Nat} {Q : Option Value → am_M → Prop} {σ : rfP} {τ : tol}
theorem goW_ok {k way : Nat} (ho : ok_S σ) : ∀ (rem made w w' : Nat), okP σ w → goW σ τ k rem made w way = some w' → okP σ w' := by
  intro rem
  induction rem with
  | zero => intro made w w' hw h; cases h; exact hw
  | succ rem ih =>
    intro made w w' hw h
    rw [goW] at h
    split at h
    · next hh => exact ih _ _ _ (hw.mv ho hh.1 hh.2.1) h
    · cases h
/-- of a puppet: how many rows are left at worst -/
def wsN (ok : Nat → Option Nat) (t p : Nat) : Nat := mxF (fun x => cnF (enB ok p x) t) 0 10 0
theorem ws_le {ok : Nat → Option Nat} {t p : Nat} : wsN ok t p ≤ t := mxF_le (fun x => cnF_le t) _ _ _ (Nat.zero_le _)
theorem ws_pos {ok : Nat → Option Nat} {t p : Nat} (hp : p < 5) (hok : ∀ y w, ok y = some w → okP σ w) (h : 0 < cnF (fun way => (ok way).isSome) t) : 0 < wsN ok t p := by
  obtain ⟨y, y1, y2⟩ := cnF_ex t h
  cases hy : ok y with
  | none => rw [hy] at y2; cases y2
  | some w =>
    have hx := (hok y w hy).2.1 p hp
    have h1 : 0 < cnF (enB ok p (xw w p)) t := cnF_pos (y := y) (by unfold enB; rw [hy]; simp) t y1
    have h2 := (mxF_ge (f := fun x => cnF (enB ok p x) t) 10 0 0).2 (xw w p) (by omega) (by omega)
    have h2 : cnF (enB ok p (xw w p)) t ≤ wsN ok t p := h2
    omega
theorem ws_0 {ok : Nat → Option Nat} {t p : Nat} (h : cnF (fun way => (ok way).isSome) t = 0) : wsN ok t p = 0 := by
  have hz : ∀ x, cnF (enB ok p x) t ≤ 0 := fun x => by
    by_cases e : 0 < cnF (enB ok p x) t
    · obtain ⟨y, y1, y2⟩ := cnF_ex t e
      have : (ok y).isSome = true := by
        unfold enB at y2
        cases hy : ok y with
        | none => rw [hy] at y2; cases y2
        | some w => rfl
      have := cnF_pos (f := fun way => (ok way).isSome) this t y1
      omega
    · omega
  have := mxF_le hz 10 0 0 (Nat.le_refl _)
  unfold wsN
  omega
theorem l_tpIn {f : Nat → Nat} {p : Nat} {l1 l2 : Option Value} (hR : am_OR R) (hN : 116 ≤ n) (hp : p < 5) (hf : ∀ x, x < 10 → I (63 + p) x = nI (f x)) (hf31 : ∀ x, f x < 2 ^ 30) : ∀ (m x b : Nat), x + m = 10 → b < 2 ^ 30 → (am_E X d mX2_tellingPuppet 30 [some (.ref 57), l1, l2, some (.int (nI p)), some (.int (nI b)), some (.int (nI x))] [] (n, I, L, R) Q ↔ am_E X d mX2_tellingPuppet 59 [some (.ref 57), l1, l2, some (.int (nI p)), some (.int (nI (mxF f x m b))), some (.int (nI 10))] [] (n, I, L, R) Q) := by
  have hl := am_lt hN
  have hvw9 := am_lw hN
  intro m
  induction m with
  | zero =>
    intro x b hx hb
    have hx : x = 10 := by omega
    subst hx
    have h1 : nI 10 ≤ nI 10 := by decide
    simp only [am_lv_of, rX2_tellingPuppet_30, rX2_tellingPuppet_32, rX2_tellingPuppet_34, ↓reduceIte, h1, mxF]
  | succ m ih =>
    intro x b hx hb
    have h1 : ¬ nI 10 ≤ nI x := nI_ge (by omega) (by omega)
    have x10 : x < 10 := by omega
    have rp := ro_62 hR p hp
    have sp := sh_63p p hp
    have lp : 63 + p < n := by omega
    have em : (if nI b < nI (f x) then nI (f x) else nI b) = nI (if b < f x then f x else b) := by
      by_cases h : b < f x
      · rw [if_pos h, if_pos (nI_lt h (by have := hf31 x; omega))]
      · rw [if_neg h, if_neg (nI_nlt (by omega) (by omega))]
    rw [rX2_tellingPuppet_30]
    simp only [am_lv_of, rX2_tellingPuppet_32, rX2_tellingPuppet_34, rX2_tellingPuppet_37, rX2_tellingPuppet_39, rX2_tellingPuppet_40, rX2_tellingPuppet_43, rX2_tellingPuppet_44, rX2_tellingPuppet_45, rX2_tellingPuppet_47, rX2_tellingPuppet_48, rX2_tellingPuppet_51, rX2_tellingPuppet_53, rX2_tellingPuppet_56, ro_0_0 hR, ro_0_3 hR, ro_0_4 hR, ro_0_5 hR, ro_0_6 hR, ro_0_7 hR, ro_0_8 hR, ro_0_9 hR, ro_0_10 hR, ro_0_11 hR, ro_2_6 hR, ro_2_7 hR, ro_2_8 hR, ro_2_9 hR, ro_2_10 hR, ro_2_11 hR, ro_2_12 hR, ro_2_13 hR, ro_9_0 hR, ro_9_1 hR, ro_9_2 hR, ro_14_0 hR, ro_14_1 hR, ro_14_2 hR, ro_14_7 hR, ro_15_0 hR, ro_15_1 hR, ro_15_2 hR, ro_15_3 hR, ro_20_6 hR, ro_20_7 hR, ro_20_8 hR, ro_20_9 hR, ro_20_10 hR, ro_20_11 hR, ro_20_12 hR, ro_20_13 hR, ro_27_0 hR, ro_27_1 hR, ro_27_2 hR, ro_32_0 hR, ro_32_1 hR, ro_34_10 hR, ro_34_11 hR, ro_34_12 hR, ro_34_13 hR, ro_39_0 hR, ro_39_1 hR, ro_42_0 hR, ro_42_1 hR, ro_47_0 hR, ro_47_1 hR, ro_47_2 hR, ro_47_3 hR, ro_55_0 hR, ro_55_1 hR, ro_55_2 hR, ro_57_0 hR, ro_57_1 hR, ro_57_2 hR, ro_57_3 hR, ro_57_4 hR, ro_57_5 hR, ro_57_8 hR, sh_0, sh_1, sh_2, sh_3, sh_4, sh_5, sh_6, sh_7, sh_8, sh_9, sh_10, sh_11, sh_12, sh_13, sh_14, sh_15, sh_16, sh_17, sh_18, sh_19, sh_20, sh_21, sh_22, sh_23, sh_24, sh_25, sh_26, sh_27, sh_28, sh_29, sh_30, sh_31, sh_32, sh_33, sh_34, sh_35, sh_36, sh_37, sh_38, sh_39, sh_40, sh_41, sh_42, sh_43, sh_44, sh_45, sh_46, sh_47, sh_48, sh_49, sh_50, sh_51, sh_52, sh_53, sh_54, sh_55, sh_56, sh_57, sh_58, sh_59, sh_60, sh_61, sh_62, sh_63, sh_64, sh_65, sh_66, sh_67, sh_68, hl, hvw9, Nat.reduceLT, Nat.reduceAdd, Nat.reduceMul, ne_eq, Nat.reduceEqDiff, not_false_eq_true, or_true, true_or, or_false, false_or, and_true, true_and, and_self, Nat.reduceLeDiff, am_ci, am_cr, am_cn0, Option.toList_some, Option.toList_none, List.cons_append, List.nil_append, am_s0, am_s1, am_s1r, am_s2, am_s2r, am_s3r, nI_add, am_u_ne, am_u_at, am_u_n1, am_u_n2, am_w_ne, ↓reduceIte, h1, hp, rp, sp, lp, x10, hf x x10, em]
    rw [ih (x + 1) _ (by omega) (by split; exact hf31 x; exact hb), mxF]
theorem l_tp {P : Nat} {g : Nat → Nat} {f : Nat → Nat → Nat} (hR : am_OR R) (hN : 116 ≤ n) (hP : I 2 0 = nI P) (hP5 : P ≤ 5) (hf : ∀ p, p < P → ∀ x, x < 10 → I (63 + p) x = nI (f p x)) (hf31 : ∀ p x, f p x < 2 ^ 30) (hg : ∀ p, g p = mxF (f p) 0 10 0) (hg31 : ∀ p, g p < 1000000) : ∀ (m p : Nat) (s : Option (Nat × Nat)) (l4 l5 : Option Value), p + m = P → (∀ q, s = some q → q.2 < 2 ^ 30) → am_nl l4 → am_nl l5 → (am_E X d mX2_tellingPuppet 8 [some (.ref 57), some (.int (slB s)), some (.int (slC s)), some (.int (nI p)), l4, l5] [] (n, I, L, R) Q ↔ Q (some (.int (slB (slF g p m s)))) (n, I, L, R)) := by
  have hl := am_lt hN
  have hvw9 := am_lw hN
  intro m
  induction m with
  | zero =>
    intro p s l4 l5 hp hs n4 n5
    have hp : p = P := by omega
    subst hp
    have h1 : nI p ≤ nI p := nI_le (Nat.le_refl _) (by omega)
    simp only [am_lv_of, rX2_tellingPuppet_8, rX2_tellingPuppet_9, rX2_tellingPuppet_10, rX2_tellingPuppet_13, rX2_tellingPuppet_16, rX2_tellingPuppet_76, rX2_tellingPuppet_77, ro_0_0 hR, ro_0_3 hR, ro_0_4 hR, ro_0_5 hR, ro_0_6 hR, ro_0_7 hR, ro_0_8 hR, ro_0_9 hR, ro_0_10 hR, ro_0_11 hR, ro_2_6 hR, ro_2_7 hR, ro_2_8 hR, ro_2_9 hR, ro_2_10 hR, ro_2_11 hR, ro_2_12 hR, ro_2_13 hR, ro_9_0 hR, ro_9_1 hR, ro_9_2 hR, ro_14_0 hR, ro_14_1 hR, ro_14_2 hR, ro_14_7 hR, ro_15_0 hR, ro_15_1 hR, ro_15_2 hR, ro_15_3 hR, ro_20_6 hR, ro_20_7 hR, ro_20_8 hR, ro_20_9 hR, ro_20_10 hR, ro_20_11 hR, ro_20_12 hR, ro_20_13 hR, ro_27_0 hR, ro_27_1 hR, ro_27_2 hR, ro_32_0 hR, ro_32_1 hR, ro_34_10 hR, ro_34_11 hR, ro_34_12 hR, ro_34_13 hR, ro_39_0 hR, ro_39_1 hR, ro_42_0 hR, ro_42_1 hR, ro_47_0 hR, ro_47_1 hR, ro_47_2 hR, ro_47_3 hR, ro_55_0 hR, ro_55_1 hR, ro_55_2 hR, ro_57_0 hR, ro_57_1 hR, ro_57_2 hR, ro_57_3 hR, ro_57_4 hR, ro_57_5 hR, ro_57_8 hR, sh_0, sh_1, sh_2, sh_3, sh_4, sh_5, sh_6, sh_7, sh_8, sh_9, sh_10, sh_11, sh_12, sh_13, sh_14, sh_15, sh_16, sh_17, sh_18, sh_19, sh_20, sh_21, sh_22, sh_23, sh_24, sh_25, sh_26, sh_27, sh_28, sh_29, sh_30, sh_31, sh_32, sh_33, sh_34, sh_35, sh_36, sh_37, sh_38, sh_39, sh_40, sh_41, sh_42, sh_43, sh_44, sh_45, sh_46, sh_47, sh_48, sh_49, sh_50, sh_51, sh_52, sh_53, sh_54, sh_55, sh_56, sh_57, sh_58, sh_59, sh_60, sh_61, sh_62, sh_63, sh_64, sh_65, sh_66, sh_67, sh_68, hl, hvw9, Nat.reduceLT, Nat.reduceAdd, Nat.reduceMul, ne_eq, Nat.reduceEqDiff, not_false_eq_true, or_true, true_or, or_false, false_or, and_true, true_and, and_self, Nat.reduceLeDiff, am_ci, am_cr, am_cn0, Option.toList_some, Option.toList_none, List.cons_append, List.nil_append, am_s0, am_s1, am_s1r, am_s2, am_s2r, am_s3r, nI_add, am_u_ne, am_u_at, am_u_n1, am_u_n2, am_w_ne, ↓reduceIte, hP, h1, slF]
  | succ m ih =>
    intro p s l4 l5 hp hs n4 n5
    have h1 : ¬ nI P ≤ nI p := nI_ge (by omega) (by omega)
    have h2 : ¬ nI 5 ≤ nI p := nI_ge (by omega) (by omega)
    have g31 := hg31 p
    rw [rX2_tellingPuppet_8]
    simp only [am_lv_of, rX2_tellingPuppet_9, rX2_tellingPuppet_10, rX2_tellingPuppet_13, rX2_tellingPuppet_16, rX2_tellingPuppet_19, rX2_tellingPuppet_20, rX2_tellingPuppet_21, rX2_tellingPuppet_24, rX2_tellingPuppet_25, rX2_tellingPuppet_27, rX2_tellingPuppet_28, ro_0_0 hR, ro_0_3 hR, ro_0_4 hR, ro_0_5 hR, ro_0_6 hR, ro_0_7 hR, ro_0_8 hR, ro_0_9 hR, ro_0_10 hR, ro_0_11 hR, ro_2_6 hR, ro_2_7 hR, ro_2_8 hR, ro_2_9 hR, ro_2_10 hR, ro_2_11 hR, ro_2_12 hR, ro_2_13 hR, ro_9_0 hR, ro_9_1 hR, ro_9_2 hR, ro_14_0 hR, ro_14_1 hR, ro_14_2 hR, ro_14_7 hR, ro_15_0 hR, ro_15_1 hR, ro_15_2 hR, ro_15_3 hR, ro_20_6 hR, ro_20_7 hR, ro_20_8 hR, ro_20_9 hR, ro_20_10 hR, ro_20_11 hR, ro_20_12 hR, ro_20_13 hR, ro_27_0 hR, ro_27_1 hR, ro_27_2 hR, ro_32_0 hR, ro_32_1 hR, ro_34_10 hR, ro_34_11 hR, ro_34_12 hR, ro_34_13 hR, ro_39_0 hR, ro_39_1 hR, ro_42_0 hR, ro_42_1 hR, ro_47_0 hR, ro_47_1 hR, ro_47_2 hR, ro_47_3 hR, ro_55_0 hR, ro_55_1 hR, ro_55_2 hR, ro_57_0 hR, ro_57_1 hR, ro_57_2 hR, ro_57_3 hR, ro_57_4 hR, ro_57_5 hR, ro_57_8 hR, sh_0, sh_1, sh_2, sh_3, sh_4, sh_5, sh_6, sh_7, sh_8, sh_9, sh_10, sh_11, sh_12, sh_13, sh_14, sh_15, sh_16, sh_17, sh_18, sh_19, sh_20, sh_21, sh_22, sh_23, sh_24, sh_25, sh_26, sh_27, sh_28, sh_29, sh_30, sh_31, sh_32, sh_33, sh_34, sh_35, sh_36, sh_37, sh_38, sh_39, sh_40, sh_41, sh_42, sh_43, sh_44, sh_45, sh_46, sh_47, sh_48, sh_49, sh_50, sh_51, sh_52, sh_53, sh_54, sh_55, sh_56, sh_57, sh_58, sh_59, sh_60, sh_61, sh_62, sh_63, sh_64, sh_65, sh_66, sh_67, sh_68, hl, hvw9, Nat.reduceLT, Nat.reduceAdd, Nat.reduceMul, ne_eq, Nat.reduceEqDiff, not_false_eq_true, or_true, true_or, or_false, false_or, and_true, true_and, and_self, Nat.reduceLeDiff, am_ci, am_cr, am_cn0, Option.toList_some, Option.toList_none, List.cons_append, List.nil_append, am_s0, am_s1, am_s1r, am_s2, am_s2r, am_s3r, nI_add, am_u_ne, am_u_at, am_u_n1, am_u_n2, am_w_ne, ↓reduceIte, hP, h1, h2, n4, n5]
    rw [l_tpIn hR hN (by omega) (hf p (by omega)) (hf31 p) 10 0 0 (by omega) (by omega), ← hg p, slF]
    cases s with
    | none =>
      have h3 : ¬ nI 1000000 ≤ nI (g p) := nI_ge (by omega) (by omega)
      have e0 : slC none = nI 1000000 := rfl
      simp only [am_lv_of, rX2_tellingPuppet_59, rX2_tellingPuppet_61, rX2_tellingPuppet_62, rX2_tellingPuppet_65, rX2_tellingPuppet_67, rX2_tellingPuppet_68, rX2_tellingPuppet_69, rX2_tellingPuppet_70, rX2_tellingPuppet_73, hl, hvw9, Nat.reduceLT, Nat.reduceAdd, Nat.reduceMul, ne_eq, Nat.reduceEqDiff, not_false_eq_true, or_true, true_or, or_false, false_or, and_true, true_and, and_self, Nat.reduceLeDiff, am_ci, am_cr, am_cn0, Option.toList_some, Option.toList_none, List.cons_append, List.nil_append, am_s0, am_s1, am_s1r, am_s2, am_s2r, am_s3r, nI_add, am_u_ne, am_u_at, am_u_n1, am_u_n2, am_w_ne, ↓reduceIte, e0, h3, slS]
      exact ih (p + 1) (some (p, g p)) _ _ (by omega) (fun q hq => by cases hq; exact Nat.lt_trans g31 (by omega)) am_ci am_ci
    | some q =>
      have q31 := hs q rfl
      have e0 : slC (some q) = nI q.2 := rfl
      by_cases hlt : g p < q.2
      · have h3 : ¬ nI q.2 ≤ nI (g p) := nI_ge hlt (by omega)
        simp only [am_lv_of, rX2_tellingPuppet_59, rX2_tellingPuppet_61, rX2_tellingPuppet_62, rX2_tellingPuppet_65, rX2_tellingPuppet_67, rX2_tellingPuppet_68, rX2_tellingPuppet_69, rX2_tellingPuppet_70, rX2_tellingPuppet_73, hl, hvw9, Nat.reduceLT, Nat.reduceAdd, Nat.reduceMul, ne_eq, Nat.reduceEqDiff, not_false_eq_true, or_true, true_or, or_false, false_or, and_true, true_and, and_self, Nat.reduceLeDiff, am_ci, am_cr, am_cn0, Option.toList_some, Option.toList_none, List.cons_append, List.nil_append, am_s0, am_s1, am_s1r, am_s2, am_s2r, am_s3r, nI_add, am_u_ne, am_u_at, am_u_n1, am_u_n2, am_w_ne, ↓reduceIte, e0, h3, if_pos hlt, slS]
        exact ih (p + 1) (some (p, g p)) _ _ (by omega) (fun q hq => by cases hq; exact Nat.lt_trans g31 (by omega)) am_ci am_ci
      · have h3 : nI q.2 ≤ nI (g p) := nI_le (by omega) (by omega)
        have := ih (p + 1) (some q) (some (.int (nI (g p)))) (some (.int (nI 10))) (by omega) hs am_ci am_ci
        rw [e0] at this
        simp only [am_lv_of, rX2_tellingPuppet_59, rX2_tellingPuppet_61, rX2_tellingPuppet_62, rX2_tellingPuppet_65, rX2_tellingPuppet_67, rX2_tellingPuppet_68, rX2_tellingPuppet_69, rX2_tellingPuppet_70, rX2_tellingPuppet_73, hl, hvw9, Nat.reduceLT, Nat.reduceAdd, Nat.reduceMul, ne_eq, Nat.reduceEqDiff, not_false_eq_true, or_true, true_or, or_false, false_or, and_true, true_and, and_self, Nat.reduceLeDiff, am_ci, am_cr, am_cn0, Option.toList_some, Option.toList_none, List.cons_append, List.nil_append, am_s0, am_s1, am_s1r, am_s2, am_s2r, am_s3r, nI_add, am_u_ne, am_u_at, am_u_n1, am_u_n2, am_w_ne, ↓reduceIte, e0, h3, if_neg hlt, slS]
        exact this
def lkP (k j : Nat) : Prop := icP k j ∨ k = 113
theorem lk_sc {I' : Nat → Nat → Int32} (h : am_ag lkP I I') : am_ag scrP I I' := h.mono (fun k j z => by unfold lkP icP at z; unfold scrP; omega)
theorem rf_lk {J : Nat → Nat → Int32} (H : rf_S I σ) (g : am_ag lkP I J) : rf_S J σ := by
  obtain ⟨h1, h2, h3, h4, h5, h6, h7, h8, h9, h10⟩ := H
  have e : ∀ k j, k ≠ 104 → k ≠ 113 → J k j = I k j := fun k j a1 a2 => g k j (by unfold lkP icP; omega)
  refine ⟨by rw [e _ _ (by omega) (by omega)]; exact h1, h2, by rw [e _ _ (by omega) (by omega)]; exact h3, h4, by rw [e _ _ (by omega) (by omega)]; exact h5, h6, by rw [e _ _ (by omega) (by omega)]; exact h7, h8, fun s hs => ?_, fun k hk => (h10 k hk).mv (fun k j hk => e k j (by omega) (by omega))⟩
  rw [e 83 _ (by omega) (by omega), e 84 _ (by omega) (by omega), e 85 _ (by omega) (by omega), e 86 _ (by omega) (by omega)]
  exact h9 s hs
theorem l_look0 {l1 l2 l4 l5 l6 l7 : Option Value} (hR : am_OR R) (hN : 116 ≤ n) (hn : n ≤ 1000) (n2 : am_nl l2) : ∀ (m i : Nat) (J : Nat → Nat → Int32), i + m = 50 → am_ag lkP I J → (∀ j, j < i → J 113 j = nI 0) → (∀ I', am_ag lkP I I' → (∀ j, j < 50 → I' 113 j = nI 0) → am_E X d mX13_look 32 [some (.ref 69), l1, l2, some (.int (nI 50)), l4, l5, l6, l7] [] (n, I', L, R) Q) → am_E X d mX13_look 13 [some (.ref 69), l1, l2, some (.int (nI i)), l4, l5, l6, l7] [] (n, J, L, R) Q := by
  have hl := am_lt hN
  have hvw9 := am_lw hN
  intro m
  induction m with
  | zero =>
    intro i J hi hJ hc hQ
    have hi : i = 50 := by omega
    subst hi
    have h1 : nI 50 ≤ nI 50 := by decide
    simp only [am_lv_of, rX13_look_13, rX13_look_14, rX13_look_16, ↓reduceIte, h1]
    exact hQ J hJ hc
  | succ m ih =>
    intro i J hi hJ hc hQ
    have h1 : ¬ nI 50 ≤ nI i := nI_ge (by omega) (by omega)
    have i1 : i < 50 := by omega
    rw [rX13_look_13]
    simp only [am_lv_of, rX13_look_14, rX13_look_16, rX13_look_19, rX13_look_20, rX13_look_23, rX13_look_24, rX13_look_25, rX13_look_26, rX13_look_29, ro_69_1 hR, ro_69_3 hR, ro_69_5 hR, ro_69_6 hR, ro_69_7 hR, ro_69_8 hR, ro_69_9 hR, ro_69_21 hR, ro_69_22 hR, ro_69_23 hR, ro_69_24 hR, ro_69_25 hR, ro_69_26 hR, ro_69_27 hR, ro_69_28 hR, ro_69_29 hR, ro_69_30 hR, ro_69_31 hR, ro_69_32 hR, ro_69_33 hR, ro_69_34 hR, ro_69_35 hR, ro_69_36 hR, ro_69_38 hR, ro_69_39 hR, ro_69_40 hR, ro_69_41 hR, ro_69_42 hR, ro_69_44 hR, ro_69_45 hR, ro_69_46 hR, ro_69_48 hR, ro_69_49 hR, ro_69_51 hR, ro_69_52 hR, ro_69_55 hR, ro_69_56 hR, ro_69_57 hR, ro_69_58 hR, ro_69_59 hR, ro_69_61 hR, ro_69_62 hR, ro_69_63 hR, ro_69_64 hR, ro_69_65 hR, ro_69_66 hR, sh_69, sh_70, sh_71, sh_72, sh_73, sh_74, sh_75, sh_76, sh_77, sh_78, sh_79, sh_80, sh_81, sh_82, sh_83, sh_84, sh_85, sh_86, sh_87, sh_88, sh_89, sh_90, sh_91, sh_92, sh_93, sh_94, sh_95, sh_96, sh_97, sh_98, sh_99, sh_100, sh_101, sh_102, sh_103, sh_104, sh_105, sh_106, sh_107, sh_108, sh_109, sh_110, sh_111, sh_112, sh_113, sh_114, sh_115, hl, hvw9, Nat.reduceLT, Nat.reduceAdd, Nat.reduceMul, ne_eq, Nat.reduceEqDiff, not_false_eq_true, or_true, true_or, or_false, false_or, and_true, true_and, and_self, Nat.reduceLeDiff, am_ci, am_cr, am_cn0, Option.toList_some, Option.toList_none, List.cons_append, List.nil_append, am_s0, am_s1, am_s1r, am_s2, am_s2r, am_s3r, nI_add, am_u_ne, am_u_at, am_u_n1, am_u_n2, am_w_ne, ↓reduceIte, hn, h1, i1, n2]
    refine ih (i + 1) _ (by omega) (hJ.u (Or.inr rfl)) (fun j hj => ?_) hQ
    by_cases e : j = i
    · rw [e, am_u_at]
    · rw [am_u_n2 e]; exact hc j (by omega)
theorem l_lookIn {way w : Nat} {ok : Nat → Option Nat} {l1 l2 l5 l6 l7 : Option Value} {K : Nat → Nat → Int32} {t : Option Value} (hR : am_OR R) (hN : 116 ≤ n) (hn : n ≤ 1000) (H : rf_S K σ) (n3 : am_nl t) (hx : ∀ p, p < 5 → K 104 p = nI (xw w p)) (hx9 : ∀ p, p < 5 → xw w p ≤ 9) (hok : ok way = some w) (hc : ∀ p, p < p_P σ → ∀ x, x < 10 → K 113 (10 * p + x) = nI (cnF (enB ok p x) way)) (hQ : ∀ I' l4, am_ag (fun k _ => k = 113) K I' → (∀ p, p < p_P σ → ∀ x, x < 10 → I' 113 (10 * p + x) = nI (cnF (enB ok p x) (way + 1))) → am_nl l4 → am_E X d mX13_look 97 [some (.ref 69), l1, l2, t, l4, l5, l6, l7] [] (n, I', L, R) Q) : ∀ (m p : Nat) (J : Nat → Nat → Int32), p + m = p_P σ → am_ag (fun k _ => k = 113) K J → (∀ q, q < p_P σ → ∀ x, x < 10 → J 113 (10 * q + x) = if q < p then nI (cnF (enB ok q x) (way + 1)) else nI (cnF (enB ok q x) way)) → am_E X d mX13_look 55 [some (.ref 69), l1, l2, t, some (.int (nI p)), l5, l6, l7] [] (n, J, L, R) Q := by
  have hl := am_lt hN
  have hvw9 := am_lw hN
  obtain ⟨f1, f2, f3, f4, -⟩ := id H
  intro m
  induction m with
  | zero =>
    intro p J hp hJ hk
    have hp : p = p_P σ := by omega
    subst hp
    have e1 : J 69 18 = nI (p_lv σ) := by rw [hJ 69 18 (by omega)]; exact f1
    have e3 : J 79 (p_lv σ) = nI (p_P σ) := by rw [hJ 79 _ (by omega)]; exact f3
    have h1 : nI (p_P σ) ≤ nI (p_P σ) := nI_le (Nat.le_refl _) (by omega)
    simp only [am_lv_of, rX13_look_55, rX13_look_57, rX13_look_58, rX13_look_61, rX13_look_62, rX13_look_65, rX13_look_66, ro_69_1 hR, ro_69_3 hR, ro_69_5 hR, ro_69_6 hR, ro_69_7 hR, ro_69_8 hR, ro_69_9 hR, ro_69_21 hR, ro_69_22 hR, ro_69_23 hR, ro_69_24 hR, ro_69_25 hR, ro_69_26 hR, ro_69_27 hR, ro_69_28 hR, ro_69_29 hR, ro_69_30 hR, ro_69_31 hR, ro_69_32 hR, ro_69_33 hR, ro_69_34 hR, ro_69_35 hR, ro_69_36 hR, ro_69_38 hR, ro_69_39 hR, ro_69_40 hR, ro_69_41 hR, ro_69_42 hR, ro_69_44 hR, ro_69_45 hR, ro_69_46 hR, ro_69_48 hR, ro_69_49 hR, ro_69_51 hR, ro_69_52 hR, ro_69_55 hR, ro_69_56 hR, ro_69_57 hR, ro_69_58 hR, ro_69_59 hR, ro_69_61 hR, ro_69_62 hR, ro_69_63 hR, ro_69_64 hR, ro_69_65 hR, ro_69_66 hR, sh_69, sh_70, sh_71, sh_72, sh_73, sh_74, sh_75, sh_76, sh_77, sh_78, sh_79, sh_80, sh_81, sh_82, sh_83, sh_84, sh_85, sh_86, sh_87, sh_88, sh_89, sh_90, sh_91, sh_92, sh_93, sh_94, sh_95, sh_96, sh_97, sh_98, sh_99, sh_100, sh_101, sh_102, sh_103, sh_104, sh_105, sh_106, sh_107, sh_108, sh_109, sh_110, sh_111, sh_112, sh_113, sh_114, sh_115, hl, hvw9, Nat.reduceLT, Nat.reduceAdd, Nat.reduceMul, ne_eq, Nat.reduceEqDiff, not_false_eq_true, or_true, true_or, or_false, false_or, and_true, true_and, and_self, Nat.reduceLeDiff, am_ci, am_cr, am_cn0, Option.toList_some, Option.toList_none, List.cons_append, List.nil_append, am_s0, am_s1, am_s1r, am_s2, am_s2r, am_s3r, nI_add, am_u_ne, am_u_at, am_u_n1, am_u_n2, am_w_ne, ↓reduceIte, e1, f2, e3, h1]
    exact hQ J _ hJ (fun q hq x hx => by rw [hk q hq x hx, if_pos hq]) am_ci
  | succ m ih =>
    intro p J hp hJ hk
    have e1 : J 69 18 = nI (p_lv σ) := by rw [hJ 69 18 (by omega)]; exact f1
    have e3 : J 79 (p_lv σ) = nI (p_P σ) := by rw [hJ 79 _ (by omega)]; exact f3
    have h1 : ¬ nI (p_P σ) ≤ nI p := nI_ge (by omega) (by omega)
    have p68 : p < 68 := by omega
    have x9 := hx9 p (by omega)
    have ex : J 104 p = nI (xw w p) := by rw [hJ 104 p (by omega)]; exact hx p (by omega)
    have i50 : 10 * p + xw w p < 50 := by omega
    have e0 := hk p (by omega) (xw w p) (by omega)
    rw [if_neg (by omega)] at e0
    have es : ∀ x, x < 10 → cnF (enB ok p x) (way + 1) = cnF (enB ok p x) way + if xw w p = x then 1 else 0 := fun x _ => by
      rw [cnF]
      unfold enB
      rw [hok]
      by_cases e : xw w p = x <;> simp [e]
    rw [rX13_look_55]
    simp only [am_lv_of, rX13_look_57, rX13_look_58, rX13_look_61, rX13_look_62, rX13_look_65, rX13_look_66, rX13_look_69, rX13_look_70, rX13_look_73, rX13_look_75, rX13_look_77, rX13_look_78, rX13_look_79, rX13_look_82, rX13_look_84, rX13_look_85, rX13_look_86, rX13_look_87, rX13_look_88, rX13_look_89, rX13_look_90, rX13_look_91, rX13_look_94, ro_69_1 hR, ro_69_3 hR, ro_69_5 hR, ro_69_6 hR, ro_69_7 hR, ro_69_8 hR, ro_69_9 hR, ro_69_21 hR, ro_69_22 hR, ro_69_23 hR, ro_69_24 hR, ro_69_25 hR, ro_69_26 hR, ro_69_27 hR, ro_69_28 hR, ro_69_29 hR, ro_69_30 hR, ro_69_31 hR, ro_69_32 hR, ro_69_33 hR, ro_69_34 hR, ro_69_35 hR, ro_69_36 hR, ro_69_38 hR, ro_69_39 hR, ro_69_40 hR, ro_69_41 hR, ro_69_42 hR, ro_69_44 hR, ro_69_45 hR, ro_69_46 hR, ro_69_48 hR, ro_69_49 hR, ro_69_51 hR, ro_69_52 hR, ro_69_55 hR, ro_69_56 hR, ro_69_57 hR, ro_69_58 hR, ro_69_59 hR, ro_69_61 hR, ro_69_62 hR, ro_69_63 hR, ro_69_64 hR, ro_69_65 hR, ro_69_66 hR, sh_69, sh_70, sh_71, sh_72, sh_73, sh_74, sh_75, sh_76, sh_77, sh_78, sh_79, sh_80, sh_81, sh_82, sh_83, sh_84, sh_85, sh_86, sh_87, sh_88, sh_89, sh_90, sh_91, sh_92, sh_93, sh_94, sh_95, sh_96, sh_97, sh_98, sh_99, sh_100, sh_101, sh_102, sh_103, sh_104, sh_105, sh_106, sh_107, sh_108, sh_109, sh_110, sh_111, sh_112, sh_113, sh_114, sh_115, hl, hvw9, Nat.reduceLT, Nat.reduceAdd, Nat.reduceMul, ne_eq, Nat.reduceEqDiff, not_false_eq_true, or_true, true_or, or_false, false_or, and_true, true_and, and_self, Nat.reduceLeDiff, am_ci, am_cr, am_cn0, Option.toList_some, Option.toList_none, List.cons_append, List.nil_append, am_s0, am_s1, am_s1r, am_s2, am_s2r, am_s3r, nI_add, am_u_ne, am_u_at, am_u_n1, am_u_n2, am_w_ne, ↓reduceIte, hn, e1, f2, e3, h1, p68, ex, pk_mul, i50, e0, n3]
    refine ih (p + 1) _ (by omega) (hJ.u rfl) (fun q hq x hx10 => ?_)
    by_cases e1 : q = p
    · subst e1
      rw [if_pos (by omega)]
      by_cases e2 : x = xw w q
      · subst e2
        rw [am_u_at, es _ hx10, if_pos rfl]
      · rw [am_u_n2 (by omega), hk q hq x hx10, if_neg (by omega), es x hx10, if_neg (fun z => e2 z.symm)]
        rfl
    · rw [am_u_n2 (by omega), hk q hq x hx10]
      by_cases h : q < p
      · rw [if_pos h, if_pos (by omega)]
      · rw [if_neg h, if_neg (by omega)]
theorem l_lookR {k ln w0 : Nat} {l5 l6 l7 : Option Value} (hR : am_OR R) (hN : 116 ≤ n) (hn : n ≤ 1000) (ho : ok_S σ) (H : rf_S I σ) (hk2 : k ≤ 20) (ht : tlR I τ k) (hln : ln ≤ 5) (hw0 : okP σ w0) (hx : ∀ p, p < 5 → I 103 p = nI (xw w0 p)) (hQ : ∀ I' l3 l4, am_ag lkP I I' → (∀ p, p < p_P σ → ∀ x, x < 10 → I' 113 (10 * p + x) = nI (cnF (enB (goW σ τ k ln 0 w0) p x) (7 ^ ln))) → am_nl l3 → am_nl l4 → am_E X (d + 3) mX13_look 103 [some (.ref 69), some (.int (nI k)), some (.int (nI ln)), l3, l4, l5, l6, l7] [] (n, I', L, R) Q) : ∀ (m t : Nat) (J : Nat → Nat → Int32) (l4 : Option Value), t + m = 7 ^ ln → am_ag lkP I J → (∀ p, p < p_P σ → ∀ x, x < 10 → J 113 (10 * p + x) = nI (cnF (enB (goW σ τ k ln 0 w0) p x) t)) → am_nl l4 → am_E X (d + 3) mX13_look 34 [some (.ref 69), some (.int (nI k)), some (.int (nI ln)), some (.int (nI t)), l4, l5, l6, l7] [] (n, J, L, R) Q := by
  have hl := am_lt hN
  have hvw9 := am_lw hN
  have p7 := pow7 hln
  intro m
  induction m with
  | zero =>
    intro t J l4 ht0 hJ hc n4
    have ht0 : t = 7 ^ ln := by omega
    subst ht0
    have h1 : nI (7 ^ ln) ≤ nI (7 ^ ln) := nI_le (Nat.le_refl _) (by omega)
    simp only [am_lv_of, rX13_look_34, rX13_look_35, rX13_look_36, rX13_look_39, ro_69_1 hR, ro_69_3 hR, ro_69_5 hR, ro_69_6 hR, ro_69_7 hR, ro_69_8 hR, ro_69_9 hR, ro_69_21 hR, ro_69_22 hR, ro_69_23 hR, ro_69_24 hR, ro_69_25 hR, ro_69_26 hR, ro_69_27 hR, ro_69_28 hR, ro_69_29 hR, ro_69_30 hR, ro_69_31 hR, ro_69_32 hR, ro_69_33 hR, ro_69_34 hR, ro_69_35 hR, ro_69_36 hR, ro_69_38 hR, ro_69_39 hR, ro_69_40 hR, ro_69_41 hR, ro_69_42 hR, ro_69_44 hR, ro_69_45 hR, ro_69_46 hR, ro_69_48 hR, ro_69_49 hR, ro_69_51 hR, ro_69_52 hR, ro_69_55 hR, ro_69_56 hR, ro_69_57 hR, ro_69_58 hR, ro_69_59 hR, ro_69_61 hR, ro_69_62 hR, ro_69_63 hR, ro_69_64 hR, ro_69_65 hR, ro_69_66 hR, sh_69, sh_70, sh_71, sh_72, sh_73, sh_74, sh_75, sh_76, sh_77, sh_78, sh_79, sh_80, sh_81, sh_82, sh_83, sh_84, sh_85, sh_86, sh_87, sh_88, sh_89, sh_90, sh_91, sh_92, sh_93, sh_94, sh_95, sh_96, sh_97, sh_98, sh_99, sh_100, sh_101, sh_102, sh_103, sh_104, sh_105, sh_106, sh_107, sh_108, sh_109, sh_110, sh_111, sh_112, sh_113, sh_114, sh_115, hl, hvw9, Nat.reduceLT, Nat.reduceAdd, Nat.reduceMul, ne_eq, Nat.reduceEqDiff, not_false_eq_true, or_true, true_or, or_false, false_or, and_true, true_and, and_self, Nat.reduceLeDiff, am_ci, am_cr, am_cn0, Option.toList_some, Option.toList_none, List.cons_append, List.nil_append, am_s0, am_s1, am_s1r, am_s2, am_s2r, am_s3r, nI_add, am_u_ne, am_u_at, am_u_n1, am_u_n2, am_w_ne, ↓reduceIte, c_sevens (show ln < 2 ^ 30 by omega), h1]
    exact hQ J _ l4 hJ hc am_ci n4
  | succ m ih =>
    intro t J l4 ht0 hJ hc n4
    have h1 : ¬ nI (7 ^ ln) ≤ nI t := nI_ge (by omega) (by omega)
    have HJ := rf_lk H hJ
    rw [rX13_look_34]
    simp only [am_lv_of, rX13_look_35, rX13_look_36, rX13_look_39, rX13_look_42, rX13_look_43, rX13_look_44, rX13_look_45, rX13_look_46, ro_69_1 hR, ro_69_3 hR, ro_69_5 hR, ro_69_6 hR, ro_69_7 hR, ro_69_8 hR, ro_69_9 hR, ro_69_21 hR, ro_69_22 hR, ro_69_23 hR, ro_69_24 hR, ro_69_25 hR, ro_69_26 hR, ro_69_27 hR, ro_69_28 hR, ro_69_29 hR, ro_69_30 hR, ro_69_31 hR, ro_69_32 hR, ro_69_33 hR, ro_69_34 hR, ro_69_35 hR, ro_69_36 hR, ro_69_38 hR, ro_69_39 hR, ro_69_40 hR, ro_69_41 hR, ro_69_42 hR, ro_69_44 hR, ro_69_45 hR, ro_69_46 hR, ro_69_48 hR, ro_69_49 hR, ro_69_51 hR, ro_69_52 hR, ro_69_55 hR, ro_69_56 hR, ro_69_57 hR, ro_69_58 hR, ro_69_59 hR, ro_69_61 hR, ro_69_62 hR, ro_69_63 hR, ro_69_64 hR, ro_69_65 hR, ro_69_66 hR, sh_69, sh_70, sh_71, sh_72, sh_73, sh_74, sh_75, sh_76, sh_77, sh_78, sh_79, sh_80, sh_81, sh_82, sh_83, sh_84, sh_85, sh_86, sh_87, sh_88, sh_89, sh_90, sh_91, sh_92, sh_93, sh_94, sh_95, sh_96, sh_97, sh_98, sh_99, sh_100, sh_101, sh_102, sh_103, sh_104, sh_105, sh_106, sh_107, sh_108, sh_109, sh_110, sh_111, sh_112, sh_113, sh_114, sh_115, hl, hvw9, Nat.reduceLT, Nat.reduceAdd, Nat.reduceMul, ne_eq, Nat.reduceEqDiff, not_false_eq_true, or_true, true_or, or_false, false_or, and_true, true_and, and_self, Nat.reduceLeDiff, am_ci, am_cr, am_cn0, Option.toList_some, Option.toList_none, List.cons_append, List.nil_append, am_s0, am_s1, am_s1r, am_s2, am_s2r, am_s3r, nI_add, am_u_ne, am_u_at, am_u_n1, am_u_n2, am_w_ne, ↓reduceIte, c_sevens (show ln < 2 ^ 30 by omega), h1]
    refine c_isCloth (τ := τ) (w0 := w0) hR hN hn ho HJ hk2 (fun j hj => ?_) hln (show t < 16807 by omega) hw0 (fun p hp => by rw [hJ 103 p (by unfold lkP icP; omega)]; exact hx p hp) (fun J1 g1 x1 => ?_)
    · rw [hJ 110 j (by unfold lkP icP; omega), hJ 111 j (by unfold lkP icP; omega), hJ 112 j (by unfold lkP icP; omega)]; exact ht j hj
    · have hJ1 : am_ag lkP I J1 := hJ.trans (g1.mono (fun k j z => Or.inl z))
      have hc1 : ∀ p, p < p_P σ → ∀ x, x < 10 → J1 113 (10 * p + x) = nI (cnF (enB (goW σ τ k ln 0 w0) p x) t) := fun p hp x hx => by
        rw [g1 113 _ (by unfold icP; omega)]; exact hc p hp x hx
      simp only [am_lv_of, Option.toList_some, List.cons_append, List.nil_append, rX13_look_49, bI_ne]
      cases hb : goW σ τ k ln 0 w0 t with
      | none =>
        simp only [am_lv_of, Option.isSome_none, ↓reduceIte, rX13_look_97, rX13_look_100, hl, hvw9, Nat.reduceLT, Nat.reduceAdd, Nat.reduceMul, ne_eq, Nat.reduceEqDiff, not_false_eq_true, or_true, true_or, or_false, false_or, and_true, true_and, and_self, Nat.reduceLeDiff, am_ci, am_cr, am_cn0, Option.toList_some, Option.toList_none, List.cons_append, List.nil_append, am_s0, am_s1, am_s1r, am_s2, am_s2r, am_s3r, nI_add, am_u_ne, am_u_at, am_u_n1, am_u_n2, am_w_ne]
        refine ih (t + 1) J1 l4 (by omega) hJ1 (fun p hp x hx => ?_) n4
        rw [hc1 p hp x hx, cnF]
        unfold enB
        rw [hb]
        simp
      | some w =>
        have hwo := goW_ok ho ln 0 w0 w hw0 hb
        simp only [am_lv_of, Option.isSome_some, Bool.true_eq_false, ↓reduceIte, rX13_look_52, rX13_look_53, hl, hvw9, Nat.reduceLT, Nat.reduceAdd, Nat.reduceMul, ne_eq, Nat.reduceEqDiff, not_false_eq_true, or_true, true_or, or_false, false_or, and_true, true_and, and_self, Nat.reduceLeDiff, am_ci, am_cr, am_cn0, Option.toList_some, Option.toList_none, List.cons_append, List.nil_append, am_s0, am_s1, am_s1r, am_s2, am_s2r, am_s3r, nI_add, am_u_ne, am_u_at, am_u_n1, am_u_n2, am_w_ne]
        refine l_lookIn (way := t) (w := w) (ok := goW σ τ k ln 0 w0) (K := J1) hR hN hn (rf_lk H hJ1) am_ci (x1 w hb) hwo.2.1 hb hc1 (fun J2 l4' g2 c2 n4' => ?_) (p_P σ) 0 J1 (by omega) am_ag.refl (fun q hq x hx => by rw [if_neg (by omega)]; exact hc1 q hq x hx)
        simp only [am_lv_of, rX13_look_97, rX13_look_100, hl, hvw9, Nat.reduceLT, Nat.reduceAdd, Nat.reduceMul, ne_eq, Nat.reduceEqDiff, not_false_eq_true, or_true, true_or, or_false, false_or, and_true, true_and, and_self, Nat.reduceLeDiff, am_ci, am_cr, am_cn0, Option.toList_some, Option.toList_none, List.cons_append, List.nil_append, am_s0, am_s1, am_s1r, am_s2, am_s2r, am_s3r, nI_add, am_u_ne, am_u_at, am_u_n1, am_u_n2, am_w_ne]
        exact ih (t + 1) J2 _ (by omega) (hJ1.trans (g2.mono (fun k j z => Or.inr z))) c2 n4'
theorem l_lmIn {f : Nat → Nat} {p : Nat} {l1 l2 l3 l4 : Option Value} (hR : am_OR R) (hN : 116 ≤ n) (hp : p < 5) (hf : ∀ x, x < 10 → I 113 (10 * p + x) = nI (f x)) (hf31 : ∀ x, f x < 2 ^ 30) : ∀ (m x b : Nat), x + m = 10 → b < 2 ^ 30 → (am_E X d mX13_look 132 [some (.ref 69), l1, l2, l3, l4, some (.int (nI p)), some (.int (nI b)), some (.int (nI x))] [] (n, I, L, R) Q ↔ am_E X d mX13_look 178 [some (.ref 69), l1, l2, l3, l4, some (.int (nI p)), some (.int (nI (mxF f x m b))), some (.int (nI 10))] [] (n, I, L, R) Q) := by
  have hl := am_lt hN
  have hvw9 := am_lw hN
  intro m
  induction m with
  | zero =>
    intro x b hx hb
    have hx : x = 10 := by omega
    subst hx
    have h1 : nI 9 < nI 10 := by decide
    simp only [am_lv_of, rX13_look_132, rX13_look_134, rX13_look_136, ↓reduceIte, h1, mxF]
  | succ m ih =>
    intro x b hx hb
    have h1 : ¬ nI 9 < nI x := nI_nlt (by omega) (by omega)
    have i50 : 10 * p + x < 50 := by omega
    rw [rX13_look_132]
    by_cases hc : b < f x
    · have h2 : ¬ nI (f x) ≤ nI b := nI_ge hc (by have := hf31 x; omega)
      simp only [am_lv_of, rX13_look_134, rX13_look_136, rX13_look_139, rX13_look_140, rX13_look_143, rX13_look_145, rX13_look_147, rX13_look_148, rX13_look_150, rX13_look_151, rX13_look_152, rX13_look_154, rX13_look_157, rX13_look_158, rX13_look_161, rX13_look_163, rX13_look_165, rX13_look_166, rX13_look_168, rX13_look_169, rX13_look_170, rX13_look_172, rX13_look_175, ro_69_1 hR, ro_69_3 hR, ro_69_5 hR, ro_69_6 hR, ro_69_7 hR, ro_69_8 hR, ro_69_9 hR, ro_69_21 hR, ro_69_22 hR, ro_69_23 hR, ro_69_24 hR, ro_69_25 hR, ro_69_26 hR, ro_69_27 hR, ro_69_28 hR, ro_69_29 hR, ro_69_30 hR, ro_69_31 hR, ro_69_32 hR, ro_69_33 hR, ro_69_34 hR, ro_69_35 hR, ro_69_36 hR, ro_69_38 hR, ro_69_39 hR, ro_69_40 hR, ro_69_41 hR, ro_69_42 hR, ro_69_44 hR, ro_69_45 hR, ro_69_46 hR, ro_69_48 hR, ro_69_49 hR, ro_69_51 hR, ro_69_52 hR, ro_69_55 hR, ro_69_56 hR, ro_69_57 hR, ro_69_58 hR, ro_69_59 hR, ro_69_61 hR, ro_69_62 hR, ro_69_63 hR, ro_69_64 hR, ro_69_65 hR, ro_69_66 hR, sh_69, sh_70, sh_71, sh_72, sh_73, sh_74, sh_75, sh_76, sh_77, sh_78, sh_79, sh_80, sh_81, sh_82, sh_83, sh_84, sh_85, sh_86, sh_87, sh_88, sh_89, sh_90, sh_91, sh_92, sh_93, sh_94, sh_95, sh_96, sh_97, sh_98, sh_99, sh_100, sh_101, sh_102, sh_103, sh_104, sh_105, sh_106, sh_107, sh_108, sh_109, sh_110, sh_111, sh_112, sh_113, sh_114, sh_115, hl, hvw9, Nat.reduceLT, Nat.reduceAdd, Nat.reduceMul, ne_eq, Nat.reduceEqDiff, not_false_eq_true, or_true, true_or, or_false, false_or, and_true, true_and, and_self, Nat.reduceLeDiff, am_ci, am_cr, am_cn0, Option.toList_some, Option.toList_none, List.cons_append, List.nil_append, am_s0, am_s1, am_s1r, am_s2, am_s2r, am_s3r, nI_add, am_u_ne, am_u_at, am_u_n1, am_u_n2, am_w_ne, ↓reduceIte, h1, pk_mul, i50, hf x (by omega), h2]
      rw [ih (x + 1) (f x) (by omega) (hf31 x), mxF, if_pos hc]
    · have h2 : nI (f x) ≤ nI b := nI_le (by omega) (by omega)
      simp only [am_lv_of, rX13_look_134, rX13_look_136, rX13_look_139, rX13_look_140, rX13_look_143, rX13_look_145, rX13_look_147, rX13_look_148, rX13_look_150, rX13_look_151, rX13_look_152, rX13_look_154, rX13_look_157, rX13_look_158, rX13_look_161, rX13_look_163, rX13_look_165, rX13_look_166, rX13_look_168, rX13_look_169, rX13_look_170, rX13_look_172, rX13_look_175, ro_69_1 hR, ro_69_3 hR, ro_69_5 hR, ro_69_6 hR, ro_69_7 hR, ro_69_8 hR, ro_69_9 hR, ro_69_21 hR, ro_69_22 hR, ro_69_23 hR, ro_69_24 hR, ro_69_25 hR, ro_69_26 hR, ro_69_27 hR, ro_69_28 hR, ro_69_29 hR, ro_69_30 hR, ro_69_31 hR, ro_69_32 hR, ro_69_33 hR, ro_69_34 hR, ro_69_35 hR, ro_69_36 hR, ro_69_38 hR, ro_69_39 hR, ro_69_40 hR, ro_69_41 hR, ro_69_42 hR, ro_69_44 hR, ro_69_45 hR, ro_69_46 hR, ro_69_48 hR, ro_69_49 hR, ro_69_51 hR, ro_69_52 hR, ro_69_55 hR, ro_69_56 hR, ro_69_57 hR, ro_69_58 hR, ro_69_59 hR, ro_69_61 hR, ro_69_62 hR, ro_69_63 hR, ro_69_64 hR, ro_69_65 hR, ro_69_66 hR, sh_69, sh_70, sh_71, sh_72, sh_73, sh_74, sh_75, sh_76, sh_77, sh_78, sh_79, sh_80, sh_81, sh_82, sh_83, sh_84, sh_85, sh_86, sh_87, sh_88, sh_89, sh_90, sh_91, sh_92, sh_93, sh_94, sh_95, sh_96, sh_97, sh_98, sh_99, sh_100, sh_101, sh_102, sh_103, sh_104, sh_105, sh_106, sh_107, sh_108, sh_109, sh_110, sh_111, sh_112, sh_113, sh_114, sh_115, hl, hvw9, Nat.reduceLT, Nat.reduceAdd, Nat.reduceMul, ne_eq, Nat.reduceEqDiff, not_false_eq_true, or_true, true_or, or_false, false_or, and_true, true_and, and_self, Nat.reduceLeDiff, am_ci, am_cr, am_cn0, Option.toList_some, Option.toList_none, List.cons_append, List.nil_append, am_s0, am_s1, am_s1r, am_s2, am_s2r, am_s3r, nI_add, am_u_ne, am_u_at, am_u_n1, am_u_n2, am_w_ne, ↓reduceIte, h1, pk_mul, i50, hf x (by omega), h2]
      rw [ih (x + 1) b (by omega) hb, mxF, if_neg hc]
theorem l_lm {g : Nat → Nat} {f : Nat → Nat → Nat} {l1 l2 : Option Value} (hR : am_OR R) (hN : 116 ≤ n) (H : rf_S I σ) (hf : ∀ p, p < p_P σ → ∀ x, x < 10 → I 113 (10 * p + x) = nI (f p x)) (hf31 : ∀ p x, f p x < 2 ^ 30) (hg : ∀ p, g p = mxF (f p) 0 10 0) (hg31 : ∀ p, g p < 2 ^ 30) (hg0 : ∀ p, p < p_P σ → 0 < g p) (n2 : am_nl l2) : ∀ (m p : Nat) (s : Option (Nat × Nat)) (l6 l7 : Option Value), p + m = p_P σ → (∀ q, s = some q → q.1 < 5 ∧ q.2 < 2 ^ 30) → am_nl l6 → am_nl l7 → (am_E X d mX13_look 112 [some (.ref 69), l1, l2, some (.int (slB s)), some (.int (slR s)), some (.int (nI p)), l6, l7] [] (n, I, L, R) Q ↔ Q (some (.int (slB (slF g p m s)))) (n, I, L, R)) := by
  have hl := am_lt hN
  have hvw9 := am_lw hN
  obtain ⟨f1, f2, f3, f4, -⟩ := id H
  intro m
  induction m with
  | zero =>
    intro p s l6 l7 hp hs n6 n7
    have hp : p = p_P σ := by omega
    subst hp
    have h1 : nI (p_P σ) ≤ nI (p_P σ) := nI_le (Nat.le_refl _) (by omega)
    simp only [am_lv_of, rX13_look_112, rX13_look_114, rX13_look_115, rX13_look_118, rX13_look_119, rX13_look_122, rX13_look_123, rX13_look_213, rX13_look_214, ro_69_1 hR, ro_69_3 hR, ro_69_5 hR, ro_69_6 hR, ro_69_7 hR, ro_69_8 hR, ro_69_9 hR, ro_69_21 hR, ro_69_22 hR, ro_69_23 hR, ro_69_24 hR, ro_69_25 hR, ro_69_26 hR, ro_69_27 hR, ro_69_28 hR, ro_69_29 hR, ro_69_30 hR, ro_69_31 hR, ro_69_32 hR, ro_69_33 hR, ro_69_34 hR, ro_69_35 hR, ro_69_36 hR, ro_69_38 hR, ro_69_39 hR, ro_69_40 hR, ro_69_41 hR, ro_69_42 hR, ro_69_44 hR, ro_69_45 hR, ro_69_46 hR, ro_69_48 hR, ro_69_49 hR, ro_69_51 hR, ro_69_52 hR, ro_69_55 hR, ro_69_56 hR, ro_69_57 hR, ro_69_58 hR, ro_69_59 hR, ro_69_61 hR, ro_69_62 hR, ro_69_63 hR, ro_69_64 hR, ro_69_65 hR, ro_69_66 hR, sh_69, sh_70, sh_71, sh_72, sh_73, sh_74, sh_75, sh_76, sh_77, sh_78, sh_79, sh_80, sh_81, sh_82, sh_83, sh_84, sh_85, sh_86, sh_87, sh_88, sh_89, sh_90, sh_91, sh_92, sh_93, sh_94, sh_95, sh_96, sh_97, sh_98, sh_99, sh_100, sh_101, sh_102, sh_103, sh_104, sh_105, sh_106, sh_107, sh_108, sh_109, sh_110, sh_111, sh_112, sh_113, sh_114, sh_115, hl, hvw9, Nat.reduceLT, Nat.reduceAdd, Nat.reduceMul, ne_eq, Nat.reduceEqDiff, not_false_eq_true, or_true, true_or, or_false, false_or, and_true, true_and, and_self, Nat.reduceLeDiff, am_ci, am_cr, am_cn0, Option.toList_some, Option.toList_none, List.cons_append, List.nil_append, am_s0, am_s1, am_s1r, am_s2, am_s2r, am_s3r, nI_add, am_u_ne, am_u_at, am_u_n1, am_u_n2, am_w_ne, ↓reduceIte, f1, f2, f3, h1, slF]
  | succ m ih =>
    intro p s l6 l7 hp hs n6 n7
    have h1 : ¬ nI (p_P σ) ≤ nI p := nI_ge (by omega) (by omega)
    have g31 := hg31 p
    have zg : ¬ nI (g p) = 0 := nI_ne0 (hg0 p (by omega)) (by omega)
    rw [rX13_look_112]
    simp only [am_lv_of, rX13_look_114, rX13_look_115, rX13_look_118, rX13_look_119, rX13_look_122, rX13_look_123, rX13_look_126, rX13_look_127, rX13_look_129, rX13_look_130, ro_69_1 hR, ro_69_3 hR, ro_69_5 hR, ro_69_6 hR, ro_69_7 hR, ro_69_8 hR, ro_69_9 hR, ro_69_21 hR, ro_69_22 hR, ro_69_23 hR, ro_69_24 hR, ro_69_25 hR, ro_69_26 hR, ro_69_27 hR, ro_69_28 hR, ro_69_29 hR, ro_69_30 hR, ro_69_31 hR, ro_69_32 hR, ro_69_33 hR, ro_69_34 hR, ro_69_35 hR, ro_69_36 hR, ro_69_38 hR, ro_69_39 hR, ro_69_40 hR, ro_69_41 hR, ro_69_42 hR, ro_69_44 hR, ro_69_45 hR, ro_69_46 hR, ro_69_48 hR, ro_69_49 hR, ro_69_51 hR, ro_69_52 hR, ro_69_55 hR, ro_69_56 hR, ro_69_57 hR, ro_69_58 hR, ro_69_59 hR, ro_69_61 hR, ro_69_62 hR, ro_69_63 hR, ro_69_64 hR, ro_69_65 hR, ro_69_66 hR, sh_69, sh_70, sh_71, sh_72, sh_73, sh_74, sh_75, sh_76, sh_77, sh_78, sh_79, sh_80, sh_81, sh_82, sh_83, sh_84, sh_85, sh_86, sh_87, sh_88, sh_89, sh_90, sh_91, sh_92, sh_93, sh_94, sh_95, sh_96, sh_97, sh_98, sh_99, sh_100, sh_101, sh_102, sh_103, sh_104, sh_105, sh_106, sh_107, sh_108, sh_109, sh_110, sh_111, sh_112, sh_113, sh_114, sh_115, hl, hvw9, Nat.reduceLT, Nat.reduceAdd, Nat.reduceMul, ne_eq, Nat.reduceEqDiff, not_false_eq_true, or_true, true_or, or_false, false_or, and_true, true_and, and_self, Nat.reduceLeDiff, am_ci, am_cr, am_cn0, Option.toList_some, Option.toList_none, List.cons_append, List.nil_append, am_s0, am_s1, am_s1r, am_s2, am_s2r, am_s3r, nI_add, am_u_ne, am_u_at, am_u_n1, am_u_n2, am_w_ne, ↓reduceIte, f1, f2, f3, h1, n6, n7]
    rw [l_lmIn hR hN (by omega) (hf p (by omega)) (hf31 p) 10 0 0 (by omega) (by omega), ← hg p, slF]
    cases s with
    | none =>
      have h3 : slB none < 0 := by decide
      simp only [am_lv_of, rX13_look_178, rX13_look_180, rX13_look_183, rX13_look_185, rX13_look_186, rX13_look_187, rX13_look_190, rX13_look_192, rX13_look_194, rX13_look_197, rX13_look_200, rX13_look_202, rX13_look_203, rX13_look_205, rX13_look_207, rX13_look_210, hl, hvw9, Nat.reduceLT, Nat.reduceAdd, Nat.reduceMul, ne_eq, Nat.reduceEqDiff, not_false_eq_true, or_true, true_or, or_false, false_or, and_true, true_and, and_self, Nat.reduceLeDiff, am_ci, am_cr, am_cn0, Option.toList_some, Option.toList_none, List.cons_append, List.nil_append, am_s0, am_s1, am_s1r, am_s2, am_s2r, am_s3r, nI_add, am_u_ne, am_u_at, am_u_n1, am_u_n2, am_w_ne, ↓reduceIte, zg, not_false_eq_true, h3, slS, n2]
      exact ih (p + 1) (some (p, g p)) _ _ (by omega) (fun q hq => by cases hq; exact ⟨by show p < 5; omega, g31⟩) am_ci am_ci
    | some q =>
      obtain ⟨q5, q31⟩ := hs q rfl
      have e0 : slR (some q) = nI q.2 := rfl
      have e1 : slB (some q) = nI q.1 := rfl
      have h3 : ¬ nI q.1 < 0 := nI_pos (by omega)
      by_cases hlt : g p < q.2
      · have h4 : nI (g p) < nI q.2 := nI_lt hlt (by omega)
        simp only [am_lv_of, rX13_look_178, rX13_look_180, rX13_look_183, rX13_look_185, rX13_look_186, rX13_look_187, rX13_look_190, rX13_look_192, rX13_look_194, rX13_look_197, rX13_look_200, rX13_look_202, rX13_look_203, rX13_look_205, rX13_look_207, rX13_look_210, hl, hvw9, Nat.reduceLT, Nat.reduceAdd, Nat.reduceMul, ne_eq, Nat.reduceEqDiff, not_false_eq_true, or_true, true_or, or_false, false_or, and_true, true_and, and_self, Nat.reduceLeDiff, am_ci, am_cr, am_cn0, Option.toList_some, Option.toList_none, List.cons_append, List.nil_append, am_s0, am_s1, am_s1r, am_s2, am_s2r, am_s3r, nI_add, am_u_ne, am_u_at, am_u_n1, am_u_n2, am_w_ne, ↓reduceIte, zg, not_false_eq_true, e0, e1, h3, h4, if_pos hlt, slS, n2]
        exact ih (p + 1) (some (p, g p)) _ _ (by omega) (fun q hq => by cases hq; exact ⟨by show p < 5; omega, g31⟩) am_ci am_ci
      · have h4 : ¬ nI (g p) < nI q.2 := nI_nlt (by omega) (by omega)
        have := ih (p + 1) (some q) (some (.int (nI (g p)))) (some (.int (nI 10))) (by omega) hs am_ci am_ci
        rw [e0, e1] at this
        simp only [am_lv_of, rX13_look_178, rX13_look_180, rX13_look_183, rX13_look_185, rX13_look_186, rX13_look_187, rX13_look_190, rX13_look_192, rX13_look_194, rX13_look_197, rX13_look_200, rX13_look_202, rX13_look_203, rX13_look_205, rX13_look_207, rX13_look_210, hl, hvw9, Nat.reduceLT, Nat.reduceAdd, Nat.reduceMul, ne_eq, Nat.reduceEqDiff, not_false_eq_true, or_true, true_or, or_false, false_or, and_true, true_and, and_self, Nat.reduceLeDiff, am_ci, am_cr, am_cn0, Option.toList_some, Option.toList_none, List.cons_append, List.nil_append, am_s0, am_s1, am_s1r, am_s2, am_s2r, am_s3r, nI_add, am_u_ne, am_u_at, am_u_n1, am_u_n2, am_w_ne, ↓reduceIte, zg, not_false_eq_true, e0, e1, h3, h4, if_neg hlt, slS, n2]
        exact this
theorem s_look {a b : Int32} (H : REL (n, I, L, R)) : sim X (d + 30) mX12_look mX13_look [some (.ref 0), some (.int a), some (.int b)] [some (.ref 69), some (.int a), some (.int b), none, none, none, none, none] (n, I, L, R) := by
  obtain ⟨σ, H⟩ := H
  have hR := H.1.1
  have hN := H.1.N
  have hn := H.1.n
  have hl := am_lt hN
  have hvw9 := am_lw hN
  obtain ⟨S1, S2, S3, S4, S5, S6, S7, ws, S8, S9⟩ := id (show relS I σ from H.2.2.1)
  obtain ⟨o1, o2, o3, o4⟩ := id S3
  obtain ⟨b1, b2, b3, b4, bz, b5, b6, b7⟩ := id S2
  obtain ⟨f1, f2, f3, f4, f5, f6, f7, f8, f9, f10⟩ := id S1
  obtain ⟨w, K, cw, cp, c16, c15, c17, c18, c19, c20, c28, c29, cK, c30, cK12, cpl, cpr, cs, cv⟩ := id (show crs I 34 (p_P σ) (p_S σ) (I 103) from H.2.2.2.2.1)
  unfold sim
  obtain ⟨T, T1, T2, T3, T4⟩ : relJ I (p_P σ) := H.2.2.2.2.2.2.2
  by_cases hask : askB a b T = true
  · obtain ⟨k, ln, k1, l1, rfl, rfl⟩ := askB_ok T1 hask
    obtain ⟨τ, tc, tr⟩ := told_ok o1 T4 k1
    have p7 := pow7 l1
    simp only [am_lv_of, rX12_look_0, rX12_look_1, rX12_look_4, rX12_look_5, rX12_look_6, rX12_look_9, rX12_look_12, rX12_look_13, rX12_look_14, rX12_look_15, rX12_look_18, rX12_look_19, rX12_look_22, rX12_look_25, rX12_look_26, rX12_look_27, ro_0_0 hR, ro_0_3 hR, ro_0_4 hR, ro_0_5 hR, ro_0_6 hR, ro_0_7 hR, ro_0_8 hR, ro_0_9 hR, ro_0_10 hR, ro_0_11 hR, ro_2_6 hR, ro_2_7 hR, ro_2_8 hR, ro_2_9 hR, ro_2_10 hR, ro_2_11 hR, ro_2_12 hR, ro_2_13 hR, ro_9_0 hR, ro_9_1 hR, ro_9_2 hR, ro_14_0 hR, ro_14_1 hR, ro_14_2 hR, ro_14_7 hR, ro_15_0 hR, ro_15_1 hR, ro_15_2 hR, ro_15_3 hR, ro_20_6 hR, ro_20_7 hR, ro_20_8 hR, ro_20_9 hR, ro_20_10 hR, ro_20_11 hR, ro_20_12 hR, ro_20_13 hR, ro_27_0 hR, ro_27_1 hR, ro_27_2 hR, ro_32_0 hR, ro_32_1 hR, ro_34_10 hR, ro_34_11 hR, ro_34_12 hR, ro_34_13 hR, ro_39_0 hR, ro_39_1 hR, ro_42_0 hR, ro_42_1 hR, ro_47_0 hR, ro_47_1 hR, ro_47_2 hR, ro_47_3 hR, ro_55_0 hR, ro_55_1 hR, ro_55_2 hR, ro_57_0 hR, ro_57_1 hR, ro_57_2 hR, ro_57_3 hR, ro_57_4 hR, ro_57_5 hR, ro_57_8 hR, sh_0, sh_1, sh_2, sh_3, sh_4, sh_5, sh_6, sh_7, sh_8, sh_9, sh_10, sh_11, sh_12, sh_13, sh_14, sh_15, sh_16, sh_17, sh_18, sh_19, sh_20, sh_21, sh_22, sh_23, sh_24, sh_25, sh_26, sh_27, sh_28, sh_29, sh_30, sh_31, sh_32, sh_33, sh_34, sh_35, sh_36, sh_37, sh_38, sh_39, sh_40, sh_41, sh_42, sh_43, sh_44, sh_45, sh_46, sh_47, sh_48, sh_49, sh_50, sh_51, sh_52, sh_53, sh_54, sh_55, sh_56, sh_57, sh_58, sh_59, sh_60, sh_61, sh_62, sh_63, sh_64, sh_65, sh_66, sh_67, sh_68, hl, hvw9, Nat.reduceLT, Nat.reduceAdd, Nat.reduceMul, ne_eq, Nat.reduceEqDiff, not_false_eq_true, or_true, true_or, or_false, false_or, and_true, true_and, and_self, Nat.reduceLeDiff, am_ci, am_cr, am_cn0, Option.toList_some, Option.toList_none, List.cons_append, List.nil_append, am_s0, am_s1, am_s1r, am_s2, am_s2r, am_s3r, nI_add, am_u_ne, am_u_at, am_u_n1, am_u_n2, am_w_ne, ↓reduceIte, c_asksC hN T2, hask, b_t, not_false_eq_true, cw]
    refine c_walk (τ := τ) hR hN hn S3 S2 l1 (by omega) tc cp.ok (fun I1 g1 c1 => ?_)
    have H1 := H.scr (wk_scr g1)
    have T3' : I1 69 60 = nI T := by rw [g1 69 60 (by unfold wkP clP; omega)]; exact T3
    have cl := cnF_le (f := fun way => (goW σ τ k ln 0 w way).isSome) (7 ^ ln)
    have hf31 : ∀ p x, cnF (enB (goW σ τ k ln 0 w) p x) (7 ^ ln) < 2 ^ 30 := fun p x => by
      have := cnF_le (f := enB (goW σ τ k ln 0 w) p x) (7 ^ ln)
      omega
    have hg31 : ∀ p, wsN (goW σ τ k ln 0 w) (7 ^ ln) p < 2 ^ 30 := fun p => by
      have := ws_le (ok := goW σ τ k ln 0 w) (t := 7 ^ ln) (p := p)
      omega
    have hgM : ∀ p, wsN (goW σ τ k ln 0 w) (7 ^ ln) p < 1000000 := fun p => by
      have := ws_le (ok := goW σ τ k ln 0 w) (t := 7 ^ ln) (p := p)
      omega
    -- the reference, up to its choice
    have ref : ∀ {v : Int32}, (∀ I2 l3 l4, RELs (n, I2, L, R) σ → (∀ p, p < p_P σ → ∀ x, x < 10 → I2 113 (10 * p + x) = nI (cnF (enB (goW σ τ k ln 0 w) p x) (7 ^ ln))) → am_nl l3 → am_nl l4 → am_E X (d + 30) mX13_look 103 [some (.ref 69), some (.int (nI k)), some (.int (nI ln)), l3, l4, none, none, none] [] (n, I2, L, R) (fun v' M2 => some (.int v) = v' ∧ REL M2)) → am_E X (d + 30) mX13_look 0 [some (.ref 69), some (.int (nI k)), some (.int (nI ln)), none, none, none, none, none] [] (n, I1, L, R) (fun v' M2 => some (.int v) = v' ∧ REL M2) := by
      intro v hv
      simp only [am_lv_of, rX13_look_0, rX13_look_1, rX13_look_2, rX13_look_3, rX13_look_6, rX13_look_9, rX13_look_10, rX13_look_11, rX13_look_12, ro_69_1 hR, ro_69_3 hR, ro_69_5 hR, ro_69_6 hR, ro_69_7 hR, ro_69_8 hR, ro_69_9 hR, ro_69_21 hR, ro_69_22 hR, ro_69_23 hR, ro_69_24 hR, ro_69_25 hR, ro_69_26 hR, ro_69_27 hR, ro_69_28 hR, ro_69_29 hR, ro_69_30 hR, ro_69_31 hR, ro_69_32 hR, ro_69_33 hR, ro_69_34 hR, ro_69_35 hR, ro_69_36 hR, ro_69_38 hR, ro_69_39 hR, ro_69_40 hR, ro_69_41 hR, ro_69_42 hR, ro_69_44 hR, ro_69_45 hR, ro_69_46 hR, ro_69_48 hR, ro_69_49 hR, ro_69_51 hR, ro_69_52 hR, ro_69_55 hR, ro_69_56 hR, ro_69_57 hR, ro_69_58 hR, ro_69_59 hR, ro_69_61 hR, ro_69_62 hR, ro_69_63 hR, ro_69_64 hR, ro_69_65 hR, ro_69_66 hR, sh_69, sh_70, sh_71, sh_72, sh_73, sh_74, sh_75, sh_76, sh_77, sh_78, sh_79, sh_80, sh_81, sh_82, sh_83, sh_84, sh_85, sh_86, sh_87, sh_88, sh_89, sh_90, sh_91, sh_92, sh_93, sh_94, sh_95, sh_96, sh_97, sh_98, sh_99, sh_100, sh_101, sh_102, sh_103, sh_104, sh_105, sh_106, sh_107, sh_108, sh_109, sh_110, sh_111, sh_112, sh_113, sh_114, sh_115, hl, hvw9, Nat.reduceLT, Nat.reduceAdd, Nat.reduceMul, ne_eq, Nat.reduceEqDiff, not_false_eq_true, or_true, true_or, or_false, false_or, and_true, true_and, and_self, Nat.reduceLeDiff, am_ci, am_cr, am_cn0, Option.toList_some, Option.toList_none, List.cons_append, List.nil_append, am_s0, am_s1, am_s1r, am_s2, am_s2r, am_s3r, nI_add, am_u_ne, am_u_at, am_u_n1, am_u_n2, am_w_ne, ↓reduceIte, c_isAsked hN T3', hask, b_t, not_false_eq_true]
      refine l_look0 hR hN hn am_ci 50 0 I1 (by omega) am_ag.refl (fun j hj => absurd hj (Nat.not_lt_zero _)) (fun I2 g2 e2 => ?_)
      have H2 := H1.scr (lk_sc g2)
      simp only [am_lv_of, rX13_look_32, rX13_look_33, hl, hvw9, Nat.reduceLT, Nat.reduceAdd, Nat.reduceMul, ne_eq, Nat.reduceEqDiff, not_false_eq_true, or_true, true_or, or_false, false_or, and_true, true_and, and_self, Nat.reduceLeDiff, am_ci, am_cr, am_cn0, Option.toList_some, Option.toList_none, List.cons_append, List.nil_append, am_s0, am_s1, am_s1r, am_s2, am_s2r, am_s3r, nI_add, am_u_ne, am_u_at, am_u_n1, am_u_n2, am_w_ne]
      refine l_lookR (τ := τ) (k := k) (ln := ln) (w0 := w) hR hN hn S3 H2.rf (by omega) (fun j hj => ?_) l1 cp.ok (fun p hp => ?_) (fun I3 l3 l4 g3 c3 n3 n4 => hv I3 l3 l4 (H2.scr (lk_sc g3)) c3 n3 n4) (7 ^ ln) 0 I2 none (by omega) am_ag.refl (fun p hp x hx => e2 _ (by omega)) am_cn0
      · rw [g2 110 j (by unfold lkP icP; omega), g2 111 j (by unfold lkP icP; omega), g2 112 j (by unfold lkP icP; omega)]; exact tlR_wk tr g1 j hj
      · rw [g2 103 p (by unfold lkP icP; omega), g1 103 p (by unfold wkP clP; omega)]; exact (cp.2.1 p hp).1
    by_cases hz : cnF (fun way => (goW σ τ k ln 0 w way).isSome) (7 ^ ln) = 0
    · have zz : (nI (cnF (fun way => (goW σ τ k ln 0 w way).isSome) (7 ^ ln)) = 0) = True := eq_true (by rw [hz]; rfl)
      simp only [am_lv_of, Option.toList_none, List.nil_append, rX12_look_30, rX12_look_31, rX12_look_34, rX12_look_37, rX12_look_40, rX12_look_42, rX12_look_45, rX12_look_46, rX12_look_49, rX12_look_52, ro_0_0 hR, ro_0_3 hR, ro_0_4 hR, ro_0_5 hR, ro_0_6 hR, ro_0_7 hR, ro_0_8 hR, ro_0_9 hR, ro_0_10 hR, ro_0_11 hR, ro_2_6 hR, ro_2_7 hR, ro_2_8 hR, ro_2_9 hR, ro_2_10 hR, ro_2_11 hR, ro_2_12 hR, ro_2_13 hR, ro_9_0 hR, ro_9_1 hR, ro_9_2 hR, ro_14_0 hR, ro_14_1 hR, ro_14_2 hR, ro_14_7 hR, ro_15_0 hR, ro_15_1 hR, ro_15_2 hR, ro_15_3 hR, ro_20_6 hR, ro_20_7 hR, ro_20_8 hR, ro_20_9 hR, ro_20_10 hR, ro_20_11 hR, ro_20_12 hR, ro_20_13 hR, ro_27_0 hR, ro_27_1 hR, ro_27_2 hR, ro_32_0 hR, ro_32_1 hR, ro_34_10 hR, ro_34_11 hR, ro_34_12 hR, ro_34_13 hR, ro_39_0 hR, ro_39_1 hR, ro_42_0 hR, ro_42_1 hR, ro_47_0 hR, ro_47_1 hR, ro_47_2 hR, ro_47_3 hR, ro_55_0 hR, ro_55_1 hR, ro_55_2 hR, ro_57_0 hR, ro_57_1 hR, ro_57_2 hR, ro_57_3 hR, ro_57_4 hR, ro_57_5 hR, ro_57_8 hR, sh_0, sh_1, sh_2, sh_3, sh_4, sh_5, sh_6, sh_7, sh_8, sh_9, sh_10, sh_11, sh_12, sh_13, sh_14, sh_15, sh_16, sh_17, sh_18, sh_19, sh_20, sh_21, sh_22, sh_23, sh_24, sh_25, sh_26, sh_27, sh_28, sh_29, sh_30, sh_31, sh_32, sh_33, sh_34, sh_35, sh_36, sh_37, sh_38, sh_39, sh_40, sh_41, sh_42, sh_43, sh_44, sh_45, sh_46, sh_47, sh_48, sh_49, sh_50, sh_51, sh_52, sh_53, sh_54, sh_55, sh_56, sh_57, sh_58, sh_59, sh_60, sh_61, sh_62, sh_63, sh_64, sh_65, sh_66, sh_67, sh_68, hl, hvw9, Nat.reduceLT, Nat.reduceAdd, Nat.reduceMul, ne_eq, Nat.reduceEqDiff, not_false_eq_true, or_true, true_or, or_false, false_or, and_true, true_and, and_self, Nat.reduceLeDiff, am_ci, am_cr, am_cn0, Option.toList_some, Option.toList_none, List.cons_append, List.nil_append, am_s0, am_s1, am_s1r, am_s2, am_s2r, am_s3r, nI_add, am_u_ne, am_u_at, am_u_n1, am_u_n2, am_w_ne, ↓reduceIte, c1.1, zz, not_true_eq_false]
      refine ref (fun I2 l3 l4 H2 c2 n3 n4 => ?_)
      obtain ⟨h1, h2, h3, h4, -⟩ := id H2.rf
      by_cases hP : p_P σ = 0
      · have q1 : nI (p_P σ) ≤ nI 0 := by rw [hP]; decide
        simp only [am_lv_of, rX13_look_103, rX13_look_105, rX13_look_106, rX13_look_107, rX13_look_109, rX13_look_110, rX13_look_112, rX13_look_114, rX13_look_115, rX13_look_118, rX13_look_119, rX13_look_122, rX13_look_123, rX13_look_213, rX13_look_214, ro_69_1 hR, ro_69_3 hR, ro_69_5 hR, ro_69_6 hR, ro_69_7 hR, ro_69_8 hR, ro_69_9 hR, ro_69_21 hR, ro_69_22 hR, ro_69_23 hR, ro_69_24 hR, ro_69_25 hR, ro_69_26 hR, ro_69_27 hR, ro_69_28 hR, ro_69_29 hR, ro_69_30 hR, ro_69_31 hR, ro_69_32 hR, ro_69_33 hR, ro_69_34 hR, ro_69_35 hR, ro_69_36 hR, ro_69_38 hR, ro_69_39 hR, ro_69_40 hR, ro_69_41 hR, ro_69_42 hR, ro_69_44 hR, ro_69_45 hR, ro_69_46 hR, ro_69_48 hR, ro_69_49 hR, ro_69_51 hR, ro_69_52 hR, ro_69_55 hR, ro_69_56 hR, ro_69_57 hR, ro_69_58 hR, ro_69_59 hR, ro_69_61 hR, ro_69_62 hR, ro_69_63 hR, ro_69_64 hR, ro_69_65 hR, ro_69_66 hR, sh_69, sh_70, sh_71, sh_72, sh_73, sh_74, sh_75, sh_76, sh_77, sh_78, sh_79, sh_80, sh_81, sh_82, sh_83, sh_84, sh_85, sh_86, sh_87, sh_88, sh_89, sh_90, sh_91, sh_92, sh_93, sh_94, sh_95, sh_96, sh_97, sh_98, sh_99, sh_100, sh_101, sh_102, sh_103, sh_104, sh_105, sh_106, sh_107, sh_108, sh_109, sh_110, sh_111, sh_112, sh_113, sh_114, sh_115, hl, hvw9, Nat.reduceLT, Nat.reduceAdd, Nat.reduceMul, ne_eq, Nat.reduceEqDiff, not_false_eq_true, or_true, true_or, or_false, false_or, and_true, true_and, and_self, Nat.reduceLeDiff, am_ci, am_cr, am_cn0, Option.toList_some, Option.toList_none, List.cons_append, List.nil_append, am_s0, am_s1, am_s1r, am_s2, am_s2r, am_s3r, nI_add, am_u_ne, am_u_at, am_u_n1, am_u_n2, am_w_ne, ↓reduceIte, h1, h2, h3, q1, n3, n4]
        exact ⟨σ, H2⟩
      · have q1 : ¬ nI (p_P σ) ≤ nI 0 := nI_ge (by omega) (by omega)
        simp only [am_lv_of, rX13_look_103, rX13_look_105, rX13_look_106, rX13_look_107, rX13_look_109, rX13_look_110, rX13_look_112, rX13_look_114, rX13_look_115, rX13_look_118, rX13_look_119, rX13_look_122, rX13_look_123, rX13_look_126, rX13_look_127, rX13_look_129, rX13_look_130, ro_69_1 hR, ro_69_3 hR, ro_69_5 hR, ro_69_6 hR, ro_69_7 hR, ro_69_8 hR, ro_69_9 hR, ro_69_21 hR, ro_69_22 hR, ro_69_23 hR, ro_69_24 hR, ro_69_25 hR, ro_69_26 hR, ro_69_27 hR, ro_69_28 hR, ro_69_29 hR, ro_69_30 hR, ro_69_31 hR, ro_69_32 hR, ro_69_33 hR, ro_69_34 hR, ro_69_35 hR, ro_69_36 hR, ro_69_38 hR, ro_69_39 hR, ro_69_40 hR, ro_69_41 hR, ro_69_42 hR, ro_69_44 hR, ro_69_45 hR, ro_69_46 hR, ro_69_48 hR, ro_69_49 hR, ro_69_51 hR, ro_69_52 hR, ro_69_55 hR, ro_69_56 hR, ro_69_57 hR, ro_69_58 hR, ro_69_59 hR, ro_69_61 hR, ro_69_62 hR, ro_69_63 hR, ro_69_64 hR, ro_69_65 hR, ro_69_66 hR, sh_69, sh_70, sh_71, sh_72, sh_73, sh_74, sh_75, sh_76, sh_77, sh_78, sh_79, sh_80, sh_81, sh_82, sh_83, sh_84, sh_85, sh_86, sh_87, sh_88, sh_89, sh_90, sh_91, sh_92, sh_93, sh_94, sh_95, sh_96, sh_97, sh_98, sh_99, sh_100, sh_101, sh_102, sh_103, sh_104, sh_105, sh_106, sh_107, sh_108, sh_109, sh_110, sh_111, sh_112, sh_113, sh_114, sh_115, hl, hvw9, Nat.reduceLT, Nat.reduceAdd, Nat.reduceMul, ne_eq, Nat.reduceEqDiff, not_false_eq_true, or_true, true_or, or_false, false_or, and_true, true_and, and_self, Nat.reduceLeDiff, am_ci, am_cr, am_cn0, Option.toList_some, Option.toList_none, List.cons_append, List.nil_append, am_s0, am_s1, am_s1r, am_s2, am_s2r, am_s3r, nI_add, am_u_ne, am_u_at, am_u_n1, am_u_n2, am_w_ne, ↓reduceIte, h1, h2, h3, q1, n3, n4]
        rw [l_lmIn hR hN (show 0 < 5 by omega) (c2 0 (by omega)) (hf31 0) 10 0 0 (by omega) (by omega)]
        have w0' : mxF (fun x => cnF (enB (goW σ τ k ln 0 w) 0 x) (7 ^ ln)) 0 10 0 = 0 := ws_0 (p := 0) hz
        have zq : (nI 0 = 0) = True := eq_true rfl

        simp only [am_lv_of, rX13_look_178, rX13_look_180, rX13_look_183, rX13_look_185, hl, hvw9, Nat.reduceLT, Nat.reduceAdd, Nat.reduceMul, ne_eq, Nat.reduceEqDiff, not_false_eq_true, or_true, true_or, or_false, false_or, and_true, true_and, and_self, Nat.reduceLeDiff, am_ci, am_cr, am_cn0, Option.toList_some, Option.toList_none, List.cons_append, List.nil_append, am_s0, am_s1, am_s1r, am_s2, am_s2r, am_s3r, nI_add, am_u_ne, am_u_at, am_u_n1, am_u_n2, am_w_ne, ↓reduceIte, w0', zq, not_true_eq_false]
        exact ⟨σ, H2⟩
    · have zz : ¬ nI (cnF (fun way => (goW σ τ k ln 0 w way).isSome) (7 ^ ln)) = 0 := nI_ne0 (by omega) (by omega)
      have eP : I1 2 0 = nI (p_P σ) := H1.cl.1
      simp only [am_lv_of, Option.toList_none, List.nil_append, rX12_look_30, rX12_look_31, rX12_look_34, rX12_look_37, rX12_look_40, rX12_look_42, rX12_look_45, rX12_look_46, rX12_look_49, rX2_tellingPuppet_0, rX2_tellingPuppet_2, rX2_tellingPuppet_3, rX2_tellingPuppet_5, rX2_tellingPuppet_6, rX2_tellingPuppet_7, ro_0_0 hR, ro_0_3 hR, ro_0_4 hR, ro_0_5 hR, ro_0_6 hR, ro_0_7 hR, ro_0_8 hR, ro_0_9 hR, ro_0_10 hR, ro_0_11 hR, ro_2_6 hR, ro_2_7 hR, ro_2_8 hR, ro_2_9 hR, ro_2_10 hR, ro_2_11 hR, ro_2_12 hR, ro_2_13 hR, ro_9_0 hR, ro_9_1 hR, ro_9_2 hR, ro_14_0 hR, ro_14_1 hR, ro_14_2 hR, ro_14_7 hR, ro_15_0 hR, ro_15_1 hR, ro_15_2 hR, ro_15_3 hR, ro_20_6 hR, ro_20_7 hR, ro_20_8 hR, ro_20_9 hR, ro_20_10 hR, ro_20_11 hR, ro_20_12 hR, ro_20_13 hR, ro_27_0 hR, ro_27_1 hR, ro_27_2 hR, ro_32_0 hR, ro_32_1 hR, ro_34_10 hR, ro_34_11 hR, ro_34_12 hR, ro_34_13 hR, ro_39_0 hR, ro_39_1 hR, ro_42_0 hR, ro_42_1 hR, ro_47_0 hR, ro_47_1 hR, ro_47_2 hR, ro_47_3 hR, ro_55_0 hR, ro_55_1 hR, ro_55_2 hR, ro_57_0 hR, ro_57_1 hR, ro_57_2 hR, ro_57_3 hR, ro_57_4 hR, ro_57_5 hR, ro_57_8 hR, sh_0, sh_1, sh_2, sh_3, sh_4, sh_5, sh_6, sh_7, sh_8, sh_9, sh_10, sh_11, sh_12, sh_13, sh_14, sh_15, sh_16, sh_17, sh_18, sh_19, sh_20, sh_21, sh_22, sh_23, sh_24, sh_25, sh_26, sh_27, sh_28, sh_29, sh_30, sh_31, sh_32, sh_33, sh_34, sh_35, sh_36, sh_37, sh_38, sh_39, sh_40, sh_41, sh_42, sh_43, sh_44, sh_45, sh_46, sh_47, sh_48, sh_49, sh_50, sh_51, sh_52, sh_53, sh_54, sh_55, sh_56, sh_57, sh_58, sh_59, sh_60, sh_61, sh_62, sh_63, sh_64, sh_65, sh_66, sh_67, sh_68, hl, hvw9, Nat.reduceLT, Nat.reduceAdd, Nat.reduceMul, ne_eq, Nat.reduceEqDiff, not_false_eq_true, or_true, true_or, or_false, false_or, and_true, true_and, and_self, Nat.reduceLeDiff, am_ci, am_cr, am_cn0, Option.toList_some, Option.toList_none, List.cons_append, List.nil_append, am_s0, am_s1, am_s1r, am_s2, am_s2r, am_s3r, nI_add, am_u_ne, am_u_at, am_u_n1, am_u_n2, am_w_ne, ↓reduceIte, c1.1, zz, not_false_eq_true]
      have := l_tp (X := X) (d := d + 29) (L := L) (Q := fun v M' => am_E X (d + 30) mX12_look 52 [some (.ref 0), some (.int (nI k)), some (.int (nI ln))] (v.toList ++ []) M' (fun v M1 => am_E X (d + 30) mX13_look 0 [some (.ref 69), some (.int (nI k)), some (.int (nI ln)), none, none, none, none, none] [] M1 (fun v' M2 => v = v' ∧ REL M2))) (g := wsN (goW σ τ k ln 0 w) (7 ^ ln)) (f := fun p x => cnF (enB (goW σ τ k ln 0 w) p x) (7 ^ ln)) hR hN eP o1 c1.2.2 hf31 (fun p => rfl) hgM (p_P σ) 0 none none none (by omega) (fun q hq => by cases hq) am_cn0 am_cn0
      refine this.mpr ?_
      simp only [am_lv_of, Option.toList_some, List.cons_append, List.nil_append, rX12_look_52]
      refine ref (fun I2 l3 l4 H2 c2 n3 n4 => ?_)
      simp only [am_lv_of, rX13_look_103, rX13_look_105, rX13_look_106, rX13_look_107, rX13_look_109, rX13_look_110, hl, hvw9, Nat.reduceLT, Nat.reduceAdd, Nat.reduceMul, ne_eq, Nat.reduceEqDiff, not_false_eq_true, or_true, true_or, or_false, false_or, and_true, true_and, and_self, Nat.reduceLeDiff, am_ci, am_cr, am_cn0, Option.toList_some, Option.toList_none, List.cons_append, List.nil_append, am_s0, am_s1, am_s1r, am_s2, am_s2r, am_s3r, nI_add, am_u_ne, am_u_at, am_u_n1, am_u_n2, am_w_ne, n3, n4]
      have := l_lm (X := X) (d := d + 30) (L := L) (Q := fun v' M2 => some (Value.int (slB (slF (wsN (goW σ τ k ln 0 w) (7 ^ ln)) 0 (p_P σ) none))) = v' ∧ REL M2) (l1 := some (.int (nI k))) (l2 := some (.int (nI ln))) (g := wsN (goW σ τ k ln 0 w) (7 ^ ln)) (f := fun p x => cnF (enB (goW σ τ k ln 0 w) p x) (7 ^ ln)) hR hN H2.rf c2 hf31 (fun p => rfl) hg31 (fun p hp => ws_pos (σ := σ) (by omega) (fun y w' hy => goW_ok S3 ln 0 w w' cp.ok hy) (by omega)) am_ci (p_P σ) 0 none none none (by omega) (fun q hq => by cases hq) am_cn0 am_cn0
      exact this.mpr ⟨rfl, σ, H2⟩
  · have hask : askB a b T = false := by simpa using hask
    simp only [am_lv_of, rX12_look_0, rX12_look_1, rX12_look_4, rX12_look_5, rX12_look_6, rX12_look_9, rX12_look_12, rX12_look_13, ro_0_0 hR, ro_0_3 hR, ro_0_4 hR, ro_0_5 hR, ro_0_6 hR, ro_0_7 hR, ro_0_8 hR, ro_0_9 hR, ro_0_10 hR, ro_0_11 hR, ro_2_6 hR, ro_2_7 hR, ro_2_8 hR, ro_2_9 hR, ro_2_10 hR, ro_2_11 hR, ro_2_12 hR, ro_2_13 hR, ro_9_0 hR, ro_9_1 hR, ro_9_2 hR, ro_14_0 hR, ro_14_1 hR, ro_14_2 hR, ro_14_7 hR, ro_15_0 hR, ro_15_1 hR, ro_15_2 hR, ro_15_3 hR, ro_20_6 hR, ro_20_7 hR, ro_20_8 hR, ro_20_9 hR, ro_20_10 hR, ro_20_11 hR, ro_20_12 hR, ro_20_13 hR, ro_27_0 hR, ro_27_1 hR, ro_27_2 hR, ro_32_0 hR, ro_32_1 hR, ro_34_10 hR, ro_34_11 hR, ro_34_12 hR, ro_34_13 hR, ro_39_0 hR, ro_39_1 hR, ro_42_0 hR, ro_42_1 hR, ro_47_0 hR, ro_47_1 hR, ro_47_2 hR, ro_47_3 hR, ro_55_0 hR, ro_55_1 hR, ro_55_2 hR, ro_57_0 hR, ro_57_1 hR, ro_57_2 hR, ro_57_3 hR, ro_57_4 hR, ro_57_5 hR, ro_57_8 hR, sh_0, sh_1, sh_2, sh_3, sh_4, sh_5, sh_6, sh_7, sh_8, sh_9, sh_10, sh_11, sh_12, sh_13, sh_14, sh_15, sh_16, sh_17, sh_18, sh_19, sh_20, sh_21, sh_22, sh_23, sh_24, sh_25, sh_26, sh_27, sh_28, sh_29, sh_30, sh_31, sh_32, sh_33, sh_34, sh_35, sh_36, sh_37, sh_38, sh_39, sh_40, sh_41, sh_42, sh_43, sh_44, sh_45, sh_46, sh_47, sh_48, sh_49, sh_50, sh_51, sh_52, sh_53, sh_54, sh_55, sh_56, sh_57, sh_58, sh_59, sh_60, sh_61, sh_62, sh_63, sh_64, sh_65, sh_66, sh_67, sh_68, hl, hvw9, Nat.reduceLT, Nat.reduceAdd, Nat.reduceMul, ne_eq, Nat.reduceEqDiff, not_false_eq_true, or_true, true_or, or_false, false_or, and_true, true_and, and_self, Nat.reduceLeDiff, am_ci, am_cr, am_cn0, Option.toList_some, Option.toList_none, List.cons_append, List.nil_append, am_s0, am_s1, am_s1r, am_s2, am_s2r, am_s3r, nI_add, am_u_ne, am_u_at, am_u_n1, am_u_n2, am_w_ne, ↓reduceIte, c_asksC hN T2, hask, b_f, not_true_eq_false]
    simp only [am_lv_of, rX13_look_0, rX13_look_1, rX13_look_2, rX13_look_3, rX13_look_6, rX13_look_9, rX13_look_10, ro_69_1 hR, ro_69_3 hR, ro_69_5 hR, ro_69_6 hR, ro_69_7 hR, ro_69_8 hR, ro_69_9 hR, ro_69_21 hR, ro_69_22 hR, ro_69_23 hR, ro_69_24 hR, ro_69_25 hR, ro_69_26 hR, ro_69_27 hR, ro_69_28 hR, ro_69_29 hR, ro_69_30 hR, ro_69_31 hR, ro_69_32 hR, ro_69_33 hR, ro_69_34 hR, ro_69_35 hR, ro_69_36 hR, ro_69_38 hR, ro_69_39 hR, ro_69_40 hR, ro_69_41 hR, ro_69_42 hR, ro_69_44 hR, ro_69_45 hR, ro_69_46 hR, ro_69_48 hR, ro_69_49 hR, ro_69_51 hR, ro_69_52 hR, ro_69_55 hR, ro_69_56 hR, ro_69_57 hR, ro_69_58 hR, ro_69_59 hR, ro_69_61 hR, ro_69_62 hR, ro_69_63 hR, ro_69_64 hR, ro_69_65 hR, ro_69_66 hR, sh_69, sh_70, sh_71, sh_72, sh_73, sh_74, sh_75, sh_76, sh_77, sh_78, sh_79, sh_80, sh_81, sh_82, sh_83, sh_84, sh_85, sh_86, sh_87, sh_88, sh_89, sh_90, sh_91, sh_92, sh_93, sh_94, sh_95, sh_96, sh_97, sh_98, sh_99, sh_100, sh_101, sh_102, sh_103, sh_104, sh_105, sh_106, sh_107, sh_108, sh_109, sh_110, sh_111, sh_112, sh_113, sh_114, sh_115, hl, hvw9, Nat.reduceLT, Nat.reduceAdd, Nat.reduceMul, ne_eq, Nat.reduceEqDiff, not_false_eq_true, or_true, true_or, or_false, false_or, and_true, true_and, and_self, Nat.reduceLeDiff, am_ci, am_cr, am_cn0, Option.toList_some, Option.toList_none, List.cons_append, List.nil_append, am_s0, am_s1, am_s1r, am_s2, am_s2r, am_s3r, nI_add, am_u_ne, am_u_at, am_u_n1, am_u_n2, am_w_ne, ↓reduceIte, c_isAsked hN T3, hask, b_f, not_true_eq_false]
    exact ⟨σ, H⟩
end LK
