--! 73
/-! CLOTH: what fits, counted -/
/-- what was told: the puppets, when, where -/
abbrev tol : Type := (Nat → Nat) × (Nat → Int32) × (Nat → Int32)
def fitI (τ : tol) (w i : Nat) : Nat → Nat → Bool
  | _, 0 => true
  | j, m + 1 => if τ.2.1 j = nI i ∧ ¬ nI (xw w (τ.1 j)) = τ.2.2 j then false else fitI τ w i (j + 1) m
def fitW (τ : tol) (k w i : Nat) : Bool := fitI τ w i 0 k
/-- where a way leads: 'rem' strings are still to be pulled, 'made' were -/
def goW (σ : rfP) (τ : tol) (k : Nat) : Nat → Nat → Nat → Nat → Option Nat
  | 0, _, w, _ => some w
  | rem + 1, made, w, way => if way / 7 ^ rem % 7 < p_S σ ∧ stW σ w (way / 7 ^ rem % 7) = true ∧ fitW τ k (cMv σ w (way / 7 ^ rem % 7)) (made + 1) = true then goW σ τ k rem (made + 1) (cMv σ w (way / 7 ^ rem % 7)) way else none
def cnF (f : Nat → Bool) : Nat → Nat
  | 0 => 0
  | t + 1 => cnF f t + (if f t = true then 1 else 0)
def enB (ok : Nat → Option Nat) (p x way : Nat) : Bool := match ok way with
  | some w => decide (xw w p = x)
  | none => false
def comF (ok : Nat → Option Nat) (dg : Nat → Nat) : Nat → Int32
  | 0 => -1
  | t + 1 => match ok t with
    | none => comF ok dg t
    | some _ => if comF ok dg t = -1 then nI (dg t) else if comF ok dg t = nI (dg t) then comF ok dg t else -2
def dgW (ln i way : Nat) : Nat := way / 7 ^ (ln - 1 - i) % 7
/-- the class's counts, of ways below t -/
def clI (J : Nat → Nat → Int32) (ln P : Nat) (ok : Nat → Option Nat) (t : Nat) : Prop := J 57 9 = nI (cnF (fun way => (ok way).isSome) t) ∧ (∀ i, i < ln → J 68 i = comF ok (dgW ln i) t) ∧ ∀ p, p < P → ∀ x, x < 10 → J (63 + p) x = nI (cnF (enB ok p x) t)
theorem cnF_none {f : Nat → Bool} : ∀ (m a : Nat), (∀ y, a ≤ y → y < a + m → f y = false) → cnF f (a + m) = cnF f a := by
  intro m
  induction m with
  | zero => intro a h; rfl
  | succ m ih => intro a h; rw [← Nat.add_assoc, cnF, ih a (fun y y1 y2 => h y y1 (by omega)), h (a + m) (by omega) (by omega)]; rfl
theorem comF_none {ok : Nat → Option Nat} {dg : Nat → Nat} : ∀ (m a : Nat), (∀ y, a ≤ y → y < a + m → ok y = none) → comF ok dg (a + m) = comF ok dg a := by
  intro m
  induction m with
  | zero => intro a h; rfl
  | succ m ih => intro a h; rw [← Nat.add_assoc, comF, h (a + m) (by omega) (by omega)]; exact ih a (fun y y1 y2 => h y y1 (by omega))
theorem clI_none {J : Nat → Nat → Int32} {ln P a b : Nat} {ok : Nat → Option Nat} (h : clI J ln P ok a) (hab : a ≤ b) (hn : ∀ y, a ≤ y → y < b → ok y = none) : clI J ln P ok b := by
  obtain ⟨m, rfl⟩ := Nat.exists_eq_add_of_le hab
  obtain ⟨h1, h2, h3⟩ := h
  refine ⟨?_, fun i hi => ?_, fun p hp x hx => ?_⟩
  · rw [cnF_none m a (fun y y1 y2 => by rw [hn y y1 y2]; rfl)]; exact h1
  · rw [comF_none m a hn]; exact h2 i hi
  · rw [cnF_none m a (fun y y1 y2 => by unfold enB; rw [hn y y1 y2])]; exact h3 p hp x hx
theorem cnF_le {f : Nat → Bool} : ∀ t, cnF f t ≤ t := by
  intro t
  induction t with
  | zero => exact Nat.le_refl _
  | succ t ih => rw [cnF]; split <;> omega
theorem pow7 {k : Nat} (h : k ≤ 5) : 7 ^ k ≤ 16807 := Nat.le_trans (Nat.pow_le_pow_right (by omega) h) (by decide)
/-- the told things, as they stand in the class and in the reference -/
def tlC (I : Nat → Nat → Int32) (τ : tol) (k : Nat) : Prop := ∀ j, j < k → I 58 j = nI (τ.1 j) ∧ τ.1 j < 5 ∧ I 59 j = τ.2.1 j ∧ I 60 j = τ.2.2 j
def tlR (I : Nat → Nat → Int32) (τ : tol) (k : Nat) : Prop := ∀ j, j < k → I 110 j = nI (τ.1 j) ∧ τ.1 j < 5 ∧ I 111 j = τ.2.1 j ∧ I 112 j = τ.2.2 j
/-- what the cloth writes -/
def clP (k j : Nat) : Prop := (k = 57 ∧ j = 9) ∨ k = 61 ∨ (63 ≤ k ∧ k ≤ 67) ∨ k = 68
section CA
variable {X : am_X} {d n : Nat} {I : Nat → Nat → Int32} {L : Nat → Nat → Int64} {R : Nat → Nat → Option Nat} {Q : Option Value → am_M → Prop} {σ : rfP} {τ : tol}
theorem ro_62 (hR : am_OR R) : ∀ p, p < 5 → va_rf (R 62 p) = .ref (63 + p) := five (ro_62_0 hR) (ro_62_1 hR) (ro_62_2 hR) (ro_62_3 hR) (ro_62_4 hR)
theorem sh_63p : ∀ p, p < 5 → am_SV (63 + p) = (20, 10) := five sh_63 sh_64 sh_65 sh_66 sh_67
theorem l_fits {k w i : Nat} (hR : am_OR R) (hN : 116 ≤ n) (hw : w < 2 ^ 30) (hk : I 57 6 = nI k) (hk2 : k ≤ 20) (ht : tlC I τ k) (hi : i < 100) : ∀ (m j : Nat), j + m = k → (am_E X (d + 1) mX2_fits 2 [some (.ref 57), some (.int (nI w)), some (.int (nI i)), some (.int (nI j))] [] (n, I, L, R) Q ↔ Q (some (.int (bI (fitI τ w i j m)))) (n, I, L, R)) := by
  have hl := am_lt hN
  have hvw9 := am_lw hN
  intro m
  induction m with
  | zero =>
    intro j hj
    have hj : j = k := by omega
    subst hj
    have h1 : nI j ≤ nI j := nI_le (Nat.le_refl _) (by omega)
    simp only [am_lv_of, rX2_fits_2, rX2_fits_3, rX2_fits_4, rX2_fits_7, rX2_fits_53, rX2_fits_54, rX2_fits_54_0, rX2_fits_54_1, ro_0_0 hR, ro_0_3 hR, ro_0_4 hR, ro_0_5 hR, ro_0_6 hR, ro_0_7 hR, ro_0_8 hR, ro_0_9 hR, ro_0_10 hR, ro_0_11 hR, ro_2_6 hR, ro_2_7 hR, ro_2_8 hR, ro_2_9 hR, ro_2_10 hR, ro_2_11 hR, ro_2_12 hR, ro_2_13 hR, ro_9_0 hR, ro_9_1 hR, ro_9_2 hR, ro_14_0 hR, ro_14_1 hR, ro_14_2 hR, ro_14_7 hR, ro_15_0 hR, ro_15_1 hR, ro_15_2 hR, ro_15_3 hR, ro_20_6 hR, ro_20_7 hR, ro_20_8 hR, ro_20_9 hR, ro_20_10 hR, ro_20_11 hR, ro_20_12 hR, ro_20_13 hR, ro_27_0 hR, ro_27_1 hR, ro_27_2 hR, ro_32_0 hR, ro_32_1 hR, ro_34_10 hR, ro_34_11 hR, ro_34_12 hR, ro_34_13 hR, ro_39_0 hR, ro_39_1 hR, ro_42_0 hR, ro_42_1 hR, ro_47_0 hR, ro_47_1 hR, ro_47_2 hR, ro_47_3 hR, ro_55_0 hR, ro_55_1 hR, ro_55_2 hR, ro_57_0 hR, ro_57_1 hR, ro_57_2 hR, ro_57_3 hR, ro_57_4 hR, ro_57_5 hR, ro_57_8 hR, sh_0, sh_1, sh_2, sh_3, sh_4, sh_5, sh_6, sh_7, sh_8, sh_9, sh_10, sh_11, sh_12, sh_13, sh_14, sh_15, sh_16, sh_17, sh_18, sh_19, sh_20, sh_21, sh_22, sh_23, sh_24, sh_25, sh_26, sh_27, sh_28, sh_29, sh_30, sh_31, sh_32, sh_33, sh_34, sh_35, sh_36, sh_37, sh_38, sh_39, sh_40, sh_41, sh_42, sh_43, sh_44, sh_45, sh_46, sh_47, sh_48, sh_49, sh_50, sh_51, sh_52, sh_53, sh_54, sh_55, sh_56, sh_57, sh_58, sh_59, sh_60, sh_61, sh_62, sh_63, sh_64, sh_65, sh_66, sh_67, sh_68, hl, hvw9, Nat.reduceLT, Nat.reduceAdd, Nat.reduceMul, ne_eq, Nat.reduceEqDiff, not_false_eq_true, or_true, true_or, or_false, false_or, and_true, true_and, and_self, Nat.reduceLeDiff, am_ci, am_cr, am_cn0, Option.toList_some, Option.toList_none, List.cons_append, List.nil_append, am_s0, am_s1, am_s1r, am_s2, am_s2r, am_s3r, nI_add, am_u_ne, am_u_at, am_u_n1, am_u_n2, am_w_ne, ↓reduceIte, hk, h1, fitI, bI]
  | succ m ih =>
    intro j hj
    have h1 : ¬ nI k ≤ nI j := nI_ge (by omega) (by omega)
    have h2 : ¬ nI 20 ≤ nI j := nI_ge (by omega) (by omega)
    have j2 : j < 20 := by omega
    obtain ⟨t1, t2, t3, t4⟩ := ht j (by omega)
    rw [rX2_fits_2]
    by_cases c1 : τ.2.1 j = nI i
    · by_cases c2 : nI (xw w (τ.1 j)) = τ.2.2 j
      · have c2' : (nI (xw w (τ.1 j)) = τ.2.2 j) = True := eq_true c2
        have c1' : (τ.2.1 j = nI i) = True := eq_true c1
        simp only [am_lv_of, rX2_fits_3, rX2_fits_4, rX2_fits_7, rX2_fits_10, rX2_fits_11, rX2_fits_13, rX2_fits_16, rX2_fits_17, rX2_fits_20, rX2_fits_21, rX2_fits_22, rX2_fits_23, rX2_fits_26, rX2_fits_27, rX2_fits_28, rX2_fits_31, rX2_fits_32, rX2_fits_33, rX2_fits_36, rX2_fits_37, rX2_fits_40, rX2_fits_41, rX2_fits_42, rX2_fits_45, rX2_fits_46, rX2_fits_46_0, rX2_fits_46_1, rX2_fits_47, rX2_fits_50, ro_0_0 hR, ro_0_3 hR, ro_0_4 hR, ro_0_5 hR, ro_0_6 hR, ro_0_7 hR, ro_0_8 hR, ro_0_9 hR, ro_0_10 hR, ro_0_11 hR, ro_2_6 hR, ro_2_7 hR, ro_2_8 hR, ro_2_9 hR, ro_2_10 hR, ro_2_11 hR, ro_2_12 hR, ro_2_13 hR, ro_9_0 hR, ro_9_1 hR, ro_9_2 hR, ro_14_0 hR, ro_14_1 hR, ro_14_2 hR, ro_14_7 hR, ro_15_0 hR, ro_15_1 hR, ro_15_2 hR, ro_15_3 hR, ro_20_6 hR, ro_20_7 hR, ro_20_8 hR, ro_20_9 hR, ro_20_10 hR, ro_20_11 hR, ro_20_12 hR, ro_20_13 hR, ro_27_0 hR, ro_27_1 hR, ro_27_2 hR, ro_32_0 hR, ro_32_1 hR, ro_34_10 hR, ro_34_11 hR, ro_34_12 hR, ro_34_13 hR, ro_39_0 hR, ro_39_1 hR, ro_42_0 hR, ro_42_1 hR, ro_47_0 hR, ro_47_1 hR, ro_47_2 hR, ro_47_3 hR, ro_55_0 hR, ro_55_1 hR, ro_55_2 hR, ro_57_0 hR, ro_57_1 hR, ro_57_2 hR, ro_57_3 hR, ro_57_4 hR, ro_57_5 hR, ro_57_8 hR, sh_0, sh_1, sh_2, sh_3, sh_4, sh_5, sh_6, sh_7, sh_8, sh_9, sh_10, sh_11, sh_12, sh_13, sh_14, sh_15, sh_16, sh_17, sh_18, sh_19, sh_20, sh_21, sh_22, sh_23, sh_24, sh_25, sh_26, sh_27, sh_28, sh_29, sh_30, sh_31, sh_32, sh_33, sh_34, sh_35, sh_36, sh_37, sh_38, sh_39, sh_40, sh_41, sh_42, sh_43, sh_44, sh_45, sh_46, sh_47, sh_48, sh_49, sh_50, sh_51, sh_52, sh_53, sh_54, sh_55, sh_56, sh_57, sh_58, sh_59, sh_60, sh_61, sh_62, sh_63, sh_64, sh_65, sh_66, sh_67, sh_68, hl, hvw9, Nat.reduceLT, Nat.reduceAdd, Nat.reduceMul, ne_eq, Nat.reduceEqDiff, not_false_eq_true, or_true, true_or, or_false, false_or, and_true, true_and, and_self, Nat.reduceLeDiff, am_ci, am_cr, am_cn0, Option.toList_some, Option.toList_none, List.cons_append, List.nil_append, am_s0, am_s1, am_s1r, am_s2, am_s2r, am_s3r, nI_add, am_u_ne, am_u_at, am_u_n1, am_u_n2, am_w_ne, ↓reduceIte, hk, h1, h2, j2, t1, t3, t4, c1', c2', not_true_eq_false, c_xOf hw t2]
        rw [ih (j + 1) (by omega), fitI, if_neg (fun z => z.2 c2)]
      · have c1' : (τ.2.1 j = nI i) = True := eq_true c1
        simp only [am_lv_of, rX2_fits_3, rX2_fits_4, rX2_fits_7, rX2_fits_10, rX2_fits_11, rX2_fits_13, rX2_fits_16, rX2_fits_17, rX2_fits_20, rX2_fits_21, rX2_fits_22, rX2_fits_23, rX2_fits_26, rX2_fits_27, rX2_fits_28, rX2_fits_31, rX2_fits_32, rX2_fits_33, rX2_fits_36, rX2_fits_37, rX2_fits_40, rX2_fits_41, rX2_fits_42, rX2_fits_45, rX2_fits_46, rX2_fits_46_0, rX2_fits_46_1, rX2_fits_47, rX2_fits_50, ro_0_0 hR, ro_0_3 hR, ro_0_4 hR, ro_0_5 hR, ro_0_6 hR, ro_0_7 hR, ro_0_8 hR, ro_0_9 hR, ro_0_10 hR, ro_0_11 hR, ro_2_6 hR, ro_2_7 hR, ro_2_8 hR, ro_2_9 hR, ro_2_10 hR, ro_2_11 hR, ro_2_12 hR, ro_2_13 hR, ro_9_0 hR, ro_9_1 hR, ro_9_2 hR, ro_14_0 hR, ro_14_1 hR, ro_14_2 hR, ro_14_7 hR, ro_15_0 hR, ro_15_1 hR, ro_15_2 hR, ro_15_3 hR, ro_20_6 hR, ro_20_7 hR, ro_20_8 hR, ro_20_9 hR, ro_20_10 hR, ro_20_11 hR, ro_20_12 hR, ro_20_13 hR, ro_27_0 hR, ro_27_1 hR, ro_27_2 hR, ro_32_0 hR, ro_32_1 hR, ro_34_10 hR, ro_34_11 hR, ro_34_12 hR, ro_34_13 hR, ro_39_0 hR, ro_39_1 hR, ro_42_0 hR, ro_42_1 hR, ro_47_0 hR, ro_47_1 hR, ro_47_2 hR, ro_47_3 hR, ro_55_0 hR, ro_55_1 hR, ro_55_2 hR, ro_57_0 hR, ro_57_1 hR, ro_57_2 hR, ro_57_3 hR, ro_57_4 hR, ro_57_5 hR, ro_57_8 hR, sh_0, sh_1, sh_2, sh_3, sh_4, sh_5, sh_6, sh_7, sh_8, sh_9, sh_10, sh_11, sh_12, sh_13, sh_14, sh_15, sh_16, sh_17, sh_18, sh_19, sh_20, sh_21, sh_22, sh_23, sh_24, sh_25, sh_26, sh_27, sh_28, sh_29, sh_30, sh_31, sh_32, sh_33, sh_34, sh_35, sh_36, sh_37, sh_38, sh_39, sh_40, sh_41, sh_42, sh_43, sh_44, sh_45, sh_46, sh_47, sh_48, sh_49, sh_50, sh_51, sh_52, sh_53, sh_54, sh_55, sh_56, sh_57, sh_58, sh_59, sh_60, sh_61, sh_62, sh_63, sh_64, sh_65, sh_66, sh_67, sh_68, hl, hvw9, Nat.reduceLT, Nat.reduceAdd, Nat.reduceMul, ne_eq, Nat.reduceEqDiff, not_false_eq_true, or_true, true_or, or_false, false_or, and_true, true_and, and_self, Nat.reduceLeDiff, am_ci, am_cr, am_cn0, Option.toList_some, Option.toList_none, List.cons_append, List.nil_append, am_s0, am_s1, am_s1r, am_s2, am_s2r, am_s3r, nI_add, am_u_ne, am_u_at, am_u_n1, am_u_n2, am_w_ne, ↓reduceIte, hk, h1, h2, j2, t1, t3, t4, c1', c2, not_true_eq_false, c_xOf hw t2]
        rw [fitI, if_pos ⟨c1, c2⟩]
        simp only [bI, Bool.false_eq_true, if_false]
    · simp only [am_lv_of, rX2_fits_3, rX2_fits_4, rX2_fits_7, rX2_fits_10, rX2_fits_11, rX2_fits_13, rX2_fits_16, rX2_fits_17, rX2_fits_20, rX2_fits_21, rX2_fits_22, rX2_fits_23, rX2_fits_26, rX2_fits_27, rX2_fits_28, rX2_fits_31, rX2_fits_32, rX2_fits_33, rX2_fits_36, rX2_fits_37, rX2_fits_40, rX2_fits_41, rX2_fits_42, rX2_fits_45, rX2_fits_46, rX2_fits_46_0, rX2_fits_46_1, rX2_fits_47, rX2_fits_50, ro_0_0 hR, ro_0_3 hR, ro_0_4 hR, ro_0_5 hR, ro_0_6 hR, ro_0_7 hR, ro_0_8 hR, ro_0_9 hR, ro_0_10 hR, ro_0_11 hR, ro_2_6 hR, ro_2_7 hR, ro_2_8 hR, ro_2_9 hR, ro_2_10 hR, ro_2_11 hR, ro_2_12 hR, ro_2_13 hR, ro_9_0 hR, ro_9_1 hR, ro_9_2 hR, ro_14_0 hR, ro_14_1 hR, ro_14_2 hR, ro_14_7 hR, ro_15_0 hR, ro_15_1 hR, ro_15_2 hR, ro_15_3 hR, ro_20_6 hR, ro_20_7 hR, ro_20_8 hR, ro_20_9 hR, ro_20_10 hR, ro_20_11 hR, ro_20_12 hR, ro_20_13 hR, ro_27_0 hR, ro_27_1 hR, ro_27_2 hR, ro_32_0 hR, ro_32_1 hR, ro_34_10 hR, ro_34_11 hR, ro_34_12 hR, ro_34_13 hR, ro_39_0 hR, ro_39_1 hR, ro_42_0 hR, ro_42_1 hR, ro_47_0 hR, ro_47_1 hR, ro_47_2 hR, ro_47_3 hR, ro_55_0 hR, ro_55_1 hR, ro_55_2 hR, ro_57_0 hR, ro_57_1 hR, ro_57_2 hR, ro_57_3 hR, ro_57_4 hR, ro_57_5 hR, ro_57_8 hR, sh_0, sh_1, sh_2, sh_3, sh_4, sh_5, sh_6, sh_7, sh_8, sh_9, sh_10, sh_11, sh_12, sh_13, sh_14, sh_15, sh_16, sh_17, sh_18, sh_19, sh_20, sh_21, sh_22, sh_23, sh_24, sh_25, sh_26, sh_27, sh_28, sh_29, sh_30, sh_31, sh_32, sh_33, sh_34, sh_35, sh_36, sh_37, sh_38, sh_39, sh_40, sh_41, sh_42, sh_43, sh_44, sh_45, sh_46, sh_47, sh_48, sh_49, sh_50, sh_51, sh_52, sh_53, sh_54, sh_55, sh_56, sh_57, sh_58, sh_59, sh_60, sh_61, sh_62, sh_63, sh_64, sh_65, sh_66, sh_67, sh_68, hl, hvw9, Nat.reduceLT, Nat.reduceAdd, Nat.reduceMul, ne_eq, Nat.reduceEqDiff, not_false_eq_true, or_true, true_or, or_false, false_or, and_true, true_and, and_self, Nat.reduceLeDiff, am_ci, am_cr, am_cn0, Option.toList_some, Option.toList_none, List.cons_append, List.nil_append, am_s0, am_s1, am_s1r, am_s2, am_s2r, am_s3r, nI_add, am_u_ne, am_u_at, am_u_n1, am_u_n2, am_w_ne, ↓reduceIte, hk, h1, h2, j2, t3, c1, not_false_eq_true]
      rw [ih (j + 1) (by omega), fitI, if_neg (fun z => c1 z.1)]
theorem c_fits {k w i : Nat} (hR : am_OR R) (hN : 116 ≤ n) (hw : w < 2 ^ 30) (hk : I 57 6 = nI k) (hk2 : k ≤ 20) (ht : tlC I τ k) (hi : i < 100) : am_E X (d + 1) mX2_fits 0 [some (.ref 57), some (.int (nI w)), some (.int (nI i)), none] [] (n, I, L, R) Q ↔ Q (some (.int (bI (fitW τ k w i)))) (n, I, L, R) := by
  have hl := am_lt hN
  have hvw9 := am_lw hN
  simp only [am_lv_of, rX2_fits_0, rX2_fits_1, hl, hvw9, Nat.reduceLT, Nat.reduceAdd, Nat.reduceMul, ne_eq, Nat.reduceEqDiff, not_false_eq_true, or_true, true_or, or_false, false_or, and_true, true_and, and_self, Nat.reduceLeDiff, am_ci, am_cr, am_cn0, Option.toList_some, Option.toList_none, List.cons_append, List.nil_append, am_s0, am_s1, am_s1r, am_s2, am_s2r, am_s3r, nI_add, am_u_ne, am_u_at, am_u_n1, am_u_n2, am_w_ne]
  exact l_fits hR hN hw hk hk2 ht hi k 0 (by omega)
theorem l_isSeen {k w i : Nat} (hR : am_OR R) (hN : 116 ≤ n) (hw : ∀ p, p < 5 → I 104 p = nI (xw w p)) (hk2 : k ≤ 20) (ht : tlR I τ k) (hi : i < 100) : ∀ (m j : Nat), j + m = k → (am_E X d mX13_isSeen 2 [some (.ref 69), some (.int (nI k)), some (.int (nI i)), some (.int (nI j))] [] (n, I, L, R) Q ↔ Q (some (.int (bI (fitI τ w i j m)))) (n, I, L, R)) := by
  have hl := am_lt hN
  have hvw9 := am_lw hN
  intro m
  induction m with
  | zero =>
    intro j hj
    have hj : j = k := by omega
    subst hj
    have h1 : nI j ≤ nI j := nI_le (Nat.le_refl _) (by omega)
    simp only [am_lv_of, rX13_isSeen_2, rX13_isSeen_3, rX13_isSeen_4, rX13_isSeen_45, rX13_isSeen_46, rX13_isSeen_46_0, rX13_isSeen_46_1, ro_69_1 hR, ro_69_3 hR, ro_69_5 hR, ro_69_6 hR, ro_69_7 hR, ro_69_8 hR, ro_69_9 hR, ro_69_21 hR, ro_69_22 hR, ro_69_23 hR, ro_69_24 hR, ro_69_25 hR, ro_69_26 hR, ro_69_27 hR, ro_69_28 hR, ro_69_29 hR, ro_69_30 hR, ro_69_31 hR, ro_69_32 hR, ro_69_33 hR, ro_69_34 hR, ro_69_35 hR, ro_69_36 hR, ro_69_38 hR, ro_69_39 hR, ro_69_40 hR, ro_69_41 hR, ro_69_42 hR, ro_69_44 hR, ro_69_45 hR, ro_69_46 hR, ro_69_48 hR, ro_69_49 hR, ro_69_51 hR, ro_69_52 hR, ro_69_55 hR, ro_69_56 hR, ro_69_57 hR, ro_69_58 hR, ro_69_59 hR, ro_69_61 hR, ro_69_62 hR, ro_69_63 hR, ro_69_64 hR, ro_69_65 hR, ro_69_66 hR, sh_69, sh_70, sh_71, sh_72, sh_73, sh_74, sh_75, sh_76, sh_77, sh_78, sh_79, sh_80, sh_81, sh_82, sh_83, sh_84, sh_85, sh_86, sh_87, sh_88, sh_89, sh_90, sh_91, sh_92, sh_93, sh_94, sh_95, sh_96, sh_97, sh_98, sh_99, sh_100, sh_101, sh_102, sh_103, sh_104, sh_105, sh_106, sh_107, sh_108, sh_109, sh_110, sh_111, sh_112, sh_113, sh_114, sh_115, hl, hvw9, Nat.reduceLT, Nat.reduceAdd, Nat.reduceMul, ne_eq, Nat.reduceEqDiff, not_false_eq_true, or_true, true_or, or_false, false_or, and_true, true_and, and_self, Nat.reduceLeDiff, am_ci, am_cr, am_cn0, Option.toList_some, Option.toList_none, List.cons_append, List.nil_append, am_s0, am_s1, am_s1r, am_s2, am_s2r, am_s3r, nI_add, am_u_ne, am_u_at, am_u_n1, am_u_n2, am_w_ne, ↓reduceIte, h1, fitI, bI]
  | succ m ih =>
    intro j hj
    have h1 : ¬ nI k ≤ nI j := nI_ge (by omega) (by omega)
    have j2 : j < 20 := by omega
    obtain ⟨t1, t2, t3, t4⟩ := ht j (by omega)
    have t68 : τ.1 j < 68 := by omega
    rw [rX13_isSeen_2]
    by_cases c1 : τ.2.1 j = nI i
    · have c1' : (τ.2.1 j = nI i) = True := eq_true c1
      by_cases c2 : nI (xw w (τ.1 j)) = τ.2.2 j
      · have c2' : (nI (xw w (τ.1 j)) = τ.2.2 j) = True := eq_true c2
        simp only [am_lv_of, rX13_isSeen_3, rX13_isSeen_4, rX13_isSeen_7, rX13_isSeen_8, rX13_isSeen_11, rX13_isSeen_12, rX13_isSeen_13, rX13_isSeen_14, rX13_isSeen_17, rX13_isSeen_18, rX13_isSeen_21, rX13_isSeen_22, rX13_isSeen_25, rX13_isSeen_26, rX13_isSeen_27, rX13_isSeen_28, rX13_isSeen_29, rX13_isSeen_32, rX13_isSeen_33, rX13_isSeen_34, rX13_isSeen_37, rX13_isSeen_38, rX13_isSeen_38_0, rX13_isSeen_38_1, rX13_isSeen_39, rX13_isSeen_42, ro_69_1 hR, ro_69_3 hR, ro_69_5 hR, ro_69_6 hR, ro_69_7 hR, ro_69_8 hR, ro_69_9 hR, ro_69_21 hR, ro_69_22 hR, ro_69_23 hR, ro_69_24 hR, ro_69_25 hR, ro_69_26 hR, ro_69_27 hR, ro_69_28 hR, ro_69_29 hR, ro_69_30 hR, ro_69_31 hR, ro_69_32 hR, ro_69_33 hR, ro_69_34 hR, ro_69_35 hR, ro_69_36 hR, ro_69_38 hR, ro_69_39 hR, ro_69_40 hR, ro_69_41 hR, ro_69_42 hR, ro_69_44 hR, ro_69_45 hR, ro_69_46 hR, ro_69_48 hR, ro_69_49 hR, ro_69_51 hR, ro_69_52 hR, ro_69_55 hR, ro_69_56 hR, ro_69_57 hR, ro_69_58 hR, ro_69_59 hR, ro_69_61 hR, ro_69_62 hR, ro_69_63 hR, ro_69_64 hR, ro_69_65 hR, ro_69_66 hR, sh_69, sh_70, sh_71, sh_72, sh_73, sh_74, sh_75, sh_76, sh_77, sh_78, sh_79, sh_80, sh_81, sh_82, sh_83, sh_84, sh_85, sh_86, sh_87, sh_88, sh_89, sh_90, sh_91, sh_92, sh_93, sh_94, sh_95, sh_96, sh_97, sh_98, sh_99, sh_100, sh_101, sh_102, sh_103, sh_104, sh_105, sh_106, sh_107, sh_108, sh_109, sh_110, sh_111, sh_112, sh_113, sh_114, sh_115, hl, hvw9, Nat.reduceLT, Nat.reduceAdd, Nat.reduceMul, ne_eq, Nat.reduceEqDiff, not_false_eq_true, or_true, true_or, or_false, false_or, and_true, true_and, and_self, Nat.reduceLeDiff, am_ci, am_cr, am_cn0, Option.toList_some, Option.toList_none, List.cons_append, List.nil_append, am_s0, am_s1, am_s1r, am_s2, am_s2r, am_s3r, nI_add, am_u_ne, am_u_at, am_u_n1, am_u_n2, am_w_ne, ↓reduceIte, h1, j2, t1, t3, t4, t68, hw _ t2, c1', c2', not_true_eq_false]
        rw [ih (j + 1) (by omega), fitI, if_neg (fun z => z.2 c2)]
      · simp only [am_lv_of, rX13_isSeen_3, rX13_isSeen_4, rX13_isSeen_7, rX13_isSeen_8, rX13_isSeen_11, rX13_isSeen_12, rX13_isSeen_13, rX13_isSeen_14, rX13_isSeen_17, rX13_isSeen_18, rX13_isSeen_21, rX13_isSeen_22, rX13_isSeen_25, rX13_isSeen_26, rX13_isSeen_27, rX13_isSeen_28, rX13_isSeen_29, rX13_isSeen_32, rX13_isSeen_33, rX13_isSeen_34, rX13_isSeen_37, rX13_isSeen_38, rX13_isSeen_38_0, rX13_isSeen_38_1, rX13_isSeen_39, rX13_isSeen_42, ro_69_1 hR, ro_69_3 hR, ro_69_5 hR, ro_69_6 hR, ro_69_7 hR, ro_69_8 hR, ro_69_9 hR, ro_69_21 hR, ro_69_22 hR, ro_69_23 hR, ro_69_24 hR, ro_69_25 hR, ro_69_26 hR, ro_69_27 hR, ro_69_28 hR, ro_69_29 hR, ro_69_30 hR, ro_69_31 hR, ro_69_32 hR, ro_69_33 hR, ro_69_34 hR, ro_69_35 hR, ro_69_36 hR, ro_69_38 hR, ro_69_39 hR, ro_69_40 hR, ro_69_41 hR, ro_69_42 hR, ro_69_44 hR, ro_69_45 hR, ro_69_46 hR, ro_69_48 hR, ro_69_49 hR, ro_69_51 hR, ro_69_52 hR, ro_69_55 hR, ro_69_56 hR, ro_69_57 hR, ro_69_58 hR, ro_69_59 hR, ro_69_61 hR, ro_69_62 hR, ro_69_63 hR, ro_69_64 hR, ro_69_65 hR, ro_69_66 hR, sh_69, sh_70, sh_71, sh_72, sh_73, sh_74, sh_75, sh_76, sh_77, sh_78, sh_79, sh_80, sh_81, sh_82, sh_83, sh_84, sh_85, sh_86, sh_87, sh_88, sh_89, sh_90, sh_91, sh_92, sh_93, sh_94, sh_95, sh_96, sh_97, sh_98, sh_99, sh_100, sh_101, sh_102, sh_103, sh_104, sh_105, sh_106, sh_107, sh_108, sh_109, sh_110, sh_111, sh_112, sh_113, sh_114, sh_115, hl, hvw9, Nat.reduceLT, Nat.reduceAdd, Nat.reduceMul, ne_eq, Nat.reduceEqDiff, not_false_eq_true, or_true, true_or, or_false, false_or, and_true, true_and, and_self, Nat.reduceLeDiff, am_ci, am_cr, am_cn0, Option.toList_some, Option.toList_none, List.cons_append, List.nil_append, am_s0, am_s1, am_s1r, am_s2, am_s2r, am_s3r, nI_add, am_u_ne, am_u_at, am_u_n1, am_u_n2, am_w_ne, ↓reduceIte, h1, j2, t1, t3, t4, t68, hw _ t2, c1', c2, not_true_eq_false]
        rw [fitI, if_pos ⟨c1, c2⟩]
        simp only [bI, Bool.false_eq_true, if_false]
    · simp only [am_lv_of, rX13_isSeen_3, rX13_isSeen_4, rX13_isSeen_7, rX13_isSeen_8, rX13_isSeen_11, rX13_isSeen_12, rX13_isSeen_13, rX13_isSeen_14, rX13_isSeen_17, rX13_isSeen_18, rX13_isSeen_21, rX13_isSeen_22, rX13_isSeen_25, rX13_isSeen_26, rX13_isSeen_27, rX13_isSeen_28, rX13_isSeen_29, rX13_isSeen_32, rX13_isSeen_33, rX13_isSeen_34, rX13_isSeen_37, rX13_isSeen_38, rX13_isSeen_38_0, rX13_isSeen_38_1, rX13_isSeen_39, rX13_isSeen_42, ro_69_1 hR, ro_69_3 hR, ro_69_5 hR, ro_69_6 hR, ro_69_7 hR, ro_69_8 hR, ro_69_9 hR, ro_69_21 hR, ro_69_22 hR, ro_69_23 hR, ro_69_24 hR, ro_69_25 hR, ro_69_26 hR, ro_69_27 hR, ro_69_28 hR, ro_69_29 hR, ro_69_30 hR, ro_69_31 hR, ro_69_32 hR, ro_69_33 hR, ro_69_34 hR, ro_69_35 hR, ro_69_36 hR, ro_69_38 hR, ro_69_39 hR, ro_69_40 hR, ro_69_41 hR, ro_69_42 hR, ro_69_44 hR, ro_69_45 hR, ro_69_46 hR, ro_69_48 hR, ro_69_49 hR, ro_69_51 hR, ro_69_52 hR, ro_69_55 hR, ro_69_56 hR, ro_69_57 hR, ro_69_58 hR, ro_69_59 hR, ro_69_61 hR, ro_69_62 hR, ro_69_63 hR, ro_69_64 hR, ro_69_65 hR, ro_69_66 hR, sh_69, sh_70, sh_71, sh_72, sh_73, sh_74, sh_75, sh_76, sh_77, sh_78, sh_79, sh_80, sh_81, sh_82, sh_83, sh_84, sh_85, sh_86, sh_87, sh_88, sh_89, sh_90, sh_91, sh_92, sh_93, sh_94, sh_95, sh_96, sh_97, sh_98, sh_99, sh_100, sh_101, sh_102, sh_103, sh_104, sh_105, sh_106, sh_107, sh_108, sh_109, sh_110, sh_111, sh_112, sh_113, sh_114, sh_115, hl, hvw9, Nat.reduceLT, Nat.reduceAdd, Nat.reduceMul, ne_eq, Nat.reduceEqDiff, not_false_eq_true, or_true, true_or, or_false, false_or, and_true, true_and, and_self, Nat.reduceLeDiff, am_ci, am_cr, am_cn0, Option.toList_some, Option.toList_none, List.cons_append, List.nil_append, am_s0, am_s1, am_s1r, am_s2, am_s2r, am_s3r, nI_add, am_u_ne, am_u_at, am_u_n1, am_u_n2, am_w_ne, ↓reduceIte, h1, j2, t3, c1, not_false_eq_true]
      rw [ih (j + 1) (by omega), fitI, if_neg (fun z => c1 z.1)]
theorem c_isSeen {k w i : Nat} (hR : am_OR R) (hN : 116 ≤ n) (hw : ∀ p, p < 5 → I 104 p = nI (xw w p)) (hk2 : k ≤ 20) (ht : tlR I τ k) (hi : i < 100) : am_E X d mX13_isSeen 0 [some (.ref 69), some (.int (nI k)), some (.int (nI i)), none] [] (n, I, L, R) Q ↔ Q (some (.int (bI (fitW τ k w i)))) (n, I, L, R) := by
  have hl := am_lt hN
  have hvw9 := am_lw hN
  simp only [am_lv_of, rX13_isSeen_0, rX13_isSeen_1, hl, hvw9, Nat.reduceLT, Nat.reduceAdd, Nat.reduceMul, ne_eq, Nat.reduceEqDiff, not_false_eq_true, or_true, true_or, or_false, false_or, and_true, true_and, and_self, Nat.reduceLeDiff, am_ci, am_cr, am_cn0, Option.toList_some, Option.toList_none, List.cons_append, List.nil_append, am_s0, am_s1, am_s1r, am_s2, am_s2r, am_s3r, nI_add, am_u_ne, am_u_at, am_u_n1, am_u_n2, am_w_ne]
  exact l_isSeen hR hN hw hk2 ht hi k 0 (by omega)
theorem l_sevens {k : Nat} (hk : k < 2 ^ 30) : ∀ (m i : Nat), i + m = k → (am_E X d mX13_sevens 4 [some (.int (nI k)), some (.int (nI (7 ^ i))), some (.int (nI i))] [] (n, I, L, R) Q ↔ Q (some (.int (nI (7 ^ k)))) (n, I, L, R)) := by
  intro m
  induction m with
  | zero =>
    intro i hi
    have hi : i = k := by omega
    subst hi
    have h1 : nI i ≤ nI i := nI_le (Nat.le_refl _) (by omega)
    simp only [am_lv_of, rX13_sevens_4, rX13_sevens_5, rX13_sevens_6, rX13_sevens_20, rX13_sevens_21, ↓reduceIte, h1]
  | succ m ih =>
    intro i hi
    have h1 : ¬ nI k ≤ nI i := nI_ge (by omega) (by omega)
    have e : 7 ^ i * 7 = 7 ^ (i + 1) := by rw [Nat.pow_succ]
    rw [rX13_sevens_4]
    simp only [am_lv_of, rX13_sevens_5, rX13_sevens_6, rX13_sevens_9, rX13_sevens_10, rX13_sevens_12, rX13_sevens_13, rX13_sevens_14, rX13_sevens_17, ↓reduceIte, h1, pk_mul, e, am_ci, am_cr, am_cn0, nI_add]
    rw [ih (i + 1) (by omega)]
theorem c_sevens {k : Nat} (hk : k < 2 ^ 30) : am_E X d mX13_sevens 0 [some (.int (nI k)), none, none] [] (n, I, L, R) Q ↔ Q (some (.int (nI (7 ^ k)))) (n, I, L, R) := by
  have e1 : nI 1 = nI (7 ^ 0) := rfl
  simp only [am_lv_of, rX13_sevens_0, rX13_sevens_1, rX13_sevens_2, rX13_sevens_3, am_ci, am_cr, am_cn0]
  rw [e1]
  exact l_sevens hk k 0 (by omega)
end CA
