--! 74
/-! CLOTH: the class walks -/
section CB
variable {X : am_X} {d n : Nat} {I : Nat → Nat → Int32} {L : Nat → Nat → Int64} {R : Nat → Nat → Option Nat} {Q : Option Value → am_M → Prop} {σ : rfP} {τ : tol}
theorem l_cr1 {ln way w : Nat} {ok : Nat → Option Nat} {J : Nat → Nat → Int32} {l1 l3 : Option Value} (hR : am_OR R) (hN : 116 ≤ n) (hn : n ≤ 1000) (h7 : J 57 7 = nI ln) (hln : ln ≤ 5) (hok : ok way = some w) (hd : ∀ i, i < ln → J 61 i = nI (dgW ln i way)) (hc : ∀ i, i < ln → J 68 i = comF ok (dgW ln i) way) (n1 : am_nl l1) (hQ : ∀ J', am_ag (fun k _ => k = 68) J J' → (∀ i, i < ln → J' 68 i = comF ok (dgW ln i) (way + 1)) → am_E X d mX2_countRow 79 [some (.ref 57), l1, some (.int (nI ln)), l3] [] (n, J', L, R) Q) : ∀ (m i : Nat) (K : Nat → Nat → Int32), i + m = ln → am_ag (fun k _ => k = 68) J K → (∀ j, j < ln → K 68 j = if j < i then comF ok (dgW ln j) (way + 1) else comF ok (dgW ln j) way) → am_E X d mX2_countRow 12 [some (.ref 57), l1, some (.int (nI i)), l3] [] (n, K, L, R) Q := by
  have hl := am_lt hN
  have hvw9 := am_lw hN
  intro m
  induction m with
  | zero =>
    intro i K hi hK hk
    have hi : i = ln := by omega
    subst hi
    have e7 : K 57 7 = nI i := by rw [hK 57 7 (by omega)]; exact h7
    have h1 : nI i ≤ nI i := nI_le (Nat.le_refl _) (by omega)
    simp only [am_lv_of, rX2_countRow_12, rX2_countRow_13, rX2_countRow_14, rX2_countRow_17, ro_0_0 hR, ro_0_3 hR, ro_0_4 hR, ro_0_5 hR, ro_0_6 hR, ro_0_7 hR, ro_0_8 hR, ro_0_9 hR, ro_0_10 hR, ro_0_11 hR, ro_2_6 hR, ro_2_7 hR, ro_2_8 hR, ro_2_9 hR, ro_2_10 hR, ro_2_11 hR, ro_2_12 hR, ro_2_13 hR, ro_9_0 hR, ro_9_1 hR, ro_9_2 hR, ro_14_0 hR, ro_14_1 hR, ro_14_2 hR, ro_14_7 hR, ro_15_0 hR, ro_15_1 hR, ro_15_2 hR, ro_15_3 hR, ro_20_6 hR, ro_20_7 hR, ro_20_8 hR, ro_20_9 hR, ro_20_10 hR, ro_20_11 hR, ro_20_12 hR, ro_20_13 hR, ro_27_0 hR, ro_27_1 hR, ro_27_2 hR, ro_32_0 hR, ro_32_1 hR, ro_34_10 hR, ro_34_11 hR, ro_34_12 hR, ro_34_13 hR, ro_39_0 hR, ro_39_1 hR, ro_42_0 hR, ro_42_1 hR, ro_47_0 hR, ro_47_1 hR, ro_47_2 hR, ro_47_3 hR, ro_55_0 hR, ro_55_1 hR, ro_55_2 hR, ro_57_0 hR, ro_57_1 hR, ro_57_2 hR, ro_57_3 hR, ro_57_4 hR, ro_57_5 hR, ro_57_8 hR, sh_0, sh_1, sh_2, sh_3, sh_4, sh_5, sh_6, sh_7, sh_8, sh_9, sh_10, sh_11, sh_12, sh_13, sh_14, sh_15, sh_16, sh_17, sh_18, sh_19, sh_20, sh_21, sh_22, sh_23, sh_24, sh_25, sh_26, sh_27, sh_28, sh_29, sh_30, sh_31, sh_32, sh_33, sh_34, sh_35, sh_36, sh_37, sh_38, sh_39, sh_40, sh_41, sh_42, sh_43, sh_44, sh_45, sh_46, sh_47, sh_48, sh_49, sh_50, sh_51, sh_52, sh_53, sh_54, sh_55, sh_56, sh_57, sh_58, sh_59, sh_60, sh_61, sh_62, sh_63, sh_64, sh_65, sh_66, sh_67, sh_68, hl, hvw9, Nat.reduceLT, Nat.reduceAdd, Nat.reduceMul, ne_eq, Nat.reduceEqDiff, not_false_eq_true, or_true, true_or, or_false, false_or, and_true, true_and, and_self, Nat.reduceLeDiff, am_ci, am_cr, am_cn0, Option.toList_some, Option.toList_none, List.cons_append, List.nil_append, am_s0, am_s1, am_s1r, am_s2, am_s2r, am_s3r, nI_add, am_u_ne, am_u_at, am_u_n1, am_u_n2, am_w_ne, ↓reduceIte, e7, h1]
    exact hQ K hK (fun j hj => by rw [hk j hj, if_pos hj])
  | succ m ih =>
    intro i K hi hK hk
    have e7 : K 57 7 = nI ln := by rw [hK 57 7 (by omega)]; exact h7
    have h1 : ¬ nI ln ≤ nI i := nI_ge (by omega) (by omega)
    have h2 : ¬ nI 5 ≤ nI i := nI_ge (by omega) (by omega)
    have i5 : i < 5 := by omega
    have e61 : K 61 i = nI (dgW ln i way) := by rw [hK 61 i (by omega)]; exact hd i (by omega)
    have e68 : K 68 i = comF ok (dgW ln i) way := by rw [hk i (by omega), if_neg (by omega)]
    have est : comF ok (dgW ln i) (way + 1) = if comF ok (dgW ln i) way = -1 then nI (dgW ln i way) else if comF ok (dgW ln i) way = nI (dgW ln i way) then comF ok (dgW ln i) way else -2 := by
      rw [comF, hok]
    have go : ∀ K', am_ag (fun k _ => k = 68) J K' → K' 68 i = comF ok (dgW ln i) (way + 1) → (∀ j, j ≠ i → K' 68 j = K 68 j) → am_E X d mX2_countRow 12 [some (.ref 57), l1, some (.int (nI (i + 1))), l3] [] (n, K', L, R) Q := fun K' a1 a2 a3 => by
      refine ih (i + 1) K' (by omega) a1 (fun j hj => ?_)
      by_cases e : j = i
      · rw [e, a2, if_pos (by omega)]
      · rw [a3 j e, hk j hj]
        by_cases h : j < i
        · rw [if_pos h, if_pos (by omega)]
        · rw [if_neg h, if_neg (by omega)]
    rw [rX2_countRow_12]
    by_cases c1 : comF ok (dgW ln i) way = -1
    · have c1' : (comF ok (dgW ln i) way = -1) = True := eq_true c1
      rw [if_pos c1] at est
      simp only [am_lv_of, rX2_countRow_13, rX2_countRow_14, rX2_countRow_17, rX2_countRow_20, rX2_countRow_21, rX2_countRow_22, rX2_countRow_25, rX2_countRow_26, rX2_countRow_29, rX2_countRow_30, rX2_countRow_31, rX2_countRow_32, rX2_countRow_35, rX2_countRow_36, rX2_countRow_39, rX2_countRow_40, rX2_countRow_41, rX2_countRow_44, rX2_countRow_45, rX2_countRow_46, rX2_countRow_47, rX2_countRow_50, rX2_countRow_51, rX2_countRow_54, rX2_countRow_55, rX2_countRow_56, rX2_countRow_57, rX2_countRow_60, rX2_countRow_61, rX2_countRow_62, rX2_countRow_65, rX2_countRow_66, rX2_countRow_69, rX2_countRow_70, rX2_countRow_72, rX2_countRow_73, rX2_countRow_76, ro_0_0 hR, ro_0_3 hR, ro_0_4 hR, ro_0_5 hR, ro_0_6 hR, ro_0_7 hR, ro_0_8 hR, ro_0_9 hR, ro_0_10 hR, ro_0_11 hR, ro_2_6 hR, ro_2_7 hR, ro_2_8 hR, ro_2_9 hR, ro_2_10 hR, ro_2_11 hR, ro_2_12 hR, ro_2_13 hR, ro_9_0 hR, ro_9_1 hR, ro_9_2 hR, ro_14_0 hR, ro_14_1 hR, ro_14_2 hR, ro_14_7 hR, ro_15_0 hR, ro_15_1 hR, ro_15_2 hR, ro_15_3 hR, ro_20_6 hR, ro_20_7 hR, ro_20_8 hR, ro_20_9 hR, ro_20_10 hR, ro_20_11 hR, ro_20_12 hR, ro_20_13 hR, ro_27_0 hR, ro_27_1 hR, ro_27_2 hR, ro_32_0 hR, ro_32_1 hR, ro_34_10 hR, ro_34_11 hR, ro_34_12 hR, ro_34_13 hR, ro_39_0 hR, ro_39_1 hR, ro_42_0 hR, ro_42_1 hR, ro_47_0 hR, ro_47_1 hR, ro_47_2 hR, ro_47_3 hR, ro_55_0 hR, ro_55_1 hR, ro_55_2 hR, ro_57_0 hR, ro_57_1 hR, ro_57_2 hR, ro_57_3 hR, ro_57_4 hR, ro_57_5 hR, ro_57_8 hR, sh_0, sh_1, sh_2, sh_3, sh_4, sh_5, sh_6, sh_7, sh_8, sh_9, sh_10, sh_11, sh_12, sh_13, sh_14, sh_15, sh_16, sh_17, sh_18, sh_19, sh_20, sh_21, sh_22, sh_23, sh_24, sh_25, sh_26, sh_27, sh_28, sh_29, sh_30, sh_31, sh_32, sh_33, sh_34, sh_35, sh_36, sh_37, sh_38, sh_39, sh_40, sh_41, sh_42, sh_43, sh_44, sh_45, sh_46, sh_47, sh_48, sh_49, sh_50, sh_51, sh_52, sh_53, sh_54, sh_55, sh_56, sh_57, sh_58, sh_59, sh_60, sh_61, sh_62, sh_63, sh_64, sh_65, sh_66, sh_67, sh_68, hl, hvw9, Nat.reduceLT, Nat.reduceAdd, Nat.reduceMul, ne_eq, Nat.reduceEqDiff, not_false_eq_true, or_true, true_or, or_false, false_or, and_true, true_and, and_self, Nat.reduceLeDiff, am_ci, am_cr, am_cn0, Option.toList_some, Option.toList_none, List.cons_append, List.nil_append, am_s0, am_s1, am_s1r, am_s2, am_s2r, am_s3r, nI_add, am_u_ne, am_u_at, am_u_n1, am_u_n2, am_w_ne, ↓reduceIte, hn, e7, h1, h2, i5, e61, e68, c1', not_true_eq_false, n1]
      exact go _ (hK.u rfl) (by rw [am_u_at, est]) (fun j hj => am_u_n2 hj)
    · rw [if_neg c1] at est
      by_cases c2 : comF ok (dgW ln i) way = nI (dgW ln i way)
      · have c2' : (comF ok (dgW ln i) way = nI (dgW ln i way)) = True := eq_true c2
        rw [if_pos c2] at est
        simp only [am_lv_of, rX2_countRow_13, rX2_countRow_14, rX2_countRow_17, rX2_countRow_20, rX2_countRow_21, rX2_countRow_22, rX2_countRow_25, rX2_countRow_26, rX2_countRow_29, rX2_countRow_30, rX2_countRow_31, rX2_countRow_32, rX2_countRow_35, rX2_countRow_36, rX2_countRow_39, rX2_countRow_40, rX2_countRow_41, rX2_countRow_44, rX2_countRow_45, rX2_countRow_46, rX2_countRow_47, rX2_countRow_50, rX2_countRow_51, rX2_countRow_54, rX2_countRow_55, rX2_countRow_56, rX2_countRow_57, rX2_countRow_60, rX2_countRow_61, rX2_countRow_62, rX2_countRow_65, rX2_countRow_66, rX2_countRow_69, rX2_countRow_70, rX2_countRow_72, rX2_countRow_73, rX2_countRow_76, ro_0_0 hR, ro_0_3 hR, ro_0_4 hR, ro_0_5 hR, ro_0_6 hR, ro_0_7 hR, ro_0_8 hR, ro_0_9 hR, ro_0_10 hR, ro_0_11 hR, ro_2_6 hR, ro_2_7 hR, ro_2_8 hR, ro_2_9 hR, ro_2_10 hR, ro_2_11 hR, ro_2_12 hR, ro_2_13 hR, ro_9_0 hR, ro_9_1 hR, ro_9_2 hR, ro_14_0 hR, ro_14_1 hR, ro_14_2 hR, ro_14_7 hR, ro_15_0 hR, ro_15_1 hR, ro_15_2 hR, ro_15_3 hR, ro_20_6 hR, ro_20_7 hR, ro_20_8 hR, ro_20_9 hR, ro_20_10 hR, ro_20_11 hR, ro_20_12 hR, ro_20_13 hR, ro_27_0 hR, ro_27_1 hR, ro_27_2 hR, ro_32_0 hR, ro_32_1 hR, ro_34_10 hR, ro_34_11 hR, ro_34_12 hR, ro_34_13 hR, ro_39_0 hR, ro_39_1 hR, ro_42_0 hR, ro_42_1 hR, ro_47_0 hR, ro_47_1 hR, ro_47_2 hR, ro_47_3 hR, ro_55_0 hR, ro_55_1 hR, ro_55_2 hR, ro_57_0 hR, ro_57_1 hR, ro_57_2 hR, ro_57_3 hR, ro_57_4 hR, ro_57_5 hR, ro_57_8 hR, sh_0, sh_1, sh_2, sh_3, sh_4, sh_5, sh_6, sh_7, sh_8, sh_9, sh_10, sh_11, sh_12, sh_13, sh_14, sh_15, sh_16, sh_17, sh_18, sh_19, sh_20, sh_21, sh_22, sh_23, sh_24, sh_25, sh_26, sh_27, sh_28, sh_29, sh_30, sh_31, sh_32, sh_33, sh_34, sh_35, sh_36, sh_37, sh_38, sh_39, sh_40, sh_41, sh_42, sh_43, sh_44, sh_45, sh_46, sh_47, sh_48, sh_49, sh_50, sh_51, sh_52, sh_53, sh_54, sh_55, sh_56, sh_57, sh_58, sh_59, sh_60, sh_61, sh_62, sh_63, sh_64, sh_65, sh_66, sh_67, sh_68, hl, hvw9, Nat.reduceLT, Nat.reduceAdd, Nat.reduceMul, ne_eq, Nat.reduceEqDiff, not_false_eq_true, or_true, true_or, or_false, false_or, and_true, true_and, and_self, Nat.reduceLeDiff, am_ci, am_cr, am_cn0, Option.toList_some, Option.toList_none, List.cons_append, List.nil_append, am_s0, am_s1, am_s1r, am_s2, am_s2r, am_s3r, nI_add, am_u_ne, am_u_at, am_u_n1, am_u_n2, am_w_ne, ↓reduceIte, hn, e7, h1, h2, i5, e61, e68, c1, c2', not_false_eq_true, n1]
        exact go K hK (by rw [e68, est]) (fun j hj => rfl)
      · rw [if_neg c2] at est
        simp only [am_lv_of, rX2_countRow_13, rX2_countRow_14, rX2_countRow_17, rX2_countRow_20, rX2_countRow_21, rX2_countRow_22, rX2_countRow_25, rX2_countRow_26, rX2_countRow_29, rX2_countRow_30, rX2_countRow_31, rX2_countRow_32, rX2_countRow_35, rX2_countRow_36, rX2_countRow_39, rX2_countRow_40, rX2_countRow_41, rX2_countRow_44, rX2_countRow_45, rX2_countRow_46, rX2_countRow_47, rX2_countRow_50, rX2_countRow_51, rX2_countRow_54, rX2_countRow_55, rX2_countRow_56, rX2_countRow_57, rX2_countRow_60, rX2_countRow_61, rX2_countRow_62, rX2_countRow_65, rX2_countRow_66, rX2_countRow_69, rX2_countRow_70, rX2_countRow_72, rX2_countRow_73, rX2_countRow_76, ro_0_0 hR, ro_0_3 hR, ro_0_4 hR, ro_0_5 hR, ro_0_6 hR, ro_0_7 hR, ro_0_8 hR, ro_0_9 hR, ro_0_10 hR, ro_0_11 hR, ro_2_6 hR, ro_2_7 hR, ro_2_8 hR, ro_2_9 hR, ro_2_10 hR, ro_2_11 hR, ro_2_12 hR, ro_2_13 hR, ro_9_0 hR, ro_9_1 hR, ro_9_2 hR, ro_14_0 hR, ro_14_1 hR, ro_14_2 hR, ro_14_7 hR, ro_15_0 hR, ro_15_1 hR, ro_15_2 hR, ro_15_3 hR, ro_20_6 hR, ro_20_7 hR, ro_20_8 hR, ro_20_9 hR, ro_20_10 hR, ro_20_11 hR, ro_20_12 hR, ro_20_13 hR, ro_27_0 hR, ro_27_1 hR, ro_27_2 hR, ro_32_0 hR, ro_32_1 hR, ro_34_10 hR, ro_34_11 hR, ro_34_12 hR, ro_34_13 hR, ro_39_0 hR, ro_39_1 hR, ro_42_0 hR, ro_42_1 hR, ro_47_0 hR, ro_47_1 hR, ro_47_2 hR, ro_47_3 hR, ro_55_0 hR, ro_55_1 hR, ro_55_2 hR, ro_57_0 hR, ro_57_1 hR, ro_57_2 hR, ro_57_3 hR, ro_57_4 hR, ro_57_5 hR, ro_57_8 hR, sh_0, sh_1, sh_2, sh_3, sh_4, sh_5, sh_6, sh_7, sh_8, sh_9, sh_10, sh_11, sh_12, sh_13, sh_14, sh_15, sh_16, sh_17, sh_18, sh_19, sh_20, sh_21, sh_22, sh_23, sh_24, sh_25, sh_26, sh_27, sh_28, sh_29, sh_30, sh_31, sh_32, sh_33, sh_34, sh_35, sh_36, sh_37, sh_38, sh_39, sh_40, sh_41, sh_42, sh_43, sh_44, sh_45, sh_46, sh_47, sh_48, sh_49, sh_50, sh_51, sh_52, sh_53, sh_54, sh_55, sh_56, sh_57, sh_58, sh_59, sh_60, sh_61, sh_62, sh_63, sh_64, sh_65, sh_66, sh_67, sh_68, hl, hvw9, Nat.reduceLT, Nat.reduceAdd, Nat.reduceMul, ne_eq, Nat.reduceEqDiff, not_false_eq_true, or_true, true_or, or_false, false_or, and_true, true_and, and_self, Nat.reduceLeDiff, am_ci, am_cr, am_cn0, Option.toList_some, Option.toList_none, List.cons_append, List.nil_append, am_s0, am_s1, am_s1r, am_s2, am_s2r, am_s3r, nI_add, am_u_ne, am_u_at, am_u_n1, am_u_n2, am_w_ne, ↓reduceIte, hn, e7, h1, h2, i5, e61, e68, c1, c2, not_false_eq_true, n1]
        exact go _ (hK.u rfl) (by rw [am_u_at, est]) (fun j hj => am_u_n2 hj)
theorem l_cr2 {way w P : Nat} {ok : Nat → Option Nat} {J : Nat → Nat → Int32} (hR : am_OR R) (hN : 116 ≤ n) (hn : n ≤ 1000) (hP : J 2 0 = nI P) (hP5 : P ≤ 5) (hw : w < 2 ^ 30) (hx : ∀ p, p < 5 → xw w p ≤ 9) (hok : ok way = some w) (he : ∀ p, p < P → ∀ x, x < 10 → J (63 + p) x = nI (cnF (enB ok p x) way)) (hQ : ∀ J', am_ag (fun k _ => 63 ≤ k ∧ k ≤ 67) J J' → (∀ p, p < P → ∀ x, x < 10 → J' (63 + p) x = nI (cnF (enB ok p x) (way + 1))) → Q none (n, J', L, R)) : ∀ (m p : Nat) (K : Nat → Nat → Int32) (l3 : Option Value), p + m = P → am_ag (fun k _ => 63 ≤ k ∧ k ≤ 67) J K → (∀ q, q < P → ∀ x, x < 10 → K (63 + q) x = if q < p then nI (cnF (enB ok q x) (way + 1)) else nI (cnF (enB ok q x) way)) → am_nl l3 → am_E X (d + 1) mX2_countRow 81 [some (.ref 57), some (.int (nI w)), some (.int (nI p)), l3] [] (n, K, L, R) Q := by
  have hl := am_lt hN
  have hvw9 := am_lw hN
  intro m
  induction m with
  | zero =>
    intro p K l3 hp hK hk n3
    have hp : p = P := by omega
    subst hp
    have eP : K 2 0 = nI p := by rw [hK 2 0 (by omega)]; exact hP
    have h1 : nI p ≤ nI p := nI_le (Nat.le_refl _) (by omega)
    simp only [am_lv_of, rX2_countRow_81, rX2_countRow_82, rX2_countRow_83, rX2_countRow_86, rX2_countRow_89, rX2_countRow_127, ro_0_0 hR, ro_0_3 hR, ro_0_4 hR, ro_0_5 hR, ro_0_6 hR, ro_0_7 hR, ro_0_8 hR, ro_0_9 hR, ro_0_10 hR, ro_0_11 hR, ro_2_6 hR, ro_2_7 hR, ro_2_8 hR, ro_2_9 hR, ro_2_10 hR, ro_2_11 hR, ro_2_12 hR, ro_2_13 hR, ro_9_0 hR, ro_9_1 hR, ro_9_2 hR, ro_14_0 hR, ro_14_1 hR, ro_14_2 hR, ro_14_7 hR, ro_15_0 hR, ro_15_1 hR, ro_15_2 hR, ro_15_3 hR, ro_20_6 hR, ro_20_7 hR, ro_20_8 hR, ro_20_9 hR, ro_20_10 hR, ro_20_11 hR, ro_20_12 hR, ro_20_13 hR, ro_27_0 hR, ro_27_1 hR, ro_27_2 hR, ro_32_0 hR, ro_32_1 hR, ro_34_10 hR, ro_34_11 hR, ro_34_12 hR, ro_34_13 hR, ro_39_0 hR, ro_39_1 hR, ro_42_0 hR, ro_42_1 hR, ro_47_0 hR, ro_47_1 hR, ro_47_2 hR, ro_47_3 hR, ro_55_0 hR, ro_55_1 hR, ro_55_2 hR, ro_57_0 hR, ro_57_1 hR, ro_57_2 hR, ro_57_3 hR, ro_57_4 hR, ro_57_5 hR, ro_57_8 hR, sh_0, sh_1, sh_2, sh_3, sh_4, sh_5, sh_6, sh_7, sh_8, sh_9, sh_10, sh_11, sh_12, sh_13, sh_14, sh_15, sh_16, sh_17, sh_18, sh_19, sh_20, sh_21, sh_22, sh_23, sh_24, sh_25, sh_26, sh_27, sh_28, sh_29, sh_30, sh_31, sh_32, sh_33, sh_34, sh_35, sh_36, sh_37, sh_38, sh_39, sh_40, sh_41, sh_42, sh_43, sh_44, sh_45, sh_46, sh_47, sh_48, sh_49, sh_50, sh_51, sh_52, sh_53, sh_54, sh_55, sh_56, sh_57, sh_58, sh_59, sh_60, sh_61, sh_62, sh_63, sh_64, sh_65, sh_66, sh_67, sh_68, hl, hvw9, Nat.reduceLT, Nat.reduceAdd, Nat.reduceMul, ne_eq, Nat.reduceEqDiff, not_false_eq_true, or_true, true_or, or_false, false_or, and_true, true_and, and_self, Nat.reduceLeDiff, am_ci, am_cr, am_cn0, Option.toList_some, Option.toList_none, List.cons_append, List.nil_append, am_s0, am_s1, am_s1r, am_s2, am_s2r, am_s3r, nI_add, am_u_ne, am_u_at, am_u_n1, am_u_n2, am_w_ne, ↓reduceIte, eP, h1]
    exact hQ K hK (fun q hq x hx => by rw [hk q hq x hx, if_pos hq])
  | succ m ih =>
    intro p K l3 hp hK hk n3
    have eP : K 2 0 = nI P := by rw [hK 2 0 (by omega)]; exact hP
    have h1 : ¬ nI P ≤ nI p := nI_ge (by omega) (by omega)
    have h2 : ¬ nI 5 ≤ nI p := nI_ge (by omega) (by omega)
    have p5 : p < 5 := by omega
    have x9 := hx p p5
    have h3 : ¬ nI 10 ≤ nI (xw w p) := nI_ge (by omega) (by omega)
    have x10 : xw w p < 10 := by omega
    have rp := ro_62 hR p p5
    have sp := sh_63p p p5
    have lp : 63 + p < n := by omega
    have es : ∀ x, x < 10 → cnF (enB ok p x) (way + 1) = cnF (enB ok p x) way + if xw w p = x then 1 else 0 := fun x _ => by
      rw [cnF]
      unfold enB
      rw [hok]
      by_cases e : xw w p = x <;> simp [e]
    rw [rX2_countRow_81]
    simp only [am_lv_of, rX2_countRow_82, rX2_countRow_83, rX2_countRow_86, rX2_countRow_89, rX2_countRow_92, rX2_countRow_93, rX2_countRow_94, rX2_countRow_97, rX2_countRow_98, rX2_countRow_99, rX2_countRow_102, rX2_countRow_103, rX2_countRow_104, rX2_countRow_106, rX2_countRow_109, rX2_countRow_110, rX2_countRow_113, rX2_countRow_114, rX2_countRow_115, rX2_countRow_116, rX2_countRow_117, rX2_countRow_118, rX2_countRow_119, rX2_countRow_120, rX2_countRow_121, rX2_countRow_124, ro_0_0 hR, ro_0_3 hR, ro_0_4 hR, ro_0_5 hR, ro_0_6 hR, ro_0_7 hR, ro_0_8 hR, ro_0_9 hR, ro_0_10 hR, ro_0_11 hR, ro_2_6 hR, ro_2_7 hR, ro_2_8 hR, ro_2_9 hR, ro_2_10 hR, ro_2_11 hR, ro_2_12 hR, ro_2_13 hR, ro_9_0 hR, ro_9_1 hR, ro_9_2 hR, ro_14_0 hR, ro_14_1 hR, ro_14_2 hR, ro_14_7 hR, ro_15_0 hR, ro_15_1 hR, ro_15_2 hR, ro_15_3 hR, ro_20_6 hR, ro_20_7 hR, ro_20_8 hR, ro_20_9 hR, ro_20_10 hR, ro_20_11 hR, ro_20_12 hR, ro_20_13 hR, ro_27_0 hR, ro_27_1 hR, ro_27_2 hR, ro_32_0 hR, ro_32_1 hR, ro_34_10 hR, ro_34_11 hR, ro_34_12 hR, ro_34_13 hR, ro_39_0 hR, ro_39_1 hR, ro_42_0 hR, ro_42_1 hR, ro_47_0 hR, ro_47_1 hR, ro_47_2 hR, ro_47_3 hR, ro_55_0 hR, ro_55_1 hR, ro_55_2 hR, ro_57_0 hR, ro_57_1 hR, ro_57_2 hR, ro_57_3 hR, ro_57_4 hR, ro_57_5 hR, ro_57_8 hR, sh_0, sh_1, sh_2, sh_3, sh_4, sh_5, sh_6, sh_7, sh_8, sh_9, sh_10, sh_11, sh_12, sh_13, sh_14, sh_15, sh_16, sh_17, sh_18, sh_19, sh_20, sh_21, sh_22, sh_23, sh_24, sh_25, sh_26, sh_27, sh_28, sh_29, sh_30, sh_31, sh_32, sh_33, sh_34, sh_35, sh_36, sh_37, sh_38, sh_39, sh_40, sh_41, sh_42, sh_43, sh_44, sh_45, sh_46, sh_47, sh_48, sh_49, sh_50, sh_51, sh_52, sh_53, sh_54, sh_55, sh_56, sh_57, sh_58, sh_59, sh_60, sh_61, sh_62, sh_63, sh_64, sh_65, sh_66, sh_67, sh_68, hl, hvw9, Nat.reduceLT, Nat.reduceAdd, Nat.reduceMul, ne_eq, Nat.reduceEqDiff, not_false_eq_true, or_true, true_or, or_false, false_or, and_true, true_and, and_self, Nat.reduceLeDiff, am_ci, am_cr, am_cn0, Option.toList_some, Option.toList_none, List.cons_append, List.nil_append, am_s0, am_s1, am_s1r, am_s2, am_s2r, am_s3r, nI_add, am_u_ne, am_u_at, am_u_n1, am_u_n2, am_w_ne, ↓reduceIte, hn, eP, h1, h2, p5, h3, x10, rp, sp, lp, c_xOf hw p5, n3]
    refine ih (p + 1) _ _ (by omega) (hK.u ⟨by omega, by omega⟩) (fun q hq x hx10 => ?_) am_ci
    by_cases e1 : q = p
    · subst e1
      rw [if_pos (by omega)]
      have e0 := hk q hq (xw w q) x10
      rw [if_neg (by omega)] at e0
      by_cases e2 : x = xw w q
      · subst e2
        rw [am_u_at, e0, es _ x10, if_pos rfl, nI_add]
      · rw [am_u_n2 e2, hk q hq x hx10, if_neg (by omega), es x hx10, if_neg (fun z => e2 z.symm)]
        rfl
    · rw [am_u_n1 (by omega), hk q hq x hx10]
      by_cases h : q < p
      · rw [if_pos h, if_pos (by omega)]
      · rw [if_neg h, if_neg (by omega)]
theorem c_countRow {ln way w : Nat} {ok : Nat → Option Nat} (hR : am_OR R) (hN : 116 ≤ n) (hn : n ≤ 1000) (h7 : I 57 7 = nI ln) (hln : ln ≤ 5) (hP : I 2 0 = nI (p_P σ)) (hP5 : p_P σ ≤ 5) (hw : okP σ w) (hok : ok way = some w) (hd : ∀ i, i < ln → I 61 i = nI (dgW ln i way)) (hc : clI I ln (p_P σ) ok way) (hQ : ∀ I', am_ag (fun k j => clP k j ∧ k ≠ 61) I I' → clI I' ln (p_P σ) ok (way + 1) → Q none (n, I', L, R)) : am_E X (d + 1) mX2_countRow 0 [some (.ref 57), some (.int (nI w)), none, none] [] (n, I, L, R) Q := by
  have hl := am_lt hN
  have hvw9 := am_lw hN
  obtain ⟨c1, c2, c3⟩ := hc
  simp only [am_lv_of, rX2_countRow_0, rX2_countRow_1, rX2_countRow_2, rX2_countRow_5, rX2_countRow_6, rX2_countRow_7, rX2_countRow_10, rX2_countRow_11, ro_0_0 hR, ro_0_3 hR, ro_0_4 hR, ro_0_5 hR, ro_0_6 hR, ro_0_7 hR, ro_0_8 hR, ro_0_9 hR, ro_0_10 hR, ro_0_11 hR, ro_2_6 hR, ro_2_7 hR, ro_2_8 hR, ro_2_9 hR, ro_2_10 hR, ro_2_11 hR, ro_2_12 hR, ro_2_13 hR, ro_9_0 hR, ro_9_1 hR, ro_9_2 hR, ro_14_0 hR, ro_14_1 hR, ro_14_2 hR, ro_14_7 hR, ro_15_0 hR, ro_15_1 hR, ro_15_2 hR, ro_15_3 hR, ro_20_6 hR, ro_20_7 hR, ro_20_8 hR, ro_20_9 hR, ro_20_10 hR, ro_20_11 hR, ro_20_12 hR, ro_20_13 hR, ro_27_0 hR, ro_27_1 hR, ro_27_2 hR, ro_32_0 hR, ro_32_1 hR, ro_34_10 hR, ro_34_11 hR, ro_34_12 hR, ro_34_13 hR, ro_39_0 hR, ro_39_1 hR, ro_42_0 hR, ro_42_1 hR, ro_47_0 hR, ro_47_1 hR, ro_47_2 hR, ro_47_3 hR, ro_55_0 hR, ro_55_1 hR, ro_55_2 hR, ro_57_0 hR, ro_57_1 hR, ro_57_2 hR, ro_57_3 hR, ro_57_4 hR, ro_57_5 hR, ro_57_8 hR, sh_0, sh_1, sh_2, sh_3, sh_4, sh_5, sh_6, sh_7, sh_8, sh_9, sh_10, sh_11, sh_12, sh_13, sh_14, sh_15, sh_16, sh_17, sh_18, sh_19, sh_20, sh_21, sh_22, sh_23, sh_24, sh_25, sh_26, sh_27, sh_28, sh_29, sh_30, sh_31, sh_32, sh_33, sh_34, sh_35, sh_36, sh_37, sh_38, sh_39, sh_40, sh_41, sh_42, sh_43, sh_44, sh_45, sh_46, sh_47, sh_48, sh_49, sh_50, sh_51, sh_52, sh_53, sh_54, sh_55, sh_56, sh_57, sh_58, sh_59, sh_60, sh_61, sh_62, sh_63, sh_64, sh_65, sh_66, sh_67, sh_68, hl, hvw9, Nat.reduceLT, Nat.reduceAdd, Nat.reduceMul, ne_eq, Nat.reduceEqDiff, not_false_eq_true, or_true, true_or, or_false, false_or, and_true, true_and, and_self, Nat.reduceLeDiff, am_ci, am_cr, am_cn0, Option.toList_some, Option.toList_none, List.cons_append, List.nil_append, am_s0, am_s1, am_s1r, am_s2, am_s2r, am_s3r, nI_add, am_u_ne, am_u_at, am_u_n1, am_u_n2, am_w_ne, hn, c1]
  refine l_cr1 (J := am_u I 57 9 (nI (cnF (fun way => (ok way).isSome) way + 1))) hR hN hn (by rw [am_u_n2 (by omega)]; exact h7) hln hok (fun i hi => by rw [am_u_n1 (by omega)]; exact hd i hi) (fun i hi => by rw [am_u_n1 (by omega)]; exact c2 i hi) am_ci (fun J g1 e1 => ?_) ln 0 _ (by omega) am_ag.refl (fun j hj => by rw [if_neg (by omega), am_u_n1 (by omega)]; exact c2 j hj)
  simp only [am_lv_of, rX2_countRow_79, rX2_countRow_80, hl, hvw9, Nat.reduceLT, Nat.reduceAdd, Nat.reduceMul, ne_eq, Nat.reduceEqDiff, not_false_eq_true, or_true, true_or, or_false, false_or, and_true, true_and, and_self, Nat.reduceLeDiff, am_ci, am_cr, am_cn0, Option.toList_some, Option.toList_none, List.cons_append, List.nil_append, am_s0, am_s1, am_s1r, am_s2, am_s2r, am_s3r, nI_add, am_u_ne, am_u_at, am_u_n1, am_u_n2, am_w_ne]
  refine l_cr2 (J := J) hR hN hn (by rw [g1 2 0 (by omega), am_u_n1 (by omega)]; exact hP) hP5 hw.1 hw.2.1 hok (fun p hp x hx => by rw [g1 _ _ (by omega), am_u_n1 (by omega)]; exact c3 p hp x hx) (fun J' g2 e2 => ?_) (p_P σ) 0 J none (by omega) am_ag.refl (fun q hq x hx => by rw [if_neg (by omega), g1 _ _ (by omega), am_u_n1 (by omega)]; exact c3 q hq x hx) am_cn0
  refine hQ J' (fun k j hk => ?_) ⟨?_, fun i hi => ?_, e2⟩
  · have hk' : ¬ ((k = 57 ∧ j = 9) ∨ (63 ≤ k ∧ k ≤ 67) ∨ k = 68) := fun z => hk ⟨by unfold clP; omega, by omega⟩
    rw [g2 k j (by omega), g1 k j (by omega), am_u_nn (by omega)]
  · rw [g2 57 9 (by omega), g1 57 9 (by omega), am_u_at, cnF, hok]
    rfl
  · rw [g2 68 i (by omega)]; exact e1 i hi
def dgs (J : Nat → Nat → Int32) (made c : Nat) : Prop := ∀ i, i < made → J 61 i = nI (c / 7 ^ (made - 1 - i) % 7)
theorem dg_up {made c s i : Nat} (hs : s < 7) (hi : i < made) : (7 * c + s) / 7 ^ (made + 1 - 1 - i) % 7 = c / 7 ^ (made - 1 - i) % 7 := by
  rw [show made + 1 - 1 - i = (made - 1 - i) + 1 by omega, Nat.pow_succ, Nat.mul_comm (7 ^ (made - 1 - i)) 7, ← Nat.div_div_eq_div_mul, show (7 * c + s) / 7 = c by omega]
theorem c_goOn {ln k w0 : Nat} {ok : Nat → Option Nat} (hR : am_OR R) (hN : 116 ≤ n) (hn : n ≤ 1000) (ho : ok_S σ) (H : cl_S I σ) (h7 : I 57 7 = nI ln) (hln : ln ≤ 5) (h6 : I 57 6 = nI k) (hk2 : k ≤ 20) (ht : tlC I τ k) : ∀ (rem made c w : Nat) (J : Nat → Nat → Int32) (Q : Option Value → am_M → Prop), made + rem = ln → okP σ w → (∀ way, way / 7 ^ rem = c → ok way = goW σ τ k rem made w way) → am_ag clP I J → dgs J made c → clI J ln (p_P σ) ok (c * 7 ^ rem) → (∀ J', am_ag clP I J' → dgs J' made c → clI J' ln (p_P σ) ok ((c + 1) * 7 ^ rem) → Q none (n, J', L, R)) → am_E X (d + rem + 2) mX2_goOn 0 [some (.ref 57), some (.int (nI w)), some (.int (nI made)), none, none] [] (n, J, L, R) Q := by
  have hl := am_lt hN
  have hvw9 := am_lw hN
  have S7 := ho.2.1
  intro rem
  induction rem with
  | zero =>
    intro made c w J Q hm hw hok hJ hd hc hQ
    have hm : made = ln := by omega
    subst hm
    have e7 : J 57 7 = nI made := by rw [hJ 57 7 (by unfold clP; omega)]; exact h7
    have eP : J 2 0 = nI (p_P σ) := by rw [hJ 2 0 (by unfold clP; omega)]; exact H.1
    have z0 : ¬ nI made < 0 := nI_pos (by omega)
    have z1 : nI made ≤ nI made := nI_le (Nat.le_refl _) (by omega)
    rw [Nat.pow_zero, Nat.mul_one] at hc
    simp only [am_lv_of, rX2_goOn_0, rX2_goOn_1, rX2_goOn_4, rX2_goOn_5, rX2_goOn_6, rX2_goOn_9, rX2_goOn_12, rX2_goOn_13, rX2_goOn_14, rX2_goOn_17, rX2_goOn_18, rX2_goOn_19, ro_0_0 hR, ro_0_3 hR, ro_0_4 hR, ro_0_5 hR, ro_0_6 hR, ro_0_7 hR, ro_0_8 hR, ro_0_9 hR, ro_0_10 hR, ro_0_11 hR, ro_2_6 hR, ro_2_7 hR, ro_2_8 hR, ro_2_9 hR, ro_2_10 hR, ro_2_11 hR, ro_2_12 hR, ro_2_13 hR, ro_9_0 hR, ro_9_1 hR, ro_9_2 hR, ro_14_0 hR, ro_14_1 hR, ro_14_2 hR, ro_14_7 hR, ro_15_0 hR, ro_15_1 hR, ro_15_2 hR, ro_15_3 hR, ro_20_6 hR, ro_20_7 hR, ro_20_8 hR, ro_20_9 hR, ro_20_10 hR, ro_20_11 hR, ro_20_12 hR, ro_20_13 hR, ro_27_0 hR, ro_27_1 hR, ro_27_2 hR, ro_32_0 hR, ro_32_1 hR, ro_34_10 hR, ro_34_11 hR, ro_34_12 hR, ro_34_13 hR, ro_39_0 hR, ro_39_1 hR, ro_42_0 hR, ro_42_1 hR, ro_47_0 hR, ro_47_1 hR, ro_47_2 hR, ro_47_3 hR, ro_55_0 hR, ro_55_1 hR, ro_55_2 hR, ro_57_0 hR, ro_57_1 hR, ro_57_2 hR, ro_57_3 hR, ro_57_4 hR, ro_57_5 hR, ro_57_8 hR, sh_0, sh_1, sh_2, sh_3, sh_4, sh_5, sh_6, sh_7, sh_8, sh_9, sh_10, sh_11, sh_12, sh_13, sh_14, sh_15, sh_16, sh_17, sh_18, sh_19, sh_20, sh_21, sh_22, sh_23, sh_24, sh_25, sh_26, sh_27, sh_28, sh_29, sh_30, sh_31, sh_32, sh_33, sh_34, sh_35, sh_36, sh_37, sh_38, sh_39, sh_40, sh_41, sh_42, sh_43, sh_44, sh_45, sh_46, sh_47, sh_48, sh_49, sh_50, sh_51, sh_52, sh_53, sh_54, sh_55, sh_56, sh_57, sh_58, sh_59, sh_60, sh_61, sh_62, sh_63, sh_64, sh_65, sh_66, sh_67, sh_68, hl, hvw9, Nat.reduceLT, Nat.reduceAdd, Nat.reduceMul, ne_eq, Nat.reduceEqDiff, not_false_eq_true, or_true, true_or, or_false, false_or, and_true, true_and, and_self, Nat.reduceLeDiff, am_ci, am_cr, am_cn0, Option.toList_some, Option.toList_none, List.cons_append, List.nil_append, am_s0, am_s1, am_s1r, am_s2, am_s2r, am_s3r, nI_add, am_u_ne, am_u_at, am_u_n1, am_u_n2, am_w_ne, ↓reduceIte, z0, e7, z1]
    refine c_countRow (ok := ok) hR hN hn e7 hln eP ho.1 hw (hok c (by rw [Nat.pow_zero, Nat.div_one])) hd hc (fun J' g1 g2 => ?_)
    simp only [am_lv_of, Option.toList_none, List.nil_append, rX2_goOn_22]
    exact hQ J' (hJ.trans (g1.mono (fun k j z => z.1))) (fun i hi => by rw [g1 61 i (fun z => z.2 rfl)]; exact hd i hi) (by rw [Nat.pow_zero, Nat.mul_one]; exact g2)
  | succ rem ih =>
    intro made c w J Q hm hw hok hJ hd hc hQ
    have p7 : 0 < 7 ^ rem := Nat.pow_pos (by omega)
    have z0 : ¬ nI made < 0 := nI_pos (by omega)
    have z1 : ¬ nI ln ≤ nI made := nI_ge (by omega) (by omega)
    have z2 : nI made < nI 5 := nI_lt (by omega) (by omega)
    have m5 : made < 5 := by omega
    have e7 : J 57 7 = nI ln := by rw [hJ 57 7 (by unfold clP; omega)]; exact h7
    -- a way that begins so
    have hway : ∀ way s, s < 7 → way / 7 ^ rem = 7 * c + s → ok way = (if s < p_S σ ∧ stW σ w s = true ∧ fitW τ k (cMv σ w s) (made + 1) = true then goW σ τ k rem (made + 1) (cMv σ w s) way else none) := fun way s hs hh => by
      have e1 : way / 7 ^ (rem + 1) = c := by rw [Nat.pow_succ, ← Nat.div_div_eq_div_mul, hh]; omega
      have e2 : way / 7 ^ rem % 7 = s := by rw [hh]; omega
      rw [hok way e1, goW, e2]
    have skip : ∀ (K : Nat → Nat → Int32) s, s < 7 → ¬ (s < p_S σ ∧ stW σ w s = true ∧ fitW τ k (cMv σ w s) (made + 1) = true) → clI K ln (p_P σ) ok ((7 * c + s) * 7 ^ rem) → clI K ln (p_P σ) ok ((7 * c + (s + 1)) * 7 ^ rem) := fun K s hs hno hK => by
      refine clI_none hK (Nat.mul_le_mul_right _ (by omega)) (fun y y1 y2 => ?_)
      have : y / 7 ^ rem = 7 * c + s := by
        apply Nat.div_eq_of_lt_le y1
        exact y2
      rw [hway y s hs this, if_neg hno]
    have loop : ∀ (m s : Nat) (K : Nat → Nat → Int32) (l4 : Option Value), s + m = p_S σ → am_ag clP I K → dgs K made c → clI K ln (p_P σ) ok ((7 * c + s) * 7 ^ rem) → am_nl l4 → am_E X (d + (rem + 1) + 2) mX2_goOn 25 [some (.ref 57), some (.int (nI w)), some (.int (nI made)), some (.int (nI s)), l4] [] (n, K, L, R) Q := by
      intro m
      induction m with
      | zero =>
        intro s K l4 hs hK hdK hcK n4
        have hs : s = p_S σ := by omega
        subst hs
        have eS : K 2 1 = nI (p_S σ) := by rw [hK 2 1 (by unfold clP; omega)]; exact H.2.1
        have h1 : nI (p_S σ) ≤ nI (p_S σ) := nI_le (Nat.le_refl _) (by omega)
        simp only [am_lv_of, rX2_goOn_25, rX2_goOn_26, rX2_goOn_27, rX2_goOn_30, rX2_goOn_33, rX2_goOn_87, ro_0_0 hR, ro_0_3 hR, ro_0_4 hR, ro_0_5 hR, ro_0_6 hR, ro_0_7 hR, ro_0_8 hR, ro_0_9 hR, ro_0_10 hR, ro_0_11 hR, ro_2_6 hR, ro_2_7 hR, ro_2_8 hR, ro_2_9 hR, ro_2_10 hR, ro_2_11 hR, ro_2_12 hR, ro_2_13 hR, ro_9_0 hR, ro_9_1 hR, ro_9_2 hR, ro_14_0 hR, ro_14_1 hR, ro_14_2 hR, ro_14_7 hR, ro_15_0 hR, ro_15_1 hR, ro_15_2 hR, ro_15_3 hR, ro_20_6 hR, ro_20_7 hR, ro_20_8 hR, ro_20_9 hR, ro_20_10 hR, ro_20_11 hR, ro_20_12 hR, ro_20_13 hR, ro_27_0 hR, ro_27_1 hR, ro_27_2 hR, ro_32_0 hR, ro_32_1 hR, ro_34_10 hR, ro_34_11 hR, ro_34_12 hR, ro_34_13 hR, ro_39_0 hR, ro_39_1 hR, ro_42_0 hR, ro_42_1 hR, ro_47_0 hR, ro_47_1 hR, ro_47_2 hR, ro_47_3 hR, ro_55_0 hR, ro_55_1 hR, ro_55_2 hR, ro_57_0 hR, ro_57_1 hR, ro_57_2 hR, ro_57_3 hR, ro_57_4 hR, ro_57_5 hR, ro_57_8 hR, sh_0, sh_1, sh_2, sh_3, sh_4, sh_5, sh_6, sh_7, sh_8, sh_9, sh_10, sh_11, sh_12, sh_13, sh_14, sh_15, sh_16, sh_17, sh_18, sh_19, sh_20, sh_21, sh_22, sh_23, sh_24, sh_25, sh_26, sh_27, sh_28, sh_29, sh_30, sh_31, sh_32, sh_33, sh_34, sh_35, sh_36, sh_37, sh_38, sh_39, sh_40, sh_41, sh_42, sh_43, sh_44, sh_45, sh_46, sh_47, sh_48, sh_49, sh_50, sh_51, sh_52, sh_53, sh_54, sh_55, sh_56, sh_57, sh_58, sh_59, sh_60, sh_61, sh_62, sh_63, sh_64, sh_65, sh_66, sh_67, sh_68, hl, hvw9, Nat.reduceLT, Nat.reduceAdd, Nat.reduceMul, ne_eq, Nat.reduceEqDiff, not_false_eq_true, or_true, true_or, or_false, false_or, and_true, true_and, and_self, Nat.reduceLeDiff, am_ci, am_cr, am_cn0, Option.toList_some, Option.toList_none, List.cons_append, List.nil_append, am_s0, am_s1, am_s1r, am_s2, am_s2r, am_s3r, nI_add, am_u_ne, am_u_at, am_u_n1, am_u_n2, am_w_ne, ↓reduceIte, eS, h1]
        refine hQ K hK hdK (clI_none hcK ?_ (fun y y1 y2 => ?_))
        · rw [Nat.pow_succ, Nat.mul_comm (7 ^ rem) 7, ← Nat.mul_assoc]
          exact Nat.mul_le_mul_right _ (by omega)
        · have a1 : 7 * c + p_S σ ≤ y / 7 ^ rem := (Nat.le_div_iff_mul_le p7).mpr y1
          have a2 : y / 7 ^ rem < 7 * (c + 1) := by
            apply Nat.div_lt_of_lt_mul
            rw [Nat.pow_succ, ← Nat.mul_assoc, Nat.mul_comm ((c + 1) * 7 ^ rem) 7, ← Nat.mul_assoc, Nat.mul_comm (7 * (c + 1))] at y2
            exact y2
          rw [hway y (y / 7 ^ rem - 7 * c) (by omega) (by omega), if_neg (fun z => absurd z.1 (by omega))]
      | succ m ihm =>
        intro s K l4 hs hK hdK hcK n4
        have hs7 : s < 7 := by omega
        have HK : cl_S K σ := H.ag (fun k j hk => hK k j (by unfold clP; omega))
        have eS := HK.2.1
        have h1 : ¬ nI (p_S σ) ≤ nI s := nI_ge (by omega) (by omega)
        rw [rX2_goOn_25]
        simp only [am_lv_of, rX2_goOn_26, rX2_goOn_27, rX2_goOn_30, rX2_goOn_33, rX2_goOn_36, rX2_goOn_37, rX2_goOn_40, rX2_goOn_41, rX2_goOn_42, ro_0_0 hR, ro_0_3 hR, ro_0_4 hR, ro_0_5 hR, ro_0_6 hR, ro_0_7 hR, ro_0_8 hR, ro_0_9 hR, ro_0_10 hR, ro_0_11 hR, ro_2_6 hR, ro_2_7 hR, ro_2_8 hR, ro_2_9 hR, ro_2_10 hR, ro_2_11 hR, ro_2_12 hR, ro_2_13 hR, ro_9_0 hR, ro_9_1 hR, ro_9_2 hR, ro_14_0 hR, ro_14_1 hR, ro_14_2 hR, ro_14_7 hR, ro_15_0 hR, ro_15_1 hR, ro_15_2 hR, ro_15_3 hR, ro_20_6 hR, ro_20_7 hR, ro_20_8 hR, ro_20_9 hR, ro_20_10 hR, ro_20_11 hR, ro_20_12 hR, ro_20_13 hR, ro_27_0 hR, ro_27_1 hR, ro_27_2 hR, ro_32_0 hR, ro_32_1 hR, ro_34_10 hR, ro_34_11 hR, ro_34_12 hR, ro_34_13 hR, ro_39_0 hR, ro_39_1 hR, ro_42_0 hR, ro_42_1 hR, ro_47_0 hR, ro_47_1 hR, ro_47_2 hR, ro_47_3 hR, ro_55_0 hR, ro_55_1 hR, ro_55_2 hR, ro_57_0 hR, ro_57_1 hR, ro_57_2 hR, ro_57_3 hR, ro_57_4 hR, ro_57_5 hR, ro_57_8 hR, sh_0, sh_1, sh_2, sh_3, sh_4, sh_5, sh_6, sh_7, sh_8, sh_9, sh_10, sh_11, sh_12, sh_13, sh_14, sh_15, sh_16, sh_17, sh_18, sh_19, sh_20, sh_21, sh_22, sh_23, sh_24, sh_25, sh_26, sh_27, sh_28, sh_29, sh_30, sh_31, sh_32, sh_33, sh_34, sh_35, sh_36, sh_37, sh_38, sh_39, sh_40, sh_41, sh_42, sh_43, sh_44, sh_45, sh_46, sh_47, sh_48, sh_49, sh_50, sh_51, sh_52, sh_53, sh_54, sh_55, sh_56, sh_57, sh_58, sh_59, sh_60, sh_61, sh_62, sh_63, sh_64, sh_65, sh_66, sh_67, sh_68, hl, hvw9, Nat.reduceLT, Nat.reduceAdd, Nat.reduceMul, ne_eq, Nat.reduceEqDiff, not_false_eq_true, or_true, true_or, or_false, false_or, and_true, true_and, and_self, Nat.reduceLeDiff, am_ci, am_cr, am_cn0, Option.toList_some, Option.toList_none, List.cons_append, List.nil_append, am_s0, am_s1, am_s1r, am_s2, am_s2r, am_s3r, nI_add, am_u_ne, am_u_at, am_u_n1, am_u_n2, am_w_ne, ↓reduceIte, eS, h1, c_movedW hR hN hn ho HK (show s < p_S σ by omega) hw]
        by_cases hst : stW σ w s = true
        · have hw' := hw.mv ho (by omega) hst
          have hne : ¬ nI (cMv σ w s) = -1 := nI_nm1 (by have := hw'.1; omega)
          have e6 : K 57 6 = nI k := by rw [hK 57 6 (by unfold clP; omega)]; exact h6
          have htK : tlC K τ k := fun j hj => by
            rw [hK 58 j (by unfold clP; omega), hK 59 j (by unfold clP; omega), hK 60 j (by unfold clP; omega)]; exact ht j hj
          simp only [am_lv_of, rX2_goOn_45, rX2_goOn_47, rX2_goOn_49, rX2_goOn_50, rX2_goOn_53, rX2_goOn_54, rX2_goOn_56, rX2_goOn_57, rX2_goOn_58, rX2_goOn_59, ro_0_0 hR, ro_0_3 hR, ro_0_4 hR, ro_0_5 hR, ro_0_6 hR, ro_0_7 hR, ro_0_8 hR, ro_0_9 hR, ro_0_10 hR, ro_0_11 hR, ro_2_6 hR, ro_2_7 hR, ro_2_8 hR, ro_2_9 hR, ro_2_10 hR, ro_2_11 hR, ro_2_12 hR, ro_2_13 hR, ro_9_0 hR, ro_9_1 hR, ro_9_2 hR, ro_14_0 hR, ro_14_1 hR, ro_14_2 hR, ro_14_7 hR, ro_15_0 hR, ro_15_1 hR, ro_15_2 hR, ro_15_3 hR, ro_20_6 hR, ro_20_7 hR, ro_20_8 hR, ro_20_9 hR, ro_20_10 hR, ro_20_11 hR, ro_20_12 hR, ro_20_13 hR, ro_27_0 hR, ro_27_1 hR, ro_27_2 hR, ro_32_0 hR, ro_32_1 hR, ro_34_10 hR, ro_34_11 hR, ro_34_12 hR, ro_34_13 hR, ro_39_0 hR, ro_39_1 hR, ro_42_0 hR, ro_42_1 hR, ro_47_0 hR, ro_47_1 hR, ro_47_2 hR, ro_47_3 hR, ro_55_0 hR, ro_55_1 hR, ro_55_2 hR, ro_57_0 hR, ro_57_1 hR, ro_57_2 hR, ro_57_3 hR, ro_57_4 hR, ro_57_5 hR, ro_57_8 hR, sh_0, sh_1, sh_2, sh_3, sh_4, sh_5, sh_6, sh_7, sh_8, sh_9, sh_10, sh_11, sh_12, sh_13, sh_14, sh_15, sh_16, sh_17, sh_18, sh_19, sh_20, sh_21, sh_22, sh_23, sh_24, sh_25, sh_26, sh_27, sh_28, sh_29, sh_30, sh_31, sh_32, sh_33, sh_34, sh_35, sh_36, sh_37, sh_38, sh_39, sh_40, sh_41, sh_42, sh_43, sh_44, sh_45, sh_46, sh_47, sh_48, sh_49, sh_50, sh_51, sh_52, sh_53, sh_54, sh_55, sh_56, sh_57, sh_58, sh_59, sh_60, sh_61, sh_62, sh_63, sh_64, sh_65, sh_66, sh_67, sh_68, hl, hvw9, Nat.reduceLT, Nat.reduceAdd, Nat.reduceMul, ne_eq, Nat.reduceEqDiff, not_false_eq_true, or_true, true_or, or_false, false_or, and_true, true_and, and_self, Nat.reduceLeDiff, am_ci, am_cr, am_cn0, Option.toList_some, Option.toList_none, List.cons_append, List.nil_append, am_s0, am_s1, am_s1r, am_s2, am_s2r, am_s3r, nI_add, am_u_ne, am_u_at, am_u_n1, am_u_n2, am_w_ne, ↓reduceIte, hst, hne, n4]
          rw [c_fits hR hN hw'.1 e6 hk2 htK (by omega)]
          simp only [am_lv_of, Option.toList_some, List.cons_append, List.nil_append, rX2_goOn_62, bI_ne]
          by_cases hf : fitW τ k (cMv σ w s) (made + 1) = true
          · simp only [am_lv_of, hf, Bool.true_eq_false, ↓reduceIte, rX2_goOn_65, rX2_goOn_66, rX2_goOn_69, rX2_goOn_70, rX2_goOn_71, rX2_goOn_72, rX2_goOn_73, rX2_goOn_75, rX2_goOn_76, rX2_goOn_77, rX2_goOn_78, ro_0_0 hR, ro_0_3 hR, ro_0_4 hR, ro_0_5 hR, ro_0_6 hR, ro_0_7 hR, ro_0_8 hR, ro_0_9 hR, ro_0_10 hR, ro_0_11 hR, ro_2_6 hR, ro_2_7 hR, ro_2_8 hR, ro_2_9 hR, ro_2_10 hR, ro_2_11 hR, ro_2_12 hR, ro_2_13 hR, ro_9_0 hR, ro_9_1 hR, ro_9_2 hR, ro_14_0 hR, ro_14_1 hR, ro_14_2 hR, ro_14_7 hR, ro_15_0 hR, ro_15_1 hR, ro_15_2 hR, ro_15_3 hR, ro_20_6 hR, ro_20_7 hR, ro_20_8 hR, ro_20_9 hR, ro_20_10 hR, ro_20_11 hR, ro_20_12 hR, ro_20_13 hR, ro_27_0 hR, ro_27_1 hR, ro_27_2 hR, ro_32_0 hR, ro_32_1 hR, ro_34_10 hR, ro_34_11 hR, ro_34_12 hR, ro_34_13 hR, ro_39_0 hR, ro_39_1 hR, ro_42_0 hR, ro_42_1 hR, ro_47_0 hR, ro_47_1 hR, ro_47_2 hR, ro_47_3 hR, ro_55_0 hR, ro_55_1 hR, ro_55_2 hR, ro_57_0 hR, ro_57_1 hR, ro_57_2 hR, ro_57_3 hR, ro_57_4 hR, ro_57_5 hR, ro_57_8 hR, sh_0, sh_1, sh_2, sh_3, sh_4, sh_5, sh_6, sh_7, sh_8, sh_9, sh_10, sh_11, sh_12, sh_13, sh_14, sh_15, sh_16, sh_17, sh_18, sh_19, sh_20, sh_21, sh_22, sh_23, sh_24, sh_25, sh_26, sh_27, sh_28, sh_29, sh_30, sh_31, sh_32, sh_33, sh_34, sh_35, sh_36, sh_37, sh_38, sh_39, sh_40, sh_41, sh_42, sh_43, sh_44, sh_45, sh_46, sh_47, sh_48, sh_49, sh_50, sh_51, sh_52, sh_53, sh_54, sh_55, sh_56, sh_57, sh_58, sh_59, sh_60, sh_61, sh_62, sh_63, sh_64, sh_65, sh_66, sh_67, sh_68, hl, hvw9, Nat.reduceLT, Nat.reduceAdd, Nat.reduceMul, ne_eq, Nat.reduceEqDiff, not_false_eq_true, or_true, true_or, or_false, false_or, and_true, true_and, and_self, Nat.reduceLeDiff, am_ci, am_cr, am_cn0, Option.toList_some, Option.toList_none, List.cons_append, List.nil_append, am_s0, am_s1, am_s1r, am_s2, am_s2r, am_s3r, nI_add, am_u_ne, am_u_at, am_u_n1, am_u_n2, am_w_ne, hn, m5]
            refine ih (made + 1) (7 * c + s) (cMv σ w s) _ _ (by omega) hw' (fun way hh => by rw [hway way s hs7 hh, if_pos ⟨by omega, hst, hf⟩]) (hK.u (by unfold clP; omega)) (fun i hi => ?_) ?_ (fun J' g1 g2 g3 => ?_)
            · by_cases e : i = made
              · subst e
                rw [am_u_at, show i + 1 - 1 - i = 0 by omega, Nat.pow_zero, Nat.div_one]
                exact congrArg nI (by omega)
              · rw [am_u_n2 e, dg_up hs7 (by omega)]; exact hdK i (by omega)
            · obtain ⟨q1, q2, q3⟩ := hcK
              exact ⟨by rw [am_u_n1 (by omega)]; exact q1, fun i hi => by rw [am_u_n1 (by omega)]; exact q2 i hi, fun p hp x hx => by rw [am_u_n1 (by omega)]; exact q3 p hp x hx⟩
            · simp only [am_lv_of, Option.toList_none, List.nil_append, rX2_goOn_81, rX2_goOn_84, hl, hvw9, Nat.reduceLT, Nat.reduceAdd, Nat.reduceMul, ne_eq, Nat.reduceEqDiff, not_false_eq_true, or_true, true_or, or_false, false_or, and_true, true_and, and_self, Nat.reduceLeDiff, am_ci, am_cr, am_cn0, Option.toList_some, Option.toList_none, List.cons_append, List.nil_append, am_s0, am_s1, am_s1r, am_s2, am_s2r, am_s3r, nI_add, am_u_ne, am_u_at, am_u_n1, am_u_n2, am_w_ne]
              exact ihm (s + 1) J' _ (by omega) g1 (fun i hi => by rw [g2 i (by omega), dg_up hs7 hi]) (by rw [← Nat.add_assoc]; exact g3) am_ci
          · have hf' : fitW τ k (cMv σ w s) (made + 1) = false := by simpa using hf
            simp only [am_lv_of, hf', ↓reduceIte, rX2_goOn_81, rX2_goOn_84, hl, hvw9, Nat.reduceLT, Nat.reduceAdd, Nat.reduceMul, ne_eq, Nat.reduceEqDiff, not_false_eq_true, or_true, true_or, or_false, false_or, and_true, true_and, and_self, Nat.reduceLeDiff, am_ci, am_cr, am_cn0, Option.toList_some, Option.toList_none, List.cons_append, List.nil_append, am_s0, am_s1, am_s1r, am_s2, am_s2r, am_s3r, nI_add, am_u_ne, am_u_at, am_u_n1, am_u_n2, am_w_ne]
            exact ihm (s + 1) K _ (by omega) hK hdK (skip K s hs7 (fun z => hf z.2.2) hcK) am_ci
        · simp only [am_lv_of, rX2_goOn_45, rX2_goOn_47, rX2_goOn_49, rX2_goOn_50, rX2_goOn_81, rX2_goOn_84, ro_0_0 hR, ro_0_3 hR, ro_0_4 hR, ro_0_5 hR, ro_0_6 hR, ro_0_7 hR, ro_0_8 hR, ro_0_9 hR, ro_0_10 hR, ro_0_11 hR, ro_2_6 hR, ro_2_7 hR, ro_2_8 hR, ro_2_9 hR, ro_2_10 hR, ro_2_11 hR, ro_2_12 hR, ro_2_13 hR, ro_9_0 hR, ro_9_1 hR, ro_9_2 hR, ro_14_0 hR, ro_14_1 hR, ro_14_2 hR, ro_14_7 hR, ro_15_0 hR, ro_15_1 hR, ro_15_2 hR, ro_15_3 hR, ro_20_6 hR, ro_20_7 hR, ro_20_8 hR, ro_20_9 hR, ro_20_10 hR, ro_20_11 hR, ro_20_12 hR, ro_20_13 hR, ro_27_0 hR, ro_27_1 hR, ro_27_2 hR, ro_32_0 hR, ro_32_1 hR, ro_34_10 hR, ro_34_11 hR, ro_34_12 hR, ro_34_13 hR, ro_39_0 hR, ro_39_1 hR, ro_42_0 hR, ro_42_1 hR, ro_47_0 hR, ro_47_1 hR, ro_47_2 hR, ro_47_3 hR, ro_55_0 hR, ro_55_1 hR, ro_55_2 hR, ro_57_0 hR, ro_57_1 hR, ro_57_2 hR, ro_57_3 hR, ro_57_4 hR, ro_57_5 hR, ro_57_8 hR, sh_0, sh_1, sh_2, sh_3, sh_4, sh_5, sh_6, sh_7, sh_8, sh_9, sh_10, sh_11, sh_12, sh_13, sh_14, sh_15, sh_16, sh_17, sh_18, sh_19, sh_20, sh_21, sh_22, sh_23, sh_24, sh_25, sh_26, sh_27, sh_28, sh_29, sh_30, sh_31, sh_32, sh_33, sh_34, sh_35, sh_36, sh_37, sh_38, sh_39, sh_40, sh_41, sh_42, sh_43, sh_44, sh_45, sh_46, sh_47, sh_48, sh_49, sh_50, sh_51, sh_52, sh_53, sh_54, sh_55, sh_56, sh_57, sh_58, sh_59, sh_60, sh_61, sh_62, sh_63, sh_64, sh_65, sh_66, sh_67, sh_68, hl, hvw9, Nat.reduceLT, Nat.reduceAdd, Nat.reduceMul, ne_eq, Nat.reduceEqDiff, not_false_eq_true, or_true, true_or, or_false, false_or, and_true, true_and, and_self, Nat.reduceLeDiff, am_ci, am_cr, am_cn0, Option.toList_some, Option.toList_none, List.cons_append, List.nil_append, am_s0, am_s1, am_s1r, am_s2, am_s2r, am_s3r, nI_add, am_u_ne, am_u_at, am_u_n1, am_u_n2, am_w_ne, ↓reduceIte, hst, Bool.false_eq_true, n4]
          exact ihm (s + 1) K _ (by omega) hK hdK (skip K s hs7 (fun z => hst z.2.1) hcK) am_ci
    simp only [am_lv_of, rX2_goOn_0, rX2_goOn_1, rX2_goOn_4, rX2_goOn_5, rX2_goOn_6, rX2_goOn_9, rX2_goOn_12, rX2_goOn_13, rX2_goOn_14, rX2_goOn_17, rX2_goOn_18, rX2_goOn_19, rX2_goOn_22, rX2_goOn_23, rX2_goOn_24, ro_0_0 hR, ro_0_3 hR, ro_0_4 hR, ro_0_5 hR, ro_0_6 hR, ro_0_7 hR, ro_0_8 hR, ro_0_9 hR, ro_0_10 hR, ro_0_11 hR, ro_2_6 hR, ro_2_7 hR, ro_2_8 hR, ro_2_9 hR, ro_2_10 hR, ro_2_11 hR, ro_2_12 hR, ro_2_13 hR, ro_9_0 hR, ro_9_1 hR, ro_9_2 hR, ro_14_0 hR, ro_14_1 hR, ro_14_2 hR, ro_14_7 hR, ro_15_0 hR, ro_15_1 hR, ro_15_2 hR, ro_15_3 hR, ro_20_6 hR, ro_20_7 hR, ro_20_8 hR, ro_20_9 hR, ro_20_10 hR, ro_20_11 hR, ro_20_12 hR, ro_20_13 hR, ro_27_0 hR, ro_27_1 hR, ro_27_2 hR, ro_32_0 hR, ro_32_1 hR, ro_34_10 hR, ro_34_11 hR, ro_34_12 hR, ro_34_13 hR, ro_39_0 hR, ro_39_1 hR, ro_42_0 hR, ro_42_1 hR, ro_47_0 hR, ro_47_1 hR, ro_47_2 hR, ro_47_3 hR, ro_55_0 hR, ro_55_1 hR, ro_55_2 hR, ro_57_0 hR, ro_57_1 hR, ro_57_2 hR, ro_57_3 hR, ro_57_4 hR, ro_57_5 hR, ro_57_8 hR, sh_0, sh_1, sh_2, sh_3, sh_4, sh_5, sh_6, sh_7, sh_8, sh_9, sh_10, sh_11, sh_12, sh_13, sh_14, sh_15, sh_16, sh_17, sh_18, sh_19, sh_20, sh_21, sh_22, sh_23, sh_24, sh_25, sh_26, sh_27, sh_28, sh_29, sh_30, sh_31, sh_32, sh_33, sh_34, sh_35, sh_36, sh_37, sh_38, sh_39, sh_40, sh_41, sh_42, sh_43, sh_44, sh_45, sh_46, sh_47, sh_48, sh_49, sh_50, sh_51, sh_52, sh_53, sh_54, sh_55, sh_56, sh_57, sh_58, sh_59, sh_60, sh_61, sh_62, sh_63, sh_64, sh_65, sh_66, sh_67, sh_68, hl, hvw9, Nat.reduceLT, Nat.reduceAdd, Nat.reduceMul, ne_eq, Nat.reduceEqDiff, not_false_eq_true, or_true, true_or, or_false, false_or, and_true, true_and, and_self, Nat.reduceLeDiff, am_ci, am_cr, am_cn0, Option.toList_some, Option.toList_none, List.cons_append, List.nil_append, am_s0, am_s1, am_s1r, am_s2, am_s2r, am_s3r, nI_add, am_u_ne, am_u_at, am_u_n1, am_u_n2, am_w_ne, ↓reduceIte, z0, e7, z1, z2]
    refine loop (p_S σ) 0 J none (by omega) hJ hd ?_ am_cn0
    rw [Nat.pow_succ, Nat.mul_comm (7 ^ rem) 7, ← Nat.mul_assoc, Nat.mul_comm c 7] at hc
    exact hc
theorem l_walk {J : Nat → Nat → Int32} {l1 l2 l3 : Option Value} (hR : am_OR R) (hN : 116 ≤ n) (hn : n ≤ 1000) (n3 : am_nl l3) (hQ : ∀ J', am_ag (fun k _ => 63 ≤ k ∧ k ≤ 67) J J' → (∀ p, p < 5 → ∀ x, x < 10 → J' (63 + p) x = nI 0) → am_E X (d + 1) mX2_walk 58 [some (.ref 57), l1, l2, l3, some (.int (nI 5))] [] (n, J', L, R) Q) : ∀ (m p : Nat) (K : Nat → Nat → Int32), p + m = 5 → am_ag (fun k _ => 63 ≤ k ∧ k ≤ 67) J K → (∀ q, q < p → ∀ x, x < 10 → K (63 + q) x = nI 0) → am_E X (d + 1) mX2_walk 35 [some (.ref 57), l1, l2, l3, some (.int (nI p))] [] (n, K, L, R) Q := by
  have hl := am_lt hN
  have hvw9 := am_lw hN
  intro m
  induction m with
  | zero =>
    intro p K hp hK hk
    have hp : p = 5 := by omega
    subst hp
    have h1 : nI 5 ≤ nI 5 := by decide
    simp only [am_lv_of, rX2_walk_35, rX2_walk_37, rX2_walk_38, ↓reduceIte, h1]
    exact hQ K hK hk
  | succ m ih =>
    intro p K hp hK hk
    have h1 : ¬ nI 5 ≤ nI p := nI_ge (by omega) (by omega)
    have p5 : p < 5 := by omega
    have rp := ro_62 hR p p5
    have sp := sh_63p p p5
    have lp : 63 + p < n := by omega
    rw [rX2_walk_35]
    simp only [am_lv_of, rX2_walk_37, rX2_walk_38, rX2_walk_41, rX2_walk_42, rX2_walk_45, rX2_walk_47, rX2_walk_48, rX2_walk_49, ro_0_0 hR, ro_0_3 hR, ro_0_4 hR, ro_0_5 hR, ro_0_6 hR, ro_0_7 hR, ro_0_8 hR, ro_0_9 hR, ro_0_10 hR, ro_0_11 hR, ro_2_6 hR, ro_2_7 hR, ro_2_8 hR, ro_2_9 hR, ro_2_10 hR, ro_2_11 hR, ro_2_12 hR, ro_2_13 hR, ro_9_0 hR, ro_9_1 hR, ro_9_2 hR, ro_14_0 hR, ro_14_1 hR, ro_14_2 hR, ro_14_7 hR, ro_15_0 hR, ro_15_1 hR, ro_15_2 hR, ro_15_3 hR, ro_20_6 hR, ro_20_7 hR, ro_20_8 hR, ro_20_9 hR, ro_20_10 hR, ro_20_11 hR, ro_20_12 hR, ro_20_13 hR, ro_27_0 hR, ro_27_1 hR, ro_27_2 hR, ro_32_0 hR, ro_32_1 hR, ro_34_10 hR, ro_34_11 hR, ro_34_12 hR, ro_34_13 hR, ro_39_0 hR, ro_39_1 hR, ro_42_0 hR, ro_42_1 hR, ro_47_0 hR, ro_47_1 hR, ro_47_2 hR, ro_47_3 hR, ro_55_0 hR, ro_55_1 hR, ro_55_2 hR, ro_57_0 hR, ro_57_1 hR, ro_57_2 hR, ro_57_3 hR, ro_57_4 hR, ro_57_5 hR, ro_57_8 hR, sh_0, sh_1, sh_2, sh_3, sh_4, sh_5, sh_6, sh_7, sh_8, sh_9, sh_10, sh_11, sh_12, sh_13, sh_14, sh_15, sh_16, sh_17, sh_18, sh_19, sh_20, sh_21, sh_22, sh_23, sh_24, sh_25, sh_26, sh_27, sh_28, sh_29, sh_30, sh_31, sh_32, sh_33, sh_34, sh_35, sh_36, sh_37, sh_38, sh_39, sh_40, sh_41, sh_42, sh_43, sh_44, sh_45, sh_46, sh_47, sh_48, sh_49, sh_50, sh_51, sh_52, sh_53, sh_54, sh_55, sh_56, sh_57, sh_58, sh_59, sh_60, sh_61, sh_62, sh_63, sh_64, sh_65, sh_66, sh_67, sh_68, hl, hvw9, Nat.reduceLT, Nat.reduceAdd, Nat.reduceMul, ne_eq, Nat.reduceEqDiff, not_false_eq_true, or_true, true_or, or_false, false_or, and_true, true_and, and_self, Nat.reduceLeDiff, am_ci, am_cr, am_cn0, Option.toList_some, Option.toList_none, List.cons_append, List.nil_append, am_s0, am_s1, am_s1r, am_s2, am_s2r, am_s3r, nI_add, am_u_ne, am_u_at, am_u_n1, am_u_n2, am_w_ne, ↓reduceIte, h1, p5, rp]
    refine c_fill hn lp sp (by omega) (fun K' g1 e1 => ?_)
    simp only [am_lv_of, Option.toList_none, List.nil_append, rX2_walk_52, rX2_walk_55, hl, hvw9, Nat.reduceLT, Nat.reduceAdd, Nat.reduceMul, ne_eq, Nat.reduceEqDiff, not_false_eq_true, or_true, true_or, or_false, false_or, and_true, true_and, and_self, Nat.reduceLeDiff, am_ci, am_cr, am_cn0, Option.toList_some, Option.toList_none, List.cons_append, List.nil_append, am_s0, am_s1, am_s1r, am_s2, am_s2r, am_s3r, nI_add, am_u_ne, am_u_at, am_u_n1, am_u_n2, am_w_ne, n3]
    refine ih (p + 1) K' (by omega) (hK.trans (g1.mono (fun k j z => by omega))) (fun q hq x hx => ?_)
    by_cases e : q = p
    · rw [e]; exact e1 x hx
    · rw [g1 _ _ (by omega)]; exact hk q (by omega) x hx
/-- what a walk writes -/
def wkP (k j : Nat) : Prop := clP k j ∨ (k = 57 ∧ (j = 6 ∨ j = 7))
theorem c_walk {ln k w : Nat} (hR : am_OR R) (hN : 116 ≤ n) (hn : n ≤ 1000) (ho : ok_S σ) (H : cl_S I σ) (hln : ln ≤ 5) (hk2 : k ≤ 20) (ht : tlC I τ k) (hw : okP σ w) (hQ : ∀ I', am_ag wkP I I' → clI I' ln (p_P σ) (goW σ τ k ln 0 w) (7 ^ ln) → Q none (n, I', L, R)) : am_E X (d + 8) mX2_walk 0 [some (.ref 57), some (.int (nI w)), some (.int (nI k)), some (.int (nI ln)), none] [] (n, I, L, R) Q := by
  have hl := am_lt hN
  have hvw9 := am_lw hN
  have m1 : (if nI 20 < nI k then nI 20 else nI k) = nI k := if_neg (nI_nlt hk2 (by omega))
  have m2 : (if nI 5 < nI ln then nI 5 else nI ln) = nI ln := if_neg (nI_nlt hln (by omega))
  simp only [am_lv_of, rX2_walk_0, rX2_walk_1, rX2_walk_2, rX2_walk_4, rX2_walk_7, rX2_walk_10, rX2_walk_11, rX2_walk_12, rX2_walk_13, rX2_walk_16, rX2_walk_19, rX2_walk_20, rX2_walk_21, rX2_walk_24, rX2_walk_25, rX2_walk_28, rX2_walk_29, ro_0_0 hR, ro_0_3 hR, ro_0_4 hR, ro_0_5 hR, ro_0_6 hR, ro_0_7 hR, ro_0_8 hR, ro_0_9 hR, ro_0_10 hR, ro_0_11 hR, ro_2_6 hR, ro_2_7 hR, ro_2_8 hR, ro_2_9 hR, ro_2_10 hR, ro_2_11 hR, ro_2_12 hR, ro_2_13 hR, ro_9_0 hR, ro_9_1 hR, ro_9_2 hR, ro_14_0 hR, ro_14_1 hR, ro_14_2 hR, ro_14_7 hR, ro_15_0 hR, ro_15_1 hR, ro_15_2 hR, ro_15_3 hR, ro_20_6 hR, ro_20_7 hR, ro_20_8 hR, ro_20_9 hR, ro_20_10 hR, ro_20_11 hR, ro_20_12 hR, ro_20_13 hR, ro_27_0 hR, ro_27_1 hR, ro_27_2 hR, ro_32_0 hR, ro_32_1 hR, ro_34_10 hR, ro_34_11 hR, ro_34_12 hR, ro_34_13 hR, ro_39_0 hR, ro_39_1 hR, ro_42_0 hR, ro_42_1 hR, ro_47_0 hR, ro_47_1 hR, ro_47_2 hR, ro_47_3 hR, ro_55_0 hR, ro_55_1 hR, ro_55_2 hR, ro_57_0 hR, ro_57_1 hR, ro_57_2 hR, ro_57_3 hR, ro_57_4 hR, ro_57_5 hR, ro_57_8 hR, sh_0, sh_1, sh_2, sh_3, sh_4, sh_5, sh_6, sh_7, sh_8, sh_9, sh_10, sh_11, sh_12, sh_13, sh_14, sh_15, sh_16, sh_17, sh_18, sh_19, sh_20, sh_21, sh_22, sh_23, sh_24, sh_25, sh_26, sh_27, sh_28, sh_29, sh_30, sh_31, sh_32, sh_33, sh_34, sh_35, sh_36, sh_37, sh_38, sh_39, sh_40, sh_41, sh_42, sh_43, sh_44, sh_45, sh_46, sh_47, sh_48, sh_49, sh_50, sh_51, sh_52, sh_53, sh_54, sh_55, sh_56, sh_57, sh_58, sh_59, sh_60, sh_61, sh_62, sh_63, sh_64, sh_65, sh_66, sh_67, sh_68, hl, hvw9, Nat.reduceLT, Nat.reduceAdd, Nat.reduceMul, ne_eq, Nat.reduceEqDiff, not_false_eq_true, or_true, true_or, or_false, false_or, and_true, true_and, and_self, Nat.reduceLeDiff, am_ci, am_cr, am_cn0, Option.toList_some, Option.toList_none, List.cons_append, List.nil_append, am_s0, am_s1, am_s1r, am_s2, am_s2r, am_s3r, nI_add, am_u_ne, am_u_at, am_u_n1, am_u_n2, am_w_ne, hn, m1, m2]
  have hag0 : am_ag wkP I (am_u (am_u (am_u I 57 6 (nI k)) 57 7 (nI ln)) 57 9 (nI 0)) := am_ag.u (am_ag.u (am_ag.u am_ag.refl (by unfold wkP; omega)) (by unfold wkP; omega)) (by unfold wkP clP; omega)
  have q6 : am_u (am_u (am_u I 57 6 (nI k)) 57 7 (nI ln)) 57 9 (nI 0) 57 6 = nI k := by rw [am_u_n2 (by omega), am_u_n2 (by omega), am_u_at]
  have q7 : am_u (am_u (am_u I 57 6 (nI k)) 57 7 (nI ln)) 57 9 (nI 0) 57 7 = nI ln := by rw [am_u_n2 (by omega), am_u_at]
  have q9 : am_u (am_u (am_u I 57 6 (nI k)) 57 7 (nI ln)) 57 9 (nI 0) 57 9 = nI 0 := by rw [am_u_at]
  generalize am_u (am_u (am_u I 57 6 (nI k)) 57 7 (nI ln)) 57 9 (nI 0) = I0 at hag0 q6 q7 q9 ⊢
  refine c_fill hn (hl 68 (by omega)) sh_68 (by omega) (fun I1 g1 e1 => ?_)
  simp only [am_lv_of, Option.toList_none, List.nil_append, rX2_walk_32, rX2_walk_33, hl, hvw9, Nat.reduceLT, Nat.reduceAdd, Nat.reduceMul, ne_eq, Nat.reduceEqDiff, not_false_eq_true, or_true, true_or, or_false, false_or, and_true, true_and, and_self, Nat.reduceLeDiff, am_ci, am_cr, am_cn0, Option.toList_some, Option.toList_none, List.cons_append, List.nil_append, am_s0, am_s1, am_s1r, am_s2, am_s2r, am_s3r, nI_add, am_u_ne, am_u_at, am_u_n1, am_u_n2, am_w_ne]
  refine l_walk (J := I1) hR hN hn am_ci (fun I2 g2 e2 => ?_) 5 0 I1 (by omega) am_ag.refl (fun q hq => absurd hq (Nat.not_lt_zero _))
  have hag2 : am_ag wkP I I2 := (hag0.trans (g1.mono (fun k j z => by unfold wkP clP; omega))).trans (g2.mono (fun k j z => by unfold wkP clP; omega))
  have e06 : I2 57 6 = nI k := by rw [g2 57 6 (by omega), g1 57 6 (by omega)]; exact q6
  have e07 : I2 57 7 = nI ln := by rw [g2 57 7 (by omega), g1 57 7 (by omega)]; exact q7
  have e09 : I2 57 9 = nI 0 := by rw [g2 57 9 (by omega), g1 57 9 (by omega)]; exact q9
  have H2 : cl_S I2 σ := H.ag (fun k j hk => hag2 k j (by unfold wkP clP; omega))
  have ht2 : tlC I2 τ k := fun j hj => by
    rw [hag2 58 j (by unfold wkP clP; omega), hag2 59 j (by unfold wkP clP; omega), hag2 60 j (by unfold wkP clP; omega)]; exact ht j hj
  simp only [am_lv_of, rX2_walk_58, rX2_walk_59, rX2_walk_60, rX2_walk_61, ro_0_0 hR, ro_0_3 hR, ro_0_4 hR, ro_0_5 hR, ro_0_6 hR, ro_0_7 hR, ro_0_8 hR, ro_0_9 hR, ro_0_10 hR, ro_0_11 hR, ro_2_6 hR, ro_2_7 hR, ro_2_8 hR, ro_2_9 hR, ro_2_10 hR, ro_2_11 hR, ro_2_12 hR, ro_2_13 hR, ro_9_0 hR, ro_9_1 hR, ro_9_2 hR, ro_14_0 hR, ro_14_1 hR, ro_14_2 hR, ro_14_7 hR, ro_15_0 hR, ro_15_1 hR, ro_15_2 hR, ro_15_3 hR, ro_20_6 hR, ro_20_7 hR, ro_20_8 hR, ro_20_9 hR, ro_20_10 hR, ro_20_11 hR, ro_20_12 hR, ro_20_13 hR, ro_27_0 hR, ro_27_1 hR, ro_27_2 hR, ro_32_0 hR, ro_32_1 hR, ro_34_10 hR, ro_34_11 hR, ro_34_12 hR, ro_34_13 hR, ro_39_0 hR, ro_39_1 hR, ro_42_0 hR, ro_42_1 hR, ro_47_0 hR, ro_47_1 hR, ro_47_2 hR, ro_47_3 hR, ro_55_0 hR, ro_55_1 hR, ro_55_2 hR, ro_57_0 hR, ro_57_1 hR, ro_57_2 hR, ro_57_3 hR, ro_57_4 hR, ro_57_5 hR, ro_57_8 hR, sh_0, sh_1, sh_2, sh_3, sh_4, sh_5, sh_6, sh_7, sh_8, sh_9, sh_10, sh_11, sh_12, sh_13, sh_14, sh_15, sh_16, sh_17, sh_18, sh_19, sh_20, sh_21, sh_22, sh_23, sh_24, sh_25, sh_26, sh_27, sh_28, sh_29, sh_30, sh_31, sh_32, sh_33, sh_34, sh_35, sh_36, sh_37, sh_38, sh_39, sh_40, sh_41, sh_42, sh_43, sh_44, sh_45, sh_46, sh_47, sh_48, sh_49, sh_50, sh_51, sh_52, sh_53, sh_54, sh_55, sh_56, sh_57, sh_58, sh_59, sh_60, sh_61, sh_62, sh_63, sh_64, sh_65, sh_66, sh_67, sh_68, hl, hvw9, Nat.reduceLT, Nat.reduceAdd, Nat.reduceMul, ne_eq, Nat.reduceEqDiff, not_false_eq_true, or_true, true_or, or_false, false_or, and_true, true_and, and_self, Nat.reduceLeDiff, am_ci, am_cr, am_cn0, Option.toList_some, Option.toList_none, List.cons_append, List.nil_append, am_s0, am_s1, am_s1r, am_s2, am_s2r, am_s3r, nI_add, am_u_ne, am_u_at, am_u_n1, am_u_n2, am_w_ne]
  have := c_goOn (X := X) (L := L) (d := d + 5 - ln) (ok := goW σ τ k ln 0 w) (w0 := w) hR hN hn ho H2 e07 hln e06 hk2 ht2 ln 0 0 w I2 (fun v M' => am_E X (d + 8) mX2_walk 64 [some (.ref 57), some (.int (nI w)), some (.int (nI k)), some (.int (nI ln)), some (.int (nI 5))] (v.toList ++ []) M' Q) (by omega) hw (fun way _ => rfl) am_ag.refl (fun i hi => absurd hi (Nat.not_lt_zero _)) ?_ (fun J' a1 a2 a3 => ?_)
  · rw [show d + 5 - ln + ln + 2 = d + 7 by omega] at this
    exact this
  · rw [Nat.zero_mul]
    exact ⟨e09, fun i hi => by rw [g2 68 i (by omega)]; exact e1 i (by omega), fun p hp x hx => e2 p (by have := ho.1; omega) x hx⟩
  · simp only [am_lv_of, Option.toList_none, List.nil_append, rX2_walk_64]
    rw [Nat.zero_add, Nat.one_mul] at a3
    exact hQ J' (hag2.trans (a1.mono (fun k j z => Or.inl z))) a3
end CB
