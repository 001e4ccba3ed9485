--! 97
/-! TEXTS: the class reads a whole text -/
section RG
variable {X : am_X} {d n : Nat} {I : Nat → Nat → Int32} {L : Nat → Nat → Int64} {R : Nat → Nat → Option Nat} {Q : Option Value → am_M → Prop} {x : txt} {s : pst}
theorem c_addS {z op v : Nat} (hR : am_OR R) (hN : 116 ≤ n) (hn : n ≤ 1000) (hz : I 27 3 = nI z) (hz2 : z < 406) (hop : op < 8) (hv : v ≤ 100000) : am_E X d mX1_addStep 0 [some (.ref 27), some (.int (nI op)), some (.int (nI v))] [] (n, I, L, R) Q ↔ Q none (n, am_u (am_u I 28 z (nI (op + 8 * v))) 27 3 (nI (z + 1)), L, R) := by
  have hl := am_lt hN
  have c1 : ¬ nI 406 ≤ nI z := nI_ge hz2 (by omega)
  simp only [rX1_addStep_0, rX1_addStep_1, rX1_addStep_4, rX1_addStep_5, rX1_addStep_8, rX1_addStep_9, rX1_addStep_12, rX1_addStep_13, rX1_addStep_16, rX1_addStep_17, rX1_addStep_20, rX1_addStep_21, rX1_addStep_22, rX1_addStep_23, rX1_addStep_24, rX1_addStep_25, rX1_addStep_26, rX1_addStep_27, rX1_addStep_28, rX1_addStep_31, rX1_addStep_32, rX1_addStep_33, rX1_addStep_36, ro_0_0 hR, ro_0_3 hR, ro_0_4 hR, ro_0_5 hR, ro_0_6 hR, ro_0_7 hR, ro_0_8 hR, ro_0_9 hR, ro_0_10 hR, ro_0_11 hR, ro_2_6 hR, ro_2_7 hR, ro_2_8 hR, ro_2_9 hR, ro_2_10 hR, ro_2_11 hR, ro_2_12 hR, ro_2_13 hR, ro_9_0 hR, ro_9_1 hR, ro_9_2 hR, ro_14_0 hR, ro_14_1 hR, ro_14_2 hR, ro_14_7 hR, ro_15_0 hR, ro_20_6 hR, ro_20_7 hR, ro_20_8 hR, ro_20_9 hR, ro_20_10 hR, ro_20_11 hR, ro_20_12 hR, ro_20_13 hR, ro_27_0 hR, ro_27_1 hR, ro_27_2 hR, ro_32_0 hR, ro_32_1 hR, ro_34_10 hR, ro_34_11 hR, ro_34_12 hR, ro_34_13 hR, ro_39_0 hR, ro_39_1 hR, ro_42_0 hR, ro_42_1 hR, ro_47_0 hR, ro_47_1 hR, ro_47_2 hR, ro_47_3 hR, ro_55_0 hR, ro_55_1 hR, ro_55_2 hR, ro_57_0 hR, ro_57_1 hR, ro_57_2 hR, ro_57_3 hR, ro_57_4 hR, ro_57_5 hR, ro_57_8 hR, sh_0, sh_1, sh_2, sh_3, sh_4, sh_5, sh_6, sh_7, sh_8, sh_9, sh_10, sh_11, sh_12, sh_13, sh_14, sh_15, sh_16, sh_17, sh_18, sh_19, sh_20, sh_21, sh_22, sh_23, sh_24, sh_25, sh_26, sh_27, sh_28, sh_29, sh_30, sh_31, sh_32, sh_33, sh_34, sh_35, sh_36, sh_37, sh_38, sh_39, sh_40, sh_41, sh_42, sh_43, sh_44, sh_45, sh_46, sh_47, sh_48, sh_49, sh_50, sh_51, sh_52, sh_53, sh_54, sh_55, sh_56, sh_57, sh_58, sh_59, sh_60, sh_61, sh_62, sh_63, sh_64, sh_65, sh_66, sh_67, sh_68, hl, Nat.reduceLT, Nat.reduceAdd, Nat.reduceMul, ne_eq, Nat.reduceEqDiff, not_false_eq_true, or_true, true_or, or_false, false_or, and_true, true_and, and_self, Nat.reduceLeDiff, am_ci, am_cr, am_cn0, Option.toList_some, Option.toList_none, List.cons_append, List.nil_append, am_s0, am_s1, am_s1r, am_s2, am_s2r, am_s3r, nI_add, am_u_ne, am_u_at, am_u_n1, am_u_n2, am_w_ne, ↓reduceIte, hn, hz, c1, hz2, or_shl hop hv]
/-- an empty draft -/
def emD (I : Nat → Nat → Int32) : Prop := (∀ j, j < 6 → I 20 j = nI 0) ∧ BK I 0 (fun _ => none)
theorem c_bookClear (hR : am_OR R) (hN : 116 ≤ n) (hn : n ≤ 1000) (hQ : ∀ I', am_ag (fun k j => k = 28 ∨ k = 29 ∨ (k = 27 ∧ j = 3)) I I' → BK I' 0 (fun _ => none) → Q none (n, I', L, R)) : am_E X (d + 1) mX1_clear 0 [some (.ref 27)] [] (n, I, L, R) Q := by
  have hl := am_lt hN
  simp only [rX1_clear_0, rX1_clear_1, rX1_clear_2, rX1_clear_5, rX1_clear_6, rX1_clear_7, ro_0_0 hR, ro_0_3 hR, ro_0_4 hR, ro_0_5 hR, ro_0_6 hR, ro_0_7 hR, ro_0_8 hR, ro_0_9 hR, ro_0_10 hR, ro_0_11 hR, ro_2_6 hR, ro_2_7 hR, ro_2_8 hR, ro_2_9 hR, ro_2_10 hR, ro_2_11 hR, ro_2_12 hR, ro_2_13 hR, ro_9_0 hR, ro_9_1 hR, ro_9_2 hR, ro_14_0 hR, ro_14_1 hR, ro_14_2 hR, ro_14_7 hR, ro_15_0 hR, ro_20_6 hR, ro_20_7 hR, ro_20_8 hR, ro_20_9 hR, ro_20_10 hR, ro_20_11 hR, ro_20_12 hR, ro_20_13 hR, ro_27_0 hR, ro_27_1 hR, ro_27_2 hR, ro_32_0 hR, ro_32_1 hR, ro_34_10 hR, ro_34_11 hR, ro_34_12 hR, ro_34_13 hR, ro_39_0 hR, ro_39_1 hR, ro_42_0 hR, ro_42_1 hR, ro_47_0 hR, ro_47_1 hR, ro_47_2 hR, ro_47_3 hR, ro_55_0 hR, ro_55_1 hR, ro_55_2 hR, ro_57_0 hR, ro_57_1 hR, ro_57_2 hR, ro_57_3 hR, ro_57_4 hR, ro_57_5 hR, ro_57_8 hR, sh_0, sh_1, sh_2, sh_3, sh_4, sh_5, sh_6, sh_7, sh_8, sh_9, sh_10, sh_11, sh_12, sh_13, sh_14, sh_15, sh_16, sh_17, sh_18, sh_19, sh_20, sh_21, sh_22, sh_23, sh_24, sh_25, sh_26, sh_27, sh_28, sh_29, sh_30, sh_31, sh_32, sh_33, sh_34, sh_35, sh_36, sh_37, sh_38, sh_39, sh_40, sh_41, sh_42, sh_43, sh_44, sh_45, sh_46, sh_47, sh_48, sh_49, sh_50, sh_51, sh_52, sh_53, sh_54, sh_55, sh_56, sh_57, sh_58, sh_59, sh_60, sh_61, sh_62, sh_63, sh_64, sh_65, sh_66, sh_67, sh_68, hl, Nat.reduceLT, Nat.reduceAdd, Nat.reduceMul, ne_eq, Nat.reduceEqDiff, not_false_eq_true, or_true, true_or, or_false, false_or, and_true, true_and, and_self, Nat.reduceLeDiff, am_ci, am_cr, am_cn0, Option.toList_some, Option.toList_none, List.cons_append, List.nil_append, am_s0, am_s1, am_s1r, am_s2, am_s2r, am_s3r, nI_add, am_u_ne, am_u_at, am_u_n1, am_u_n2, am_w_ne, hn]
  rw [c_startLaw (z := 0) hR hN hn am_u_at (by omega)]
  simp only [Option.toList_none, List.nil_append, rX1_clear_10, rX1_clear_11, rX1_clear_12, rX1_clear_13, ro_0_0 hR, ro_0_3 hR, ro_0_4 hR, ro_0_5 hR, ro_0_6 hR, ro_0_7 hR, ro_0_8 hR, ro_0_9 hR, ro_0_10 hR, ro_0_11 hR, ro_2_6 hR, ro_2_7 hR, ro_2_8 hR, ro_2_9 hR, ro_2_10 hR, ro_2_11 hR, ro_2_12 hR, ro_2_13 hR, ro_9_0 hR, ro_9_1 hR, ro_9_2 hR, ro_14_0 hR, ro_14_1 hR, ro_14_2 hR, ro_14_7 hR, ro_15_0 hR, ro_20_6 hR, ro_20_7 hR, ro_20_8 hR, ro_20_9 hR, ro_20_10 hR, ro_20_11 hR, ro_20_12 hR, ro_20_13 hR, ro_27_0 hR, ro_27_1 hR, ro_27_2 hR, ro_32_0 hR, ro_32_1 hR, ro_34_10 hR, ro_34_11 hR, ro_34_12 hR, ro_34_13 hR, ro_39_0 hR, ro_39_1 hR, ro_42_0 hR, ro_42_1 hR, ro_47_0 hR, ro_47_1 hR, ro_47_2 hR, ro_47_3 hR, ro_55_0 hR, ro_55_1 hR, ro_55_2 hR, ro_57_0 hR, ro_57_1 hR, ro_57_2 hR, ro_57_3 hR, ro_57_4 hR, ro_57_5 hR, ro_57_8 hR, sh_0, sh_1, sh_2, sh_3, sh_4, sh_5, sh_6, sh_7, sh_8, sh_9, sh_10, sh_11, sh_12, sh_13, sh_14, sh_15, sh_16, sh_17, sh_18, sh_19, sh_20, sh_21, sh_22, sh_23, sh_24, sh_25, sh_26, sh_27, sh_28, sh_29, sh_30, sh_31, sh_32, sh_33, sh_34, sh_35, sh_36, sh_37, sh_38, sh_39, sh_40, sh_41, sh_42, sh_43, sh_44, sh_45, sh_46, sh_47, sh_48, sh_49, sh_50, sh_51, sh_52, sh_53, sh_54, sh_55, sh_56, sh_57, sh_58, sh_59, sh_60, sh_61, sh_62, sh_63, sh_64, sh_65, sh_66, sh_67, sh_68, hl, Nat.reduceLT, Nat.reduceAdd, Nat.reduceMul, ne_eq, Nat.reduceEqDiff, not_false_eq_true, or_true, true_or, or_false, false_or, and_true, true_and, and_self, Nat.reduceLeDiff, am_ci, am_cr, am_cn0, Option.toList_some, Option.toList_none, List.cons_append, List.nil_append, am_s0, am_s1, am_s1r, am_s2, am_s2r, am_s3r, nI_add, am_u_ne, am_u_at, am_u_n1, am_u_n2, am_w_ne]
  rw [c_addS (z := 0) hR hN hn (by rw [am_u_n1 (by omega), am_u_at]) (by omega) (by omega) (by omega)]
  simp only [Option.toList_none, List.nil_append, rX1_clear_16, rX1_clear_17, rX1_clear_19, rX1_clear_20, ro_0_0 hR, ro_0_3 hR, ro_0_4 hR, ro_0_5 hR, ro_0_6 hR, ro_0_7 hR, ro_0_8 hR, ro_0_9 hR, ro_0_10 hR, ro_0_11 hR, ro_2_6 hR, ro_2_7 hR, ro_2_8 hR, ro_2_9 hR, ro_2_10 hR, ro_2_11 hR, ro_2_12 hR, ro_2_13 hR, ro_9_0 hR, ro_9_1 hR, ro_9_2 hR, ro_14_0 hR, ro_14_1 hR, ro_14_2 hR, ro_14_7 hR, ro_15_0 hR, ro_20_6 hR, ro_20_7 hR, ro_20_8 hR, ro_20_9 hR, ro_20_10 hR, ro_20_11 hR, ro_20_12 hR, ro_20_13 hR, ro_27_0 hR, ro_27_1 hR, ro_27_2 hR, ro_32_0 hR, ro_32_1 hR, ro_34_10 hR, ro_34_11 hR, ro_34_12 hR, ro_34_13 hR, ro_39_0 hR, ro_39_1 hR, ro_42_0 hR, ro_42_1 hR, ro_47_0 hR, ro_47_1 hR, ro_47_2 hR, ro_47_3 hR, ro_55_0 hR, ro_55_1 hR, ro_55_2 hR, ro_57_0 hR, ro_57_1 hR, ro_57_2 hR, ro_57_3 hR, ro_57_4 hR, ro_57_5 hR, ro_57_8 hR, sh_0, sh_1, sh_2, sh_3, sh_4, sh_5, sh_6, sh_7, sh_8, sh_9, sh_10, sh_11, sh_12, sh_13, sh_14, sh_15, sh_16, sh_17, sh_18, sh_19, sh_20, sh_21, sh_22, sh_23, sh_24, sh_25, sh_26, sh_27, sh_28, sh_29, sh_30, sh_31, sh_32, sh_33, sh_34, sh_35, sh_36, sh_37, sh_38, sh_39, sh_40, sh_41, sh_42, sh_43, sh_44, sh_45, sh_46, sh_47, sh_48, sh_49, sh_50, sh_51, sh_52, sh_53, sh_54, sh_55, sh_56, sh_57, sh_58, sh_59, sh_60, sh_61, sh_62, sh_63, sh_64, sh_65, sh_66, sh_67, sh_68, hl, Nat.reduceLT, Nat.reduceAdd, Nat.reduceMul, ne_eq, Nat.reduceEqDiff, not_false_eq_true, or_true, true_or, or_false, false_or, and_true, true_and, and_self, Nat.reduceLeDiff, am_ci, am_cr, am_cn0, Option.toList_some, Option.toList_none, List.cons_append, List.nil_append, am_s0, am_s1, am_s1r, am_s2, am_s2r, am_s3r, nI_add, am_u_ne, am_u_at, am_u_n1, am_u_n2, am_w_ne]
  rw [c_addS (z := 1) hR hN hn am_u_at (by omega) (by omega) (by omega)]
  simp only [Option.toList_none, List.nil_append, rX1_clear_23, rX1_clear_24, rX1_clear_25, ro_0_0 hR, ro_0_3 hR, ro_0_4 hR, ro_0_5 hR, ro_0_6 hR, ro_0_7 hR, ro_0_8 hR, ro_0_9 hR, ro_0_10 hR, ro_0_11 hR, ro_2_6 hR, ro_2_7 hR, ro_2_8 hR, ro_2_9 hR, ro_2_10 hR, ro_2_11 hR, ro_2_12 hR, ro_2_13 hR, ro_9_0 hR, ro_9_1 hR, ro_9_2 hR, ro_14_0 hR, ro_14_1 hR, ro_14_2 hR, ro_14_7 hR, ro_15_0 hR, ro_20_6 hR, ro_20_7 hR, ro_20_8 hR, ro_20_9 hR, ro_20_10 hR, ro_20_11 hR, ro_20_12 hR, ro_20_13 hR, ro_27_0 hR, ro_27_1 hR, ro_27_2 hR, ro_32_0 hR, ro_32_1 hR, ro_34_10 hR, ro_34_11 hR, ro_34_12 hR, ro_34_13 hR, ro_39_0 hR, ro_39_1 hR, ro_42_0 hR, ro_42_1 hR, ro_47_0 hR, ro_47_1 hR, ro_47_2 hR, ro_47_3 hR, ro_55_0 hR, ro_55_1 hR, ro_55_2 hR, ro_57_0 hR, ro_57_1 hR, ro_57_2 hR, ro_57_3 hR, ro_57_4 hR, ro_57_5 hR, ro_57_8 hR, sh_0, sh_1, sh_2, sh_3, sh_4, sh_5, sh_6, sh_7, sh_8, sh_9, sh_10, sh_11, sh_12, sh_13, sh_14, sh_15, sh_16, sh_17, sh_18, sh_19, sh_20, sh_21, sh_22, sh_23, sh_24, sh_25, sh_26, sh_27, sh_28, sh_29, sh_30, sh_31, sh_32, sh_33, sh_34, sh_35, sh_36, sh_37, sh_38, sh_39, sh_40, sh_41, sh_42, sh_43, sh_44, sh_45, sh_46, sh_47, sh_48, sh_49, sh_50, sh_51, sh_52, sh_53, sh_54, sh_55, sh_56, sh_57, sh_58, sh_59, sh_60, sh_61, sh_62, sh_63, sh_64, sh_65, sh_66, sh_67, sh_68, hl, Nat.reduceLT, Nat.reduceAdd, Nat.reduceMul, ne_eq, Nat.reduceEqDiff, not_false_eq_true, or_true, true_or, or_false, false_or, and_true, true_and, and_self, Nat.reduceLeDiff, am_ci, am_cr, am_cn0, Option.toList_some, Option.toList_none, List.cons_append, List.nil_append, am_s0, am_s1, am_s1r, am_s2, am_s2r, am_s3r, nI_add, am_u_ne, am_u_at, am_u_n1, am_u_n2, am_w_ne]
  rw [c_startLaw (z := 2) hR hN hn am_u_at (by omega)]
  simp only [Option.toList_none, List.nil_append, rX1_clear_28, rX1_clear_29, rX1_clear_30, rX1_clear_31, ro_0_0 hR, ro_0_3 hR, ro_0_4 hR, ro_0_5 hR, ro_0_6 hR, ro_0_7 hR, ro_0_8 hR, ro_0_9 hR, ro_0_10 hR, ro_0_11 hR, ro_2_6 hR, ro_2_7 hR, ro_2_8 hR, ro_2_9 hR, ro_2_10 hR, ro_2_11 hR, ro_2_12 hR, ro_2_13 hR, ro_9_0 hR, ro_9_1 hR, ro_9_2 hR, ro_14_0 hR, ro_14_1 hR, ro_14_2 hR, ro_14_7 hR, ro_15_0 hR, ro_20_6 hR, ro_20_7 hR, ro_20_8 hR, ro_20_9 hR, ro_20_10 hR, ro_20_11 hR, ro_20_12 hR, ro_20_13 hR, ro_27_0 hR, ro_27_1 hR, ro_27_2 hR, ro_32_0 hR, ro_32_1 hR, ro_34_10 hR, ro_34_11 hR, ro_34_12 hR, ro_34_13 hR, ro_39_0 hR, ro_39_1 hR, ro_42_0 hR, ro_42_1 hR, ro_47_0 hR, ro_47_1 hR, ro_47_2 hR, ro_47_3 hR, ro_55_0 hR, ro_55_1 hR, ro_55_2 hR, ro_57_0 hR, ro_57_1 hR, ro_57_2 hR, ro_57_3 hR, ro_57_4 hR, ro_57_5 hR, ro_57_8 hR, sh_0, sh_1, sh_2, sh_3, sh_4, sh_5, sh_6, sh_7, sh_8, sh_9, sh_10, sh_11, sh_12, sh_13, sh_14, sh_15, sh_16, sh_17, sh_18, sh_19, sh_20, sh_21, sh_22, sh_23, sh_24, sh_25, sh_26, sh_27, sh_28, sh_29, sh_30, sh_31, sh_32, sh_33, sh_34, sh_35, sh_36, sh_37, sh_38, sh_39, sh_40, sh_41, sh_42, sh_43, sh_44, sh_45, sh_46, sh_47, sh_48, sh_49, sh_50, sh_51, sh_52, sh_53, sh_54, sh_55, sh_56, sh_57, sh_58, sh_59, sh_60, sh_61, sh_62, sh_63, sh_64, sh_65, sh_66, sh_67, sh_68, hl, Nat.reduceLT, Nat.reduceAdd, Nat.reduceMul, ne_eq, Nat.reduceEqDiff, not_false_eq_true, or_true, true_or, or_false, false_or, and_true, true_and, and_self, Nat.reduceLeDiff, am_ci, am_cr, am_cn0, Option.toList_some, Option.toList_none, List.cons_append, List.nil_append, am_s0, am_s1, am_s1r, am_s2, am_s2r, am_s3r, nI_add, am_u_ne, am_u_at, am_u_n1, am_u_n2, am_w_ne]
  rw [c_addS (z := 2) hR hN hn (by rw [am_u_n1 (by omega), am_u_at]) (by omega) (by omega) (by omega)]
  simp only [Option.toList_none, List.nil_append, rX1_clear_34, rX1_clear_35, rX1_clear_37, rX1_clear_38, ro_0_0 hR, ro_0_3 hR, ro_0_4 hR, ro_0_5 hR, ro_0_6 hR, ro_0_7 hR, ro_0_8 hR, ro_0_9 hR, ro_0_10 hR, ro_0_11 hR, ro_2_6 hR, ro_2_7 hR, ro_2_8 hR, ro_2_9 hR, ro_2_10 hR, ro_2_11 hR, ro_2_12 hR, ro_2_13 hR, ro_9_0 hR, ro_9_1 hR, ro_9_2 hR, ro_14_0 hR, ro_14_1 hR, ro_14_2 hR, ro_14_7 hR, ro_15_0 hR, ro_20_6 hR, ro_20_7 hR, ro_20_8 hR, ro_20_9 hR, ro_20_10 hR, ro_20_11 hR, ro_20_12 hR, ro_20_13 hR, ro_27_0 hR, ro_27_1 hR, ro_27_2 hR, ro_32_0 hR, ro_32_1 hR, ro_34_10 hR, ro_34_11 hR, ro_34_12 hR, ro_34_13 hR, ro_39_0 hR, ro_39_1 hR, ro_42_0 hR, ro_42_1 hR, ro_47_0 hR, ro_47_1 hR, ro_47_2 hR, ro_47_3 hR, ro_55_0 hR, ro_55_1 hR, ro_55_2 hR, ro_57_0 hR, ro_57_1 hR, ro_57_2 hR, ro_57_3 hR, ro_57_4 hR, ro_57_5 hR, ro_57_8 hR, sh_0, sh_1, sh_2, sh_3, sh_4, sh_5, sh_6, sh_7, sh_8, sh_9, sh_10, sh_11, sh_12, sh_13, sh_14, sh_15, sh_16, sh_17, sh_18, sh_19, sh_20, sh_21, sh_22, sh_23, sh_24, sh_25, sh_26, sh_27, sh_28, sh_29, sh_30, sh_31, sh_32, sh_33, sh_34, sh_35, sh_36, sh_37, sh_38, sh_39, sh_40, sh_41, sh_42, sh_43, sh_44, sh_45, sh_46, sh_47, sh_48, sh_49, sh_50, sh_51, sh_52, sh_53, sh_54, sh_55, sh_56, sh_57, sh_58, sh_59, sh_60, sh_61, sh_62, sh_63, sh_64, sh_65, sh_66, sh_67, sh_68, hl, Nat.reduceLT, Nat.reduceAdd, Nat.reduceMul, ne_eq, Nat.reduceEqDiff, not_false_eq_true, or_true, true_or, or_false, false_or, and_true, true_and, and_self, Nat.reduceLeDiff, am_ci, am_cr, am_cn0, Option.toList_some, Option.toList_none, List.cons_append, List.nil_append, am_s0, am_s1, am_s1r, am_s2, am_s2r, am_s3r, nI_add, am_u_ne, am_u_at, am_u_n1, am_u_n2, am_w_ne]
  rw [c_addS (z := 3) hR hN hn am_u_at (by omega) (by omega) (by omega)]
  simp only [Option.toList_none, List.nil_append, rX1_clear_41, rX1_clear_42, rX1_clear_43, ro_0_0 hR, ro_0_3 hR, ro_0_4 hR, ro_0_5 hR, ro_0_6 hR, ro_0_7 hR, ro_0_8 hR, ro_0_9 hR, ro_0_10 hR, ro_0_11 hR, ro_2_6 hR, ro_2_7 hR, ro_2_8 hR, ro_2_9 hR, ro_2_10 hR, ro_2_11 hR, ro_2_12 hR, ro_2_13 hR, ro_9_0 hR, ro_9_1 hR, ro_9_2 hR, ro_14_0 hR, ro_14_1 hR, ro_14_2 hR, ro_14_7 hR, ro_15_0 hR, ro_20_6 hR, ro_20_7 hR, ro_20_8 hR, ro_20_9 hR, ro_20_10 hR, ro_20_11 hR, ro_20_12 hR, ro_20_13 hR, ro_27_0 hR, ro_27_1 hR, ro_27_2 hR, ro_32_0 hR, ro_32_1 hR, ro_34_10 hR, ro_34_11 hR, ro_34_12 hR, ro_34_13 hR, ro_39_0 hR, ro_39_1 hR, ro_42_0 hR, ro_42_1 hR, ro_47_0 hR, ro_47_1 hR, ro_47_2 hR, ro_47_3 hR, ro_55_0 hR, ro_55_1 hR, ro_55_2 hR, ro_57_0 hR, ro_57_1 hR, ro_57_2 hR, ro_57_3 hR, ro_57_4 hR, ro_57_5 hR, ro_57_8 hR, sh_0, sh_1, sh_2, sh_3, sh_4, sh_5, sh_6, sh_7, sh_8, sh_9, sh_10, sh_11, sh_12, sh_13, sh_14, sh_15, sh_16, sh_17, sh_18, sh_19, sh_20, sh_21, sh_22, sh_23, sh_24, sh_25, sh_26, sh_27, sh_28, sh_29, sh_30, sh_31, sh_32, sh_33, sh_34, sh_35, sh_36, sh_37, sh_38, sh_39, sh_40, sh_41, sh_42, sh_43, sh_44, sh_45, sh_46, sh_47, sh_48, sh_49, sh_50, sh_51, sh_52, sh_53, sh_54, sh_55, sh_56, sh_57, sh_58, sh_59, sh_60, sh_61, sh_62, sh_63, sh_64, sh_65, sh_66, sh_67, sh_68, hl, Nat.reduceLT, Nat.reduceAdd, Nat.reduceMul, ne_eq, Nat.reduceEqDiff, not_false_eq_true, or_true, true_or, or_false, false_or, and_true, true_and, and_self, Nat.reduceLeDiff, am_ci, am_cr, am_cn0, Option.toList_some, Option.toList_none, List.cons_append, List.nil_append, am_s0, am_s1, am_s1r, am_s2, am_s2r, am_s3r, nI_add, am_u_ne, am_u_at, am_u_n1, am_u_n2, am_w_ne]
  rw [c_startLaw (z := 4) hR hN hn am_u_at (by omega)]
  simp only [Option.toList_none, List.nil_append, rX1_clear_46, rX1_clear_47, rX1_clear_48, rX1_clear_49, ro_0_0 hR, ro_0_3 hR, ro_0_4 hR, ro_0_5 hR, ro_0_6 hR, ro_0_7 hR, ro_0_8 hR, ro_0_9 hR, ro_0_10 hR, ro_0_11 hR, ro_2_6 hR, ro_2_7 hR, ro_2_8 hR, ro_2_9 hR, ro_2_10 hR, ro_2_11 hR, ro_2_12 hR, ro_2_13 hR, ro_9_0 hR, ro_9_1 hR, ro_9_2 hR, ro_14_0 hR, ro_14_1 hR, ro_14_2 hR, ro_14_7 hR, ro_15_0 hR, ro_20_6 hR, ro_20_7 hR, ro_20_8 hR, ro_20_9 hR, ro_20_10 hR, ro_20_11 hR, ro_20_12 hR, ro_20_13 hR, ro_27_0 hR, ro_27_1 hR, ro_27_2 hR, ro_32_0 hR, ro_32_1 hR, ro_34_10 hR, ro_34_11 hR, ro_34_12 hR, ro_34_13 hR, ro_39_0 hR, ro_39_1 hR, ro_42_0 hR, ro_42_1 hR, ro_47_0 hR, ro_47_1 hR, ro_47_2 hR, ro_47_3 hR, ro_55_0 hR, ro_55_1 hR, ro_55_2 hR, ro_57_0 hR, ro_57_1 hR, ro_57_2 hR, ro_57_3 hR, ro_57_4 hR, ro_57_5 hR, ro_57_8 hR, sh_0, sh_1, sh_2, sh_3, sh_4, sh_5, sh_6, sh_7, sh_8, sh_9, sh_10, sh_11, sh_12, sh_13, sh_14, sh_15, sh_16, sh_17, sh_18, sh_19, sh_20, sh_21, sh_22, sh_23, sh_24, sh_25, sh_26, sh_27, sh_28, sh_29, sh_30, sh_31, sh_32, sh_33, sh_34, sh_35, sh_36, sh_37, sh_38, sh_39, sh_40, sh_41, sh_42, sh_43, sh_44, sh_45, sh_46, sh_47, sh_48, sh_49, sh_50, sh_51, sh_52, sh_53, sh_54, sh_55, sh_56, sh_57, sh_58, sh_59, sh_60, sh_61, sh_62, sh_63, sh_64, sh_65, sh_66, sh_67, sh_68, hl, Nat.reduceLT, Nat.reduceAdd, Nat.reduceMul, ne_eq, Nat.reduceEqDiff, not_false_eq_true, or_true, true_or, or_false, false_or, and_true, true_and, and_self, Nat.reduceLeDiff, am_ci, am_cr, am_cn0, Option.toList_some, Option.toList_none, List.cons_append, List.nil_append, am_s0, am_s1, am_s1r, am_s2, am_s2r, am_s3r, nI_add, am_u_ne, am_u_at, am_u_n1, am_u_n2, am_w_ne]
  rw [c_addS (z := 4) hR hN hn (by rw [am_u_n1 (by omega), am_u_at]) (by omega) (by omega) (by omega)]
  simp only [Option.toList_none, List.nil_append, rX1_clear_52, rX1_clear_53, rX1_clear_55, rX1_clear_56, ro_0_0 hR, ro_0_3 hR, ro_0_4 hR, ro_0_5 hR, ro_0_6 hR, ro_0_7 hR, ro_0_8 hR, ro_0_9 hR, ro_0_10 hR, ro_0_11 hR, ro_2_6 hR, ro_2_7 hR, ro_2_8 hR, ro_2_9 hR, ro_2_10 hR, ro_2_11 hR, ro_2_12 hR, ro_2_13 hR, ro_9_0 hR, ro_9_1 hR, ro_9_2 hR, ro_14_0 hR, ro_14_1 hR, ro_14_2 hR, ro_14_7 hR, ro_15_0 hR, ro_20_6 hR, ro_20_7 hR, ro_20_8 hR, ro_20_9 hR, ro_20_10 hR, ro_20_11 hR, ro_20_12 hR, ro_20_13 hR, ro_27_0 hR, ro_27_1 hR, ro_27_2 hR, ro_32_0 hR, ro_32_1 hR, ro_34_10 hR, ro_34_11 hR, ro_34_12 hR, ro_34_13 hR, ro_39_0 hR, ro_39_1 hR, ro_42_0 hR, ro_42_1 hR, ro_47_0 hR, ro_47_1 hR, ro_47_2 hR, ro_47_3 hR, ro_55_0 hR, ro_55_1 hR, ro_55_2 hR, ro_57_0 hR, ro_57_1 hR, ro_57_2 hR, ro_57_3 hR, ro_57_4 hR, ro_57_5 hR, ro_57_8 hR, sh_0, sh_1, sh_2, sh_3, sh_4, sh_5, sh_6, sh_7, sh_8, sh_9, sh_10, sh_11, sh_12, sh_13, sh_14, sh_15, sh_16, sh_17, sh_18, sh_19, sh_20, sh_21, sh_22, sh_23, sh_24, sh_25, sh_26, sh_27, sh_28, sh_29, sh_30, sh_31, sh_32, sh_33, sh_34, sh_35, sh_36, sh_37, sh_38, sh_39, sh_40, sh_41, sh_42, sh_43, sh_44, sh_45, sh_46, sh_47, sh_48, sh_49, sh_50, sh_51, sh_52, sh_53, sh_54, sh_55, sh_56, sh_57, sh_58, sh_59, sh_60, sh_61, sh_62, sh_63, sh_64, sh_65, sh_66, sh_67, sh_68, hl, Nat.reduceLT, Nat.reduceAdd, Nat.reduceMul, ne_eq, Nat.reduceEqDiff, not_false_eq_true, or_true, true_or, or_false, false_or, and_true, true_and, and_self, Nat.reduceLeDiff, am_ci, am_cr, am_cn0, Option.toList_some, Option.toList_none, List.cons_append, List.nil_append, am_s0, am_s1, am_s1r, am_s2, am_s2r, am_s3r, nI_add, am_u_ne, am_u_at, am_u_n1, am_u_n2, am_w_ne]
  rw [c_addS (z := 5) hR hN hn am_u_at (by omega) (by omega) (by omega)]
  simp only [Option.toList_none, List.nil_append, rX1_clear_59, ro_0_0 hR, ro_0_3 hR, ro_0_4 hR, ro_0_5 hR, ro_0_6 hR, ro_0_7 hR, ro_0_8 hR, ro_0_9 hR, ro_0_10 hR, ro_0_11 hR, ro_2_6 hR, ro_2_7 hR, ro_2_8 hR, ro_2_9 hR, ro_2_10 hR, ro_2_11 hR, ro_2_12 hR, ro_2_13 hR, ro_9_0 hR, ro_9_1 hR, ro_9_2 hR, ro_14_0 hR, ro_14_1 hR, ro_14_2 hR, ro_14_7 hR, ro_15_0 hR, ro_20_6 hR, ro_20_7 hR, ro_20_8 hR, ro_20_9 hR, ro_20_10 hR, ro_20_11 hR, ro_20_12 hR, ro_20_13 hR, ro_27_0 hR, ro_27_1 hR, ro_27_2 hR, ro_32_0 hR, ro_32_1 hR, ro_34_10 hR, ro_34_11 hR, ro_34_12 hR, ro_34_13 hR, ro_39_0 hR, ro_39_1 hR, ro_42_0 hR, ro_42_1 hR, ro_47_0 hR, ro_47_1 hR, ro_47_2 hR, ro_47_3 hR, ro_55_0 hR, ro_55_1 hR, ro_55_2 hR, ro_57_0 hR, ro_57_1 hR, ro_57_2 hR, ro_57_3 hR, ro_57_4 hR, ro_57_5 hR, ro_57_8 hR, sh_0, sh_1, sh_2, sh_3, sh_4, sh_5, sh_6, sh_7, sh_8, sh_9, sh_10, sh_11, sh_12, sh_13, sh_14, sh_15, sh_16, sh_17, sh_18, sh_19, sh_20, sh_21, sh_22, sh_23, sh_24, sh_25, sh_26, sh_27, sh_28, sh_29, sh_30, sh_31, sh_32, sh_33, sh_34, sh_35, sh_36, sh_37, sh_38, sh_39, sh_40, sh_41, sh_42, sh_43, sh_44, sh_45, sh_46, sh_47, sh_48, sh_49, sh_50, sh_51, sh_52, sh_53, sh_54, sh_55, sh_56, sh_57, sh_58, sh_59, sh_60, sh_61, sh_62, sh_63, sh_64, sh_65, sh_66, sh_67, sh_68, hl, Nat.reduceLT, Nat.reduceAdd, Nat.reduceMul, ne_eq, Nat.reduceEqDiff, not_false_eq_true, or_true, true_or, or_false, false_or, and_true, true_and, and_self, Nat.reduceLeDiff, am_ci, am_cr, am_cn0, Option.toList_some, Option.toList_none, List.cons_append, List.nil_append, am_s0, am_s1, am_s1r, am_s2, am_s2r, am_s3r, nI_add, am_u_ne, am_u_at, am_u_n1, am_u_n2, am_w_ne]
  refine hQ _ (by repeat (first | exact am_ag.refl | (refine am_ag.u ?_ (by omega)))) ⟨6, by omega, by simp [am_u], fun k hk => ?_⟩
  have : k = 0 ∨ k = 1 ∨ k = 2 := by omega
  have seg : ∀ (M : Nat → Nat → Int32) (f v : Nat), M 10 f = nI (0 + 8 * v) → M 10 (f + 1) = nI 7 → f + 1 < 6 → v ≤ 9999 → cl_brs M 6 [(0, v)] f [] := fun M f v h1 h2 h3 h4 => ⟨fun i q hq => by
    have hi0 : i = 0 := by
      have := (List.getElem?_eq_some_iff.mp hq).1
      simpa using this
    subst hi0
    have : q = (0, v) := by simpa using hq.symm
    subst this
    exact h1, h2, h3, by simp [pfW, h4]⟩
  rcases this with rfl | rfl | rfl
  · refine ⟨0, by simp [am_u], seg _ 0 1 ?_ ?_ (by omega) (by omega)⟩
    · simp [am_u, m28]
    · simp [am_u, m28]
  · refine ⟨2, by simp [am_u], seg _ 2 0 ?_ ?_ (by omega) (by omega)⟩
    · simp [am_u, m28]
    · simp [am_u, m28]
  · refine ⟨4, by simp [am_u], seg _ 4 5 ?_ ?_ (by omega) (by omega)⟩
    · simp [am_u, m28]
    · simp [am_u, m28]
theorem c_scriptClear (hR : am_OR R) (hN : 116 ≤ n) (hn : n ≤ 1000) (hQ : ∀ I', am_ag (fun k j => k = 20 ∨ k = 28 ∨ k = 29 ∨ (k = 27 ∧ j = 3)) I I' → emD I' → Q none (n, I', L, R)) : am_E X (d + 2) mX10_clear 0 [some (.ref 20)] [] (n, I, L, R) Q := by
  have hl := am_lt hN
  simp only [rX10_clear_0, rX10_clear_1, rX10_clear_2, rX10_clear_5, rX10_clear_6, rX10_clear_7, rX10_clear_10, rX10_clear_11, rX10_clear_12, rX10_clear_15, rX10_clear_16, rX10_clear_17, rX10_clear_20, rX10_clear_21, rX10_clear_22, rX10_clear_25, rX10_clear_26, rX10_clear_27, rX10_clear_30, rX10_clear_31, rX10_clear_34, ro_0_0 hR, ro_0_3 hR, ro_0_4 hR, ro_0_5 hR, ro_0_6 hR, ro_0_7 hR, ro_0_8 hR, ro_0_9 hR, ro_0_10 hR, ro_0_11 hR, ro_2_6 hR, ro_2_7 hR, ro_2_8 hR, ro_2_9 hR, ro_2_10 hR, ro_2_11 hR, ro_2_12 hR, ro_2_13 hR, ro_9_0 hR, ro_9_1 hR, ro_9_2 hR, ro_14_0 hR, ro_14_1 hR, ro_14_2 hR, ro_14_7 hR, ro_15_0 hR, ro_20_6 hR, ro_20_7 hR, ro_20_8 hR, ro_20_9 hR, ro_20_10 hR, ro_20_11 hR, ro_20_12 hR, ro_20_13 hR, ro_27_0 hR, ro_27_1 hR, ro_27_2 hR, ro_32_0 hR, ro_32_1 hR, ro_34_10 hR, ro_34_11 hR, ro_34_12 hR, ro_34_13 hR, ro_39_0 hR, ro_39_1 hR, ro_42_0 hR, ro_42_1 hR, ro_47_0 hR, ro_47_1 hR, ro_47_2 hR, ro_47_3 hR, ro_55_0 hR, ro_55_1 hR, ro_55_2 hR, ro_57_0 hR, ro_57_1 hR, ro_57_2 hR, ro_57_3 hR, ro_57_4 hR, ro_57_5 hR, ro_57_8 hR, sh_0, sh_1, sh_2, sh_3, sh_4, sh_5, sh_6, sh_7, sh_8, sh_9, sh_10, sh_11, sh_12, sh_13, sh_14, sh_15, sh_16, sh_17, sh_18, sh_19, sh_20, sh_21, sh_22, sh_23, sh_24, sh_25, sh_26, sh_27, sh_28, sh_29, sh_30, sh_31, sh_32, sh_33, sh_34, sh_35, sh_36, sh_37, sh_38, sh_39, sh_40, sh_41, sh_42, sh_43, sh_44, sh_45, sh_46, sh_47, sh_48, sh_49, sh_50, sh_51, sh_52, sh_53, sh_54, sh_55, sh_56, sh_57, sh_58, sh_59, sh_60, sh_61, sh_62, sh_63, sh_64, sh_65, sh_66, sh_67, sh_68, hl, Nat.reduceLT, Nat.reduceAdd, Nat.reduceMul, ne_eq, Nat.reduceEqDiff, not_false_eq_true, or_true, true_or, or_false, false_or, and_true, true_and, and_self, Nat.reduceLeDiff, am_ci, am_cr, am_cn0, Option.toList_some, Option.toList_none, List.cons_append, List.nil_append, am_s0, am_s1, am_s1r, am_s2, am_s2r, am_s3r, nI_add, am_u_ne, am_u_at, am_u_n1, am_u_n2, am_w_ne, hn]
  refine c_bookClear hR hN hn (fun I1 g1 b1 => ?_)
  simp only [Option.toList_none, List.nil_append, rX10_clear_37]
  refine hQ I1 ?_ ⟨fun j hj => ?_, b1⟩
  · refine am_ag.trans ?_ (g1.mono (fun k j z => by omega))
    repeat (first | exact am_ag.refl | (refine am_ag.u ?_ (Or.inl rfl)))
  · rw [g1 20 j (by omega)]
    have : j = 0 ∨ j = 1 ∨ j = 2 ∨ j = 3 ∨ j = 4 ∨ j = 5 := by omega
    rcases this with rfl | rfl | rfl | rfl | rfl | rfl <;> simp [am_u]
theorem tellP_t {s' : pst} (h4 : s_t s ≤ 400) (h : tellP x s = .inr s') : s_t s < s_t s' ∧ s_t s' ≤ 400 := by
  have ch : ∀ (ks : List Nat) (t t' : Nat), t ≤ 400 → chk x ks t = .inr t' → t' = t + ks.length ∧ t' ≤ 400 := by
    intro ks
    induction ks with
    | nil => intro t t' h4 h; cases h; exact ⟨rfl, h4⟩
    | cons k ks ih =>
      intro t t' h4 h
      rw [chk] at h
      obtain ⟨t1, e1, h⟩ := erB_some h
      obtain ⟨-, q2, rfl⟩ := tkE_inr e1
      obtain ⟨a1, a2⟩ := ih (t + 1) t' (by omega) h
      rw [List.length_cons]
      omega
  have lw : ∀ kk, lawQ x kk s = .inr s' → s_t s < s_t s' ∧ s_t s' ≤ 400 := by
    intro kk h
    unfold lawQ at h
    obtain ⟨a, e1, h⟩ := erB_some h
    cases h
    show s_t s < a.1 ∧ a.1 ≤ 400
    unfold lawP at e1
    obtain ⟨t1, q1, e1⟩ := erB_some e1
    obtain ⟨t2, q2, e1⟩ := erB_some e1
    have := stE_inr q1
    have := tkE_inr q2
    have ll : ∀ (r u : Nat) (acc : lawB) (b : Nat × lawB × pfx), lawL x r u acc = .inr b → u < b.1 ∧ b.1 ≤ 400 := by
      have le : ∀ (u : Nat) (acc : lawB) (b : Nat × lawB × pfx), lawE x u acc = .inr b → u < b.1 ∧ b.1 ≤ 400 := by
        intro u acc b hb
        unfold lawE at hb
        obtain ⟨c, c1, hb⟩ := erB_some hb
        obtain ⟨u2, c2, hb⟩ := erB_some hb
        cases hb
        have := exP_good _ _ _ c1
        have := tkE_inr c2
        show u < u2 ∧ u2 ≤ 400
        omega
      intro r
      induction r with
      | zero =>
        intro u acc b hb
        have hb : (if kK x u = 8 then .inl (2, u) else lawE x u acc) = .inr b := hb
        split at hb
        · cases hb
        · exact le u acc b hb
      | succ r ih =>
        intro u acc b hb
        have hb : (if kK x u = 8 then erB (lawB1 x u) (fun b => lawL x r b.1 (acc ++ [b.2])) else lawE x u acc) = .inr b := hb
        split at hb
        · obtain ⟨c, c1, hb⟩ := erB_some hb
          have h2 := ih _ _ _ hb
          unfold lawB1 at c1
          obtain ⟨u1, w1, c1⟩ := erB_some c1
          obtain ⟨a1, w2, c1⟩ := erB_some c1
          obtain ⟨u3, w3, c1⟩ := erB_some c1
          obtain ⟨a2, w4, c1⟩ := erB_some c1
          obtain ⟨u5, w5, c1⟩ := erB_some c1
          obtain ⟨a3, w6, c1⟩ := erB_some c1
          obtain ⟨u7, w7, c1⟩ := erB_some c1
          cases c1
          have := stE_inr w1
          have := exP_good _ _ _ w2
          have := tkE_inr w3
          have := exP_good _ _ _ w4
          have := tkE_inr w5
          have := exP_good _ _ _ w6
          have := tkE_inr w7
          have h2 : u7 < b.1 ∧ b.1 ≤ 400 := h2
          omega
        · exact le u acc b hb
    have := ll _ _ _ _ e1
    omega
  unfold tellP at h
  split at h
  · unfold puppetP at h
    split at h
    · cases h
    · obtain ⟨a, e1, h⟩ := erB_some h
      cases h
      have := ch _ _ _ h4 e1
      show s_t s < a ∧ a ≤ 400
      simp at this
      omega
  · split at h
    · unfold stringP at h
      split at h
      · cases h
      · obtain ⟨a, e1, h⟩ := erB_some h
        have h1 := ch _ _ _ h4 e1
        simp at h1
        split at h
        · obtain ⟨b, e2, h⟩ := erB_some h
          cases h
          have h2 := ch _ _ _ (by omega) e2
          simp at h2
          show s_t s < b ∧ b ≤ 400
          omega
        · obtain ⟨b, e2, h⟩ := erB_some h
          cases h
          have h2 := ch _ _ _ (by omega) e2
          simp at h2
          show s_t s < b ∧ b ≤ 400
          omega
    · split at h
      · unfold childP at h
        split at h
        · cases h
        · obtain ⟨a, e1, h⟩ := erB_some h
          cases h
          have := ch _ _ _ h4 e1
          show s_t s < a ∧ a ≤ 400
          simp at this
          omega
      · split at h
        · exact lw 0 h
        · split at h
          · exact lw 1 h
          · split at h
            · exact lw 2 h
            · split at h
              · unfold stormP at h
                obtain ⟨a, e1, h⟩ := erB_some h
                cases h
                have := ch _ _ _ h4 e1
                show s_t s < a ∧ a ≤ 400
                simp at this
                omega
              · split at h
                · unfold seedP at h
                  obtain ⟨a, e1, h⟩ := erB_some h
                  cases h
                  have := ch _ _ _ h4 e1
                  show s_t s < a ∧ a ≤ 400
                  simp at this
                  omega
                · cases h
theorem allP_end : ∀ (f : Nat) (s s' : pst), 401 ≤ f + s_t s → s_t s ≤ 400 → allP x f s = .inr s' → kK x (s_t s') = 22 ∧ s_t s' ≤ 400 := by
  intro f
  induction f with
  | zero => intro s s' h1 h2; omega
  | succ f ih =>
    intro s s' h1 h2 h
    rw [allP] at h
    split at h
    · next hk => cases h; exact ⟨hk, h2⟩
    · obtain ⟨a, e1, h⟩ := erB_some h
      obtain ⟨a1, a2⟩ := tellP_t h2 e1
      exact ih a s' (by omega) a2 h
/-- one thing told -/
theorem c_tellC {D i : Nat} {g : Int32} (hR : am_OR R) (hN : 116 ≤ n) (hn : n ≤ 1000) (H : CS I L R x s) (hE : ∀ e, tellP x s = .inl e → ∀ I' L', am_ag rdP I I' → agN L L' → flt I' x e → am_E X (D + 31) mX9_faultOf 193 [some (.ref 14), some (.ref 1), some (.int (nI x.1)), some (.int (nI 0)), some (.int (nI i))] [] (n, I', L', R) Q) (hS : ∀ s', tellP x s = .inr s' → ∀ I' L', am_ag rdP I I' → agN L L' → CS I' L' R x s' → am_E X (D + 31) mX9_faultOf 193 [some (.ref 14), some (.ref 1), some (.int (nI x.1)), some (.int (nI 1)), some (.int (nI i))] [] (n, I', L', R) Q) : am_E X (D + 31) mX9_faultOf 65 [some (.ref 14), some (.ref 1), some (.int (nI x.1)), some (.int g), some (.int (nI i))] [] (n, I, L, R) Q := by
  have hl := am_lt hN
  have T := H.1
  unfold tellP at hE hS
  sorry
end RG
