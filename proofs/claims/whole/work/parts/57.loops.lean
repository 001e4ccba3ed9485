--! 56
/-! THE REFERENCE: rows copied -/
section LP
variable {X : am_X} {d n : Nat} {I : Nat → Nat → Int32} {L : Nat → Nat → Int64} {R : Nat → Nat → Option Nat} {Q : Option Value → am_M → Prop} {σ : rfP}
theorem l_keepsRow (hR : am_OR R) (hN : 116 ≤ n) (hn : n ≤ 1000)  : ∀ (m i : Nat) (J : Nat → Nat → Int32), i + m = 68 → am_ag (fun k _ => k = 103) I J → (∀ j, J 103 j = if 0 ≤ j ∧ j < 0 + i then I 104 (0 + (j - (0))) else I 103 j) → (∀ I', am_ag (fun k _ => k = 103) I I' → (∀ j, I' 103 j = if 0 ≤ j ∧ j < 0 + 68 then I 104 (0 + (j - (0))) else I 103 j) → am_E X d mX13_keepsRow 26 [some (.ref 69), some (.int (nI 68))] [] (n, I', L, R) Q) → am_E X d mX13_keepsRow 2 [some (.ref 69), some (.int (nI i))] [] (n, J, L, R) Q := by
  have hl := am_lt hN
  have hvw9 := am_lw hN
  intro m
  induction m with
  | zero =>
    intro i J hi hJ hc hQ
    have hi : i = 68 := by omega
    subst hi
    have h1 : nI (68) ≤ nI (68) := nI_le (Nat.le_refl _) (by omega)
    skip
    try simp only [Nat.reduceAdd] at h1
    simp only [am_lv_of, Nat.reduceAdd, rX13_keepsRow_2, rX13_keepsRow_3, rX13_keepsRow_5, ro_69_1 hR, ro_69_3 hR, ro_69_5 hR, ro_69_6 hR, ro_69_7 hR, ro_69_8 hR, ro_69_9 hR, ro_69_21 hR, ro_69_22 hR, ro_69_23 hR, ro_69_24 hR, ro_69_25 hR, ro_69_26 hR, ro_69_27 hR, ro_69_28 hR, ro_69_29 hR, ro_69_30 hR, ro_69_31 hR, ro_69_32 hR, ro_69_33 hR, ro_69_34 hR, ro_69_35 hR, ro_69_36 hR, ro_69_38 hR, ro_69_39 hR, ro_69_40 hR, ro_69_41 hR, ro_69_42 hR, ro_69_44 hR, ro_69_45 hR, ro_69_46 hR, ro_69_48 hR, ro_69_49 hR, ro_69_51 hR, ro_69_52 hR, ro_69_55 hR, ro_69_56 hR, ro_69_57 hR, ro_69_58 hR, ro_69_59 hR, ro_69_61 hR, ro_69_62 hR, ro_69_63 hR, ro_69_64 hR, ro_69_65 hR, ro_69_66 hR, sh_69, sh_70, sh_71, sh_72, sh_73, sh_74, sh_75, sh_76, sh_77, sh_78, sh_79, sh_80, sh_81, sh_82, sh_83, sh_84, sh_85, sh_86, sh_87, sh_88, sh_89, sh_90, sh_91, sh_92, sh_93, sh_94, sh_95, sh_96, sh_97, sh_98, sh_99, sh_100, sh_101, sh_102, sh_103, sh_104, sh_105, sh_106, sh_107, sh_108, sh_109, sh_110, sh_111, sh_112, sh_113, sh_114, sh_115, hl, hvw9, Nat.reduceLT, Nat.reduceAdd, Nat.reduceMul, ne_eq, Nat.reduceEqDiff, not_false_eq_true, or_true, true_or, or_false, false_or, and_true, true_and, and_self, Nat.reduceLeDiff, am_ci, am_cr, am_cn0, Option.toList_some, Option.toList_none, List.cons_append, List.nil_append, am_s0, am_s1, am_s1r, am_s2, am_s2r, am_s3r, nI_add, am_u_ne, am_u_at, am_u_n1, am_u_n2, am_w_ne, ↓reduceIte, h1 ]
    exact hQ J hJ hc
  | succ m ih =>
    intro i J hi hJ hc hQ
    have h1 : ¬ nI (68) ≤ nI i := nI_ge (by omega) (by omega)
    try simp only [Nat.reduceAdd] at h1
    have h2 : i < 68 := by omega
    have h3 : i < 68 := by omega
    skip
    rw [rX13_keepsRow_2]
    simp only [am_lv_of, rX13_keepsRow_3, rX13_keepsRow_5, rX13_keepsRow_8, rX13_keepsRow_9, rX13_keepsRow_12, rX13_keepsRow_13, rX13_keepsRow_14, rX13_keepsRow_17, rX13_keepsRow_18, rX13_keepsRow_19, rX13_keepsRow_20, rX13_keepsRow_23, ro_69_1 hR, ro_69_3 hR, ro_69_5 hR, ro_69_6 hR, ro_69_7 hR, ro_69_8 hR, ro_69_9 hR, ro_69_21 hR, ro_69_22 hR, ro_69_23 hR, ro_69_24 hR, ro_69_25 hR, ro_69_26 hR, ro_69_27 hR, ro_69_28 hR, ro_69_29 hR, ro_69_30 hR, ro_69_31 hR, ro_69_32 hR, ro_69_33 hR, ro_69_34 hR, ro_69_35 hR, ro_69_36 hR, ro_69_38 hR, ro_69_39 hR, ro_69_40 hR, ro_69_41 hR, ro_69_42 hR, ro_69_44 hR, ro_69_45 hR, ro_69_46 hR, ro_69_48 hR, ro_69_49 hR, ro_69_51 hR, ro_69_52 hR, ro_69_55 hR, ro_69_56 hR, ro_69_57 hR, ro_69_58 hR, ro_69_59 hR, ro_69_61 hR, ro_69_62 hR, ro_69_63 hR, ro_69_64 hR, ro_69_65 hR, ro_69_66 hR, sh_69, sh_70, sh_71, sh_72, sh_73, sh_74, sh_75, sh_76, sh_77, sh_78, sh_79, sh_80, sh_81, sh_82, sh_83, sh_84, sh_85, sh_86, sh_87, sh_88, sh_89, sh_90, sh_91, sh_92, sh_93, sh_94, sh_95, sh_96, sh_97, sh_98, sh_99, sh_100, sh_101, sh_102, sh_103, sh_104, sh_105, sh_106, sh_107, sh_108, sh_109, sh_110, sh_111, sh_112, sh_113, sh_114, sh_115, hl, hvw9, Nat.reduceLT, Nat.reduceAdd, Nat.reduceMul, ne_eq, Nat.reduceEqDiff, not_false_eq_true, or_true, true_or, or_false, false_or, and_true, true_and, and_self, Nat.reduceLeDiff, am_ci, am_cr, am_cn0, Option.toList_some, Option.toList_none, List.cons_append, List.nil_append, am_s0, am_s1, am_s1r, am_s2, am_s2r, am_s3r, nI_add, am_u_ne, am_u_at, am_u_n1, am_u_n2, am_w_ne, ↓reduceIte, hn, h1, h2, h3 ]
    refine ih (i + 1) _ (by omega) (hJ.u rfl) (fun j => ?_) hQ
    by_cases e : j = i
    · rw [e, am_u_at, if_pos ⟨by omega, by omega⟩]
      rw [hJ 104 _ (by omega)]
      exact congrArg (I 104) (by omega)
    · rw [am_u_n2 e, hc j]
      by_cases h : 0 ≤ j ∧ j < 0 + i
      · rw [if_pos h, if_pos ⟨h.1, by omega⟩]
      · rw [if_neg h, if_neg (fun z => h ⟨z.1, by omega⟩)]
theorem c_keepsRow (hR : am_OR R) (hN : 116 ≤ n) (hn : n ≤ 1000) (hQ : ∀ I', am_ag (fun k _ => k = 103) I I' → (∀ j, j < 68 → I' 103 j = I 104 j) → Q none (n, I', L, R)) : am_E X d mX13_keepsRow 0 [some (.ref 69), none] [] (n, I, L, R) Q := by
  have hl := am_lt hN
  have hvw9 := am_lw hN
  simp only [am_lv_of, rX13_keepsRow_0, rX13_keepsRow_1, hl, hvw9, Nat.reduceLT, Nat.reduceAdd, Nat.reduceMul, ne_eq, Nat.reduceEqDiff, not_false_eq_true, or_true, true_or, or_false, false_or, and_true, true_and, and_self, Nat.reduceLeDiff, am_ci, am_cr, am_cn0, Option.toList_some, Option.toList_none, List.cons_append, List.nil_append, am_s0, am_s1, am_s1r, am_s2, am_s2r, am_s3r, nI_add, am_u_ne, am_u_at, am_u_n1, am_u_n2, am_w_ne]
  refine l_keepsRow hR hN hn 68 0 I (by omega) am_ag.refl (fun j => by rw [if_neg (by omega)]) (fun I' g1 g2 => ?_)
  simp only [am_lv_of, rX13_keepsRow_26]
  exact hQ I' g1 (fun j hj => by rw [g2 j, if_pos ⟨by omega, by omega⟩]; simp)
theorem l_shift3 (hR : am_OR R) (hN : 116 ≤ n) (hn : n ≤ 1000)  : ∀ (m i : Nat) (J : Nat → Nat → Int32), i + m = 33 → am_ag (fun k _ => k = 104) I J → (∀ j, J 104 j = if 31 ≤ j ∧ j < 31 + i then I 104 (34 + (j - (31))) else I 104 j) → (∀ I', am_ag (fun k _ => k = 104) I I' → (∀ j, I' 104 j = if 31 ≤ j ∧ j < 31 + 33 then I 104 (34 + (j - (31))) else I 104 j) → am_E X d mX13_keepsCase 82 [some (.ref 69), some (.int (nI 64))] [] (n, I', L, R) Q) → am_E X d mX13_keepsCase 56 [some (.ref 69), some (.int (nI (31 + i)))] [] (n, J, L, R) Q := by
  have hl := am_lt hN
  have hvw9 := am_lw hN
  intro m
  induction m with
  | zero =>
    intro i J hi hJ hc hQ
    have hi : i = 33 := by omega
    subst hi
    have h1 : nI (31 + 33) ≤ nI (31 + 33) := nI_le (Nat.le_refl _) (by omega)
    skip
    try simp only [Nat.reduceAdd] at h1
    simp only [am_lv_of, Nat.reduceAdd, rX13_keepsCase_56, rX13_keepsCase_57, rX13_keepsCase_59, ro_69_1 hR, ro_69_3 hR, ro_69_5 hR, ro_69_6 hR, ro_69_7 hR, ro_69_8 hR, ro_69_9 hR, ro_69_21 hR, ro_69_22 hR, ro_69_23 hR, ro_69_24 hR, ro_69_25 hR, ro_69_26 hR, ro_69_27 hR, ro_69_28 hR, ro_69_29 hR, ro_69_30 hR, ro_69_31 hR, ro_69_32 hR, ro_69_33 hR, ro_69_34 hR, ro_69_35 hR, ro_69_36 hR, ro_69_38 hR, ro_69_39 hR, ro_69_40 hR, ro_69_41 hR, ro_69_42 hR, ro_69_44 hR, ro_69_45 hR, ro_69_46 hR, ro_69_48 hR, ro_69_49 hR, ro_69_51 hR, ro_69_52 hR, ro_69_55 hR, ro_69_56 hR, ro_69_57 hR, ro_69_58 hR, ro_69_59 hR, ro_69_61 hR, ro_69_62 hR, ro_69_63 hR, ro_69_64 hR, ro_69_65 hR, ro_69_66 hR, sh_69, sh_70, sh_71, sh_72, sh_73, sh_74, sh_75, sh_76, sh_77, sh_78, sh_79, sh_80, sh_81, sh_82, sh_83, sh_84, sh_85, sh_86, sh_87, sh_88, sh_89, sh_90, sh_91, sh_92, sh_93, sh_94, sh_95, sh_96, sh_97, sh_98, sh_99, sh_100, sh_101, sh_102, sh_103, sh_104, sh_105, sh_106, sh_107, sh_108, sh_109, sh_110, sh_111, sh_112, sh_113, sh_114, sh_115, hl, hvw9, Nat.reduceLT, Nat.reduceAdd, Nat.reduceMul, ne_eq, Nat.reduceEqDiff, not_false_eq_true, or_true, true_or, or_false, false_or, and_true, true_and, and_self, Nat.reduceLeDiff, am_ci, am_cr, am_cn0, Option.toList_some, Option.toList_none, List.cons_append, List.nil_append, am_s0, am_s1, am_s1r, am_s2, am_s2r, am_s3r, nI_add, am_u_ne, am_u_at, am_u_n1, am_u_n2, am_w_ne, ↓reduceIte, h1 ]
    exact hQ J hJ hc
  | succ m ih =>
    intro i J hi hJ hc hQ
    have h1 : ¬ nI (31 + 33) ≤ nI (31 + i) := nI_ge (by omega) (by omega)
    try simp only [Nat.reduceAdd] at h1
    have h2 : 31 + i < 68 := by omega
    have h3 : 31 + i + 3 < 68 := by omega
    skip
    rw [rX13_keepsCase_56]
    simp only [am_lv_of, rX13_keepsCase_57, rX13_keepsCase_59, rX13_keepsCase_62, rX13_keepsCase_63, rX13_keepsCase_66, rX13_keepsCase_67, rX13_keepsCase_68, rX13_keepsCase_71, rX13_keepsCase_72, rX13_keepsCase_73, rX13_keepsCase_74, rX13_keepsCase_75, rX13_keepsCase_76, rX13_keepsCase_79, ro_69_1 hR, ro_69_3 hR, ro_69_5 hR, ro_69_6 hR, ro_69_7 hR, ro_69_8 hR, ro_69_9 hR, ro_69_21 hR, ro_69_22 hR, ro_69_23 hR, ro_69_24 hR, ro_69_25 hR, ro_69_26 hR, ro_69_27 hR, ro_69_28 hR, ro_69_29 hR, ro_69_30 hR, ro_69_31 hR, ro_69_32 hR, ro_69_33 hR, ro_69_34 hR, ro_69_35 hR, ro_69_36 hR, ro_69_38 hR, ro_69_39 hR, ro_69_40 hR, ro_69_41 hR, ro_69_42 hR, ro_69_44 hR, ro_69_45 hR, ro_69_46 hR, ro_69_48 hR, ro_69_49 hR, ro_69_51 hR, ro_69_52 hR, ro_69_55 hR, ro_69_56 hR, ro_69_57 hR, ro_69_58 hR, ro_69_59 hR, ro_69_61 hR, ro_69_62 hR, ro_69_63 hR, ro_69_64 hR, ro_69_65 hR, ro_69_66 hR, sh_69, sh_70, sh_71, sh_72, sh_73, sh_74, sh_75, sh_76, sh_77, sh_78, sh_79, sh_80, sh_81, sh_82, sh_83, sh_84, sh_85, sh_86, sh_87, sh_88, sh_89, sh_90, sh_91, sh_92, sh_93, sh_94, sh_95, sh_96, sh_97, sh_98, sh_99, sh_100, sh_101, sh_102, sh_103, sh_104, sh_105, sh_106, sh_107, sh_108, sh_109, sh_110, sh_111, sh_112, sh_113, sh_114, sh_115, hl, hvw9, Nat.reduceLT, Nat.reduceAdd, Nat.reduceMul, ne_eq, Nat.reduceEqDiff, not_false_eq_true, or_true, true_or, or_false, false_or, and_true, true_and, and_self, Nat.reduceLeDiff, am_ci, am_cr, am_cn0, Option.toList_some, Option.toList_none, List.cons_append, List.nil_append, am_s0, am_s1, am_s1r, am_s2, am_s2r, am_s3r, nI_add, am_u_ne, am_u_at, am_u_n1, am_u_n2, am_w_ne, ↓reduceIte, hn, h1, h2, h3 ]
    refine ih (i + 1) _ (by omega) (hJ.u rfl) (fun j => ?_) hQ
    by_cases e : j = 31 + i
    · rw [e, am_u_at, if_pos ⟨by omega, by omega⟩]
      rw [hc, if_neg (by omega)]
      exact congrArg (I 104) (by omega)
    · rw [am_u_n2 e, hc j]
      by_cases h : 31 ≤ j ∧ j < 31 + i
      · rw [if_pos h, if_pos ⟨h.1, by omega⟩]
      · rw [if_neg h, if_neg (fun z => h ⟨z.1, by omega⟩)]
theorem l_shift68 (hR : am_OR R) (hN : 116 ≤ n) (hn : n ≤ 1000)  : ∀ (m i : Nat) (J : Nat → Nat → Int32), i + m = 2652 → am_ag (fun k _ => k = 105) I J → (∀ j, J 105 j = if 0 ≤ j ∧ j < 0 + i then I 105 (68 + (j - (0))) else I 105 j) → (∀ I', am_ag (fun k _ => k = 105) I I' → (∀ j, I' 105 j = if 0 ≤ j ∧ j < 0 + 2652 then I 105 (68 + (j - (0))) else I 105 j) → am_E X d mX13_keeps 39 [some (.ref 69), some (.int (nI 2652))] [] (n, I', L, R) Q) → am_E X d mX13_keeps 11 [some (.ref 69), some (.int (nI i))] [] (n, J, L, R) Q := by
  have hl := am_lt hN
  have hvw9 := am_lw hN
  intro m
  induction m with
  | zero =>
    intro i J hi hJ hc hQ
    have hi : i = 2652 := by omega
    subst hi
    have h1 : nI (2652) ≤ nI (2652) := nI_le (Nat.le_refl _) (by omega)
    skip
    try simp only [Nat.reduceAdd] at h1
    simp only [am_lv_of, Nat.reduceAdd, rX13_keeps_11, rX13_keeps_12, rX13_keeps_15, ro_69_1 hR, ro_69_3 hR, ro_69_5 hR, ro_69_6 hR, ro_69_7 hR, ro_69_8 hR, ro_69_9 hR, ro_69_21 hR, ro_69_22 hR, ro_69_23 hR, ro_69_24 hR, ro_69_25 hR, ro_69_26 hR, ro_69_27 hR, ro_69_28 hR, ro_69_29 hR, ro_69_30 hR, ro_69_31 hR, ro_69_32 hR, ro_69_33 hR, ro_69_34 hR, ro_69_35 hR, ro_69_36 hR, ro_69_38 hR, ro_69_39 hR, ro_69_40 hR, ro_69_41 hR, ro_69_42 hR, ro_69_44 hR, ro_69_45 hR, ro_69_46 hR, ro_69_48 hR, ro_69_49 hR, ro_69_51 hR, ro_69_52 hR, ro_69_55 hR, ro_69_56 hR, ro_69_57 hR, ro_69_58 hR, ro_69_59 hR, ro_69_61 hR, ro_69_62 hR, ro_69_63 hR, ro_69_64 hR, ro_69_65 hR, ro_69_66 hR, sh_69, sh_70, sh_71, sh_72, sh_73, sh_74, sh_75, sh_76, sh_77, sh_78, sh_79, sh_80, sh_81, sh_82, sh_83, sh_84, sh_85, sh_86, sh_87, sh_88, sh_89, sh_90, sh_91, sh_92, sh_93, sh_94, sh_95, sh_96, sh_97, sh_98, sh_99, sh_100, sh_101, sh_102, sh_103, sh_104, sh_105, sh_106, sh_107, sh_108, sh_109, sh_110, sh_111, sh_112, sh_113, sh_114, sh_115, hl, hvw9, Nat.reduceLT, Nat.reduceAdd, Nat.reduceMul, ne_eq, Nat.reduceEqDiff, not_false_eq_true, or_true, true_or, or_false, false_or, and_true, true_and, and_self, Nat.reduceLeDiff, am_ci, am_cr, am_cn0, Option.toList_some, Option.toList_none, List.cons_append, List.nil_append, am_s0, am_s1, am_s1r, am_s2, am_s2r, am_s3r, nI_add, am_u_ne, am_u_at, am_u_n1, am_u_n2, am_w_ne, ↓reduceIte, h1 ]
    exact hQ J hJ hc
  | succ m ih =>
    intro i J hi hJ hc hQ
    have h1 : ¬ nI (2652) ≤ nI i := nI_ge (by omega) (by omega)
    try simp only [Nat.reduceAdd] at h1
    have h2 : i < 2720 := by omega
    have h3 : i + 68 < 2720 := by omega
    skip
    rw [rX13_keeps_11]
    simp only [am_lv_of, rX13_keeps_12, rX13_keeps_15, rX13_keeps_18, rX13_keeps_19, rX13_keeps_22, rX13_keeps_23, rX13_keeps_24, rX13_keeps_27, rX13_keeps_28, rX13_keeps_30, rX13_keeps_31, rX13_keeps_32, rX13_keeps_33, rX13_keeps_36, ro_69_1 hR, ro_69_3 hR, ro_69_5 hR, ro_69_6 hR, ro_69_7 hR, ro_69_8 hR, ro_69_9 hR, ro_69_21 hR, ro_69_22 hR, ro_69_23 hR, ro_69_24 hR, ro_69_25 hR, ro_69_26 hR, ro_69_27 hR, ro_69_28 hR, ro_69_29 hR, ro_69_30 hR, ro_69_31 hR, ro_69_32 hR, ro_69_33 hR, ro_69_34 hR, ro_69_35 hR, ro_69_36 hR, ro_69_38 hR, ro_69_39 hR, ro_69_40 hR, ro_69_41 hR, ro_69_42 hR, ro_69_44 hR, ro_69_45 hR, ro_69_46 hR, ro_69_48 hR, ro_69_49 hR, ro_69_51 hR, ro_69_52 hR, ro_69_55 hR, ro_69_56 hR, ro_69_57 hR, ro_69_58 hR, ro_69_59 hR, ro_69_61 hR, ro_69_62 hR, ro_69_63 hR, ro_69_64 hR, ro_69_65 hR, ro_69_66 hR, sh_69, sh_70, sh_71, sh_72, sh_73, sh_74, sh_75, sh_76, sh_77, sh_78, sh_79, sh_80, sh_81, sh_82, sh_83, sh_84, sh_85, sh_86, sh_87, sh_88, sh_89, sh_90, sh_91, sh_92, sh_93, sh_94, sh_95, sh_96, sh_97, sh_98, sh_99, sh_100, sh_101, sh_102, sh_103, sh_104, sh_105, sh_106, sh_107, sh_108, sh_109, sh_110, sh_111, sh_112, sh_113, sh_114, sh_115, hl, hvw9, Nat.reduceLT, Nat.reduceAdd, Nat.reduceMul, ne_eq, Nat.reduceEqDiff, not_false_eq_true, or_true, true_or, or_false, false_or, and_true, true_and, and_self, Nat.reduceLeDiff, am_ci, am_cr, am_cn0, Option.toList_some, Option.toList_none, List.cons_append, List.nil_append, am_s0, am_s1, am_s1r, am_s2, am_s2r, am_s3r, nI_add, am_u_ne, am_u_at, am_u_n1, am_u_n2, am_w_ne, ↓reduceIte, hn, h1, h2, h3 ]
    refine ih (i + 1) _ (by omega) (hJ.u rfl) (fun j => ?_) hQ
    by_cases e : j = i
    · rw [e, am_u_at, if_pos ⟨by omega, by omega⟩]
      rw [hc, if_neg (by omega)]
      exact congrArg (I 105) (by omega)
    · rw [am_u_n2 e, hc j]
      by_cases h : 0 ≤ j ∧ j < 0 + i
      · rw [if_pos h, if_pos ⟨h.1, by omega⟩]
      · rw [if_neg h, if_neg (fun z => h ⟨z.1, by omega⟩)]
theorem l_hist {u : Nat} (hR : am_OR R) (hN : 116 ≤ n) (hn : n ≤ 1000) (hu : I 69 54 = nI u) (hu4 : u < 40) : ∀ (m i : Nat) (J : Nat → Nat → Int32), i + m = 68 → am_ag (fun k _ => k = 105) I J → (∀ j, J 105 j = if 68 * u ≤ j ∧ j < 68 * u + i then I 103 (0 + (j - (68 * u))) else I 105 j) → (∀ I', am_ag (fun k _ => k = 105) I I' → (∀ j, I' 105 j = if 68 * u ≤ j ∧ j < 68 * u + 68 then I 103 (0 + (j - (68 * u))) else I 105 j) → am_E X d mX13_keeps 83 [some (.ref 69), some (.int (nI 68))] [] (n, I', L, R) Q) → am_E X d mX13_keeps 51 [some (.ref 69), some (.int (nI i))] [] (n, J, L, R) Q := by
  have hl := am_lt hN
  have hvw9 := am_lw hN
  intro m
  induction m with
  | zero =>
    intro i J hi hJ hc hQ
    have hi : i = 68 := by omega
    subst hi
    have h1 : nI (68) ≤ nI (68) := nI_le (Nat.le_refl _) (by omega)
    have e1 : J 69 54 = nI u := by rw [hJ 69 54 (by omega)]; exact hu
    try simp only [Nat.reduceAdd] at h1
    simp only [am_lv_of, Nat.reduceAdd, rX13_keeps_51, rX13_keeps_52, rX13_keeps_54, ro_69_1 hR, ro_69_3 hR, ro_69_5 hR, ro_69_6 hR, ro_69_7 hR, ro_69_8 hR, ro_69_9 hR, ro_69_21 hR, ro_69_22 hR, ro_69_23 hR, ro_69_24 hR, ro_69_25 hR, ro_69_26 hR, ro_69_27 hR, ro_69_28 hR, ro_69_29 hR, ro_69_30 hR, ro_69_31 hR, ro_69_32 hR, ro_69_33 hR, ro_69_34 hR, ro_69_35 hR, ro_69_36 hR, ro_69_38 hR, ro_69_39 hR, ro_69_40 hR, ro_69_41 hR, ro_69_42 hR, ro_69_44 hR, ro_69_45 hR, ro_69_46 hR, ro_69_48 hR, ro_69_49 hR, ro_69_51 hR, ro_69_52 hR, ro_69_55 hR, ro_69_56 hR, ro_69_57 hR, ro_69_58 hR, ro_69_59 hR, ro_69_61 hR, ro_69_62 hR, ro_69_63 hR, ro_69_64 hR, ro_69_65 hR, ro_69_66 hR, sh_69, sh_70, sh_71, sh_72, sh_73, sh_74, sh_75, sh_76, sh_77, sh_78, sh_79, sh_80, sh_81, sh_82, sh_83, sh_84, sh_85, sh_86, sh_87, sh_88, sh_89, sh_90, sh_91, sh_92, sh_93, sh_94, sh_95, sh_96, sh_97, sh_98, sh_99, sh_100, sh_101, sh_102, sh_103, sh_104, sh_105, sh_106, sh_107, sh_108, sh_109, sh_110, sh_111, sh_112, sh_113, sh_114, sh_115, hl, hvw9, Nat.reduceLT, Nat.reduceAdd, Nat.reduceMul, ne_eq, Nat.reduceEqDiff, not_false_eq_true, or_true, true_or, or_false, false_or, and_true, true_and, and_self, Nat.reduceLeDiff, am_ci, am_cr, am_cn0, Option.toList_some, Option.toList_none, List.cons_append, List.nil_append, am_s0, am_s1, am_s1r, am_s2, am_s2r, am_s3r, nI_add, am_u_ne, am_u_at, am_u_n1, am_u_n2, am_w_ne, ↓reduceIte, h1 , e1, pk_mul]
    exact hQ J hJ hc
  | succ m ih =>
    intro i J hi hJ hc hQ
    have h1 : ¬ nI (68) ≤ nI i := nI_ge (by omega) (by omega)
    try simp only [Nat.reduceAdd] at h1
    have h2 : 68 * u + i < 2720 := by omega
    have h3 : i < 68 := by omega
    have e1 : J 69 54 = nI u := by rw [hJ 69 54 (by omega)]; exact hu
    rw [rX13_keeps_51]
    simp only [am_lv_of, rX13_keeps_52, rX13_keeps_54, rX13_keeps_57, rX13_keeps_58, rX13_keeps_61, rX13_keeps_63, rX13_keeps_64, rX13_keeps_67, rX13_keeps_68, rX13_keeps_69, rX13_keeps_70, rX13_keeps_71, rX13_keeps_74, rX13_keeps_75, rX13_keeps_76, rX13_keeps_77, rX13_keeps_80, ro_69_1 hR, ro_69_3 hR, ro_69_5 hR, ro_69_6 hR, ro_69_7 hR, ro_69_8 hR, ro_69_9 hR, ro_69_21 hR, ro_69_22 hR, ro_69_23 hR, ro_69_24 hR, ro_69_25 hR, ro_69_26 hR, ro_69_27 hR, ro_69_28 hR, ro_69_29 hR, ro_69_30 hR, ro_69_31 hR, ro_69_32 hR, ro_69_33 hR, ro_69_34 hR, ro_69_35 hR, ro_69_36 hR, ro_69_38 hR, ro_69_39 hR, ro_69_40 hR, ro_69_41 hR, ro_69_42 hR, ro_69_44 hR, ro_69_45 hR, ro_69_46 hR, ro_69_48 hR, ro_69_49 hR, ro_69_51 hR, ro_69_52 hR, ro_69_55 hR, ro_69_56 hR, ro_69_57 hR, ro_69_58 hR, ro_69_59 hR, ro_69_61 hR, ro_69_62 hR, ro_69_63 hR, ro_69_64 hR, ro_69_65 hR, ro_69_66 hR, sh_69, sh_70, sh_71, sh_72, sh_73, sh_74, sh_75, sh_76, sh_77, sh_78, sh_79, sh_80, sh_81, sh_82, sh_83, sh_84, sh_85, sh_86, sh_87, sh_88, sh_89, sh_90, sh_91, sh_92, sh_93, sh_94, sh_95, sh_96, sh_97, sh_98, sh_99, sh_100, sh_101, sh_102, sh_103, sh_104, sh_105, sh_106, sh_107, sh_108, sh_109, sh_110, sh_111, sh_112, sh_113, sh_114, sh_115, hl, hvw9, Nat.reduceLT, Nat.reduceAdd, Nat.reduceMul, ne_eq, Nat.reduceEqDiff, not_false_eq_true, or_true, true_or, or_false, false_or, and_true, true_and, and_self, Nat.reduceLeDiff, am_ci, am_cr, am_cn0, Option.toList_some, Option.toList_none, List.cons_append, List.nil_append, am_s0, am_s1, am_s1r, am_s2, am_s2r, am_s3r, nI_add, am_u_ne, am_u_at, am_u_n1, am_u_n2, am_w_ne, ↓reduceIte, hn, h1, h2, h3 , e1, pk_mul]
    refine ih (i + 1) _ (by omega) (hJ.u rfl) (fun j => ?_) hQ
    by_cases e : j = 68 * u + i
    · rw [e, am_u_at, if_pos ⟨by omega, by omega⟩]
      rw [hJ 103 _ (by omega)]
      exact congrArg (I 103) (by omega)
    · rw [am_u_n2 e, hc j]
      by_cases h : 68 * u ≤ j ∧ j < 68 * u + i
      · rw [if_pos h, if_pos ⟨h.1, by omega⟩]
      · rw [if_neg h, if_neg (fun z => h ⟨z.1, by omega⟩)]
end LP
