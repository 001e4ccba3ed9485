--! 98
/-! TEXTS: the reference clears its part -/
section FX
variable {X : am_X} {d n : Nat} {I : Nat → Nat → Int32} {L : Nat → Nat → Int64} {R : Nat → Nat → Option Nat} {Q : Option Value → am_M → Prop} {x : txt}
theorem c_plainR {pt : Nat} (hR : am_OR R) (hN : 116 ≤ n) (hn : n ≤ 1000) (hpt : pt < 2) (hQ : ∀ J', am_ag (rdF pt) I J' → (∀ j, J' 69 j = I 69 j) → (J' 79 pt = nI 0 ∧ J' 82 pt = nI 0 ∧ J' 87 pt = nI 0 ∧ J' 89 pt = nI 0 ∧ J' 90 pt = nI 0) → (∀ k, k < 3 → J' 91 (3 * pt + k) = J' 92 (3 * pt + k)) → (∀ k j, k = 72 ∨ k = 73 ∨ k = 74 → J' k j = I k j) → Q none (n, J', L, R)) : am_E X d mX13_plain 0 [some (.ref 69), some (.int (nI pt)), none] [] (n, I, L, R) Q := by
  have hl := am_lt hN
  have hvw9 := am_lw hN
  have ix : nI 3 * nI pt = nI (3 * pt) := (by decide : ∀ p, p < 2 → nI 3 * nI p = nI (3 * p)) pt hpt
  have r9 : ∀ {k j : Nat}, k = 91 ∨ k = 92 → 3 * pt ≤ j → j < 3 * pt + 3 → rdF pt k j := fun h h1 h2 => Or.inr (Or.inr (Or.inr (Or.inr (Or.inr (Or.inl ⟨h, h1, h2⟩)))))
  have lp : ∀ (m i : Nat) (J : Nat → Nat → Int32), i + m = 3 → am_ag (rdF pt) I J → (∀ k j, ¬ (k = 91 ∨ k = 92) → ¬ ((k = 79 ∨ k = 82 ∨ k = 87 ∨ k = 89 ∨ k = 90) ∧ j = pt) → J k j = I k j) → (J 79 pt = nI 0 ∧ J 82 pt = nI 0 ∧ J 87 pt = nI 0 ∧ J 89 pt = nI 0 ∧ J 90 pt = nI 0) → (∀ k, k < i → J 91 (3 * pt + k) = J 92 (3 * pt + k)) → am_E X d mX13_plain 37 [some (.ref 69), some (.int (nI pt)), some (.int (nI i))] [] (n, J, L, R) Q := by
    intro m
    induction m with
    | zero =>
      intro i J hi g o z w
      have hi : i = 3 := by omega
      subst hi
      have c1 : nI 3 ≤ nI 3 := by decide
      simp only [am_lv_of, rX13_plain_37, rX13_plain_38, rX13_plain_39, rX13_plain_70, ro_69_1 hR, ro_69_3 hR, ro_69_5 hR, ro_69_6 hR, ro_69_7 hR, ro_69_8 hR, ro_69_9 hR, ro_69_21 hR, ro_69_22 hR, ro_69_23 hR, ro_69_24 hR, ro_69_25 hR, ro_69_26 hR, ro_69_27 hR, ro_69_28 hR, ro_69_29 hR, ro_69_30 hR, ro_69_31 hR, ro_69_32 hR, ro_69_33 hR, ro_69_34 hR, ro_69_35 hR, ro_69_36 hR, ro_69_38 hR, ro_69_39 hR, ro_69_40 hR, ro_69_41 hR, ro_69_42 hR, ro_69_44 hR, ro_69_45 hR, ro_69_46 hR, ro_69_48 hR, ro_69_49 hR, ro_69_51 hR, ro_69_52 hR, ro_69_55 hR, ro_69_56 hR, ro_69_57 hR, ro_69_58 hR, ro_69_59 hR, ro_69_61 hR, ro_69_62 hR, ro_69_63 hR, ro_69_64 hR, ro_69_65 hR, ro_69_66 hR, sh_69, sh_70, sh_71, sh_72, sh_73, sh_74, sh_75, sh_76, sh_77, sh_78, sh_79, sh_80, sh_81, sh_82, sh_83, sh_84, sh_85, sh_86, sh_87, sh_88, sh_89, sh_90, sh_91, sh_92, sh_93, sh_94, sh_95, sh_96, sh_97, sh_98, sh_99, sh_100, sh_101, sh_102, sh_103, sh_104, sh_105, sh_106, sh_107, sh_108, sh_109, sh_110, sh_111, sh_112, sh_113, sh_114, sh_115, hl, hvw9, Nat.reduceLT, Nat.reduceAdd, Nat.reduceMul, ne_eq, Nat.reduceEqDiff, not_false_eq_true, or_true, true_or, or_false, false_or, and_true, true_and, and_self, Nat.reduceLeDiff, am_ci, am_cr, am_cn0, Option.toList_some, Option.toList_none, List.cons_append, List.nil_append, am_s0, am_s1, am_s1r, am_s2, am_s2r, am_s3r, nI_add, am_u_ne, am_u_at, am_u_n1, am_u_n2, am_w_ne, ↓reduceIte, c1]
      exact hQ J g (fun j => o 69 j (by omega) (by omega)) z w (fun k j hk => o k j (by omega) (by omega))
    | succ m ih =>
      intro i J hi g o z w
      have c1 : ¬ nI 3 ≤ nI i := nI_ge (by omega) (by omega)
      have i6 : 3 * pt + i < 6 := by omega
      rw [rX13_plain_37]
      simp only [am_lv_of, rX13_plain_38, rX13_plain_39, rX13_plain_42, rX13_plain_43, rX13_plain_46, rX13_plain_47, rX13_plain_48, rX13_plain_49, rX13_plain_50, rX13_plain_51, rX13_plain_52, rX13_plain_53, rX13_plain_54, rX13_plain_57, rX13_plain_58, rX13_plain_59, rX13_plain_60, rX13_plain_61, rX13_plain_62, rX13_plain_63, rX13_plain_64, rX13_plain_67, ro_69_1 hR, ro_69_3 hR, ro_69_5 hR, ro_69_6 hR, ro_69_7 hR, ro_69_8 hR, ro_69_9 hR, ro_69_21 hR, ro_69_22 hR, ro_69_23 hR, ro_69_24 hR, ro_69_25 hR, ro_69_26 hR, ro_69_27 hR, ro_69_28 hR, ro_69_29 hR, ro_69_30 hR, ro_69_31 hR, ro_69_32 hR, ro_69_33 hR, ro_69_34 hR, ro_69_35 hR, ro_69_36 hR, ro_69_38 hR, ro_69_39 hR, ro_69_40 hR, ro_69_41 hR, ro_69_42 hR, ro_69_44 hR, ro_69_45 hR, ro_69_46 hR, ro_69_48 hR, ro_69_49 hR, ro_69_51 hR, ro_69_52 hR, ro_69_55 hR, ro_69_56 hR, ro_69_57 hR, ro_69_58 hR, ro_69_59 hR, ro_69_61 hR, ro_69_62 hR, ro_69_63 hR, ro_69_64 hR, ro_69_65 hR, ro_69_66 hR, sh_69, sh_70, sh_71, sh_72, sh_73, sh_74, sh_75, sh_76, sh_77, sh_78, sh_79, sh_80, sh_81, sh_82, sh_83, sh_84, sh_85, sh_86, sh_87, sh_88, sh_89, sh_90, sh_91, sh_92, sh_93, sh_94, sh_95, sh_96, sh_97, sh_98, sh_99, sh_100, sh_101, sh_102, sh_103, sh_104, sh_105, sh_106, sh_107, sh_108, sh_109, sh_110, sh_111, sh_112, sh_113, sh_114, sh_115, hl, hvw9, Nat.reduceLT, Nat.reduceAdd, Nat.reduceMul, ne_eq, Nat.reduceEqDiff, not_false_eq_true, or_true, true_or, or_false, false_or, and_true, true_and, and_self, Nat.reduceLeDiff, am_ci, am_cr, am_cn0, Option.toList_some, Option.toList_none, List.cons_append, List.nil_append, am_s0, am_s1, am_s1r, am_s2, am_s2r, am_s3r, nI_add, am_u_ne, am_u_at, am_u_n1, am_u_n2, am_w_ne, ↓reduceIte, hn, c1, ix, i6]
      have oB : ∀ k j, ¬ (k = 91 ∨ k = 92) → am_u (am_u J 91 (3 * pt + i) (nI 0)) 92 (3 * pt + i) (nI 0) k j = J k j := fun k j h => by rw [am_u_n1 (by omega), am_u_n1 (by omega)]
      refine ih (i + 1) _ (by omega) ((g.u (r9 (Or.inl rfl) (by omega) (by omega))).u (r9 (Or.inr rfl) (by omega) (by omega))) (fun k j h h' => by rw [oB k j h]; exact o k j h h') ⟨by rw [oB 79 pt (by omega)]; exact z.1, by rw [oB 82 pt (by omega)]; exact z.2.1, by rw [oB 87 pt (by omega)]; exact z.2.2.1, by rw [oB 89 pt (by omega)]; exact z.2.2.2.1, by rw [oB 90 pt (by omega)]; exact z.2.2.2.2⟩ (fun k hk => ?_)
      by_cases e : k = i
      · subst e
        rw [am_u_n1 (by omega), am_u_at, am_u_at]
      · rw [am_u_n1 (by omega), am_u_n2 (by omega), am_u_n2 (by omega), am_u_n1 (by omega)]
        exact w k (by omega)
  simp only [am_lv_of, rX13_plain_0, rX13_plain_1, rX13_plain_4, rX13_plain_5, rX13_plain_6, rX13_plain_7, rX13_plain_8, rX13_plain_11, rX13_plain_12, rX13_plain_13, rX13_plain_14, rX13_plain_15, rX13_plain_18, rX13_plain_19, rX13_plain_20, rX13_plain_21, rX13_plain_22, rX13_plain_25, rX13_plain_26, rX13_plain_27, rX13_plain_28, rX13_plain_29, rX13_plain_32, rX13_plain_33, rX13_plain_34, rX13_plain_35, rX13_plain_36, ro_69_1 hR, ro_69_3 hR, ro_69_5 hR, ro_69_6 hR, ro_69_7 hR, ro_69_8 hR, ro_69_9 hR, ro_69_21 hR, ro_69_22 hR, ro_69_23 hR, ro_69_24 hR, ro_69_25 hR, ro_69_26 hR, ro_69_27 hR, ro_69_28 hR, ro_69_29 hR, ro_69_30 hR, ro_69_31 hR, ro_69_32 hR, ro_69_33 hR, ro_69_34 hR, ro_69_35 hR, ro_69_36 hR, ro_69_38 hR, ro_69_39 hR, ro_69_40 hR, ro_69_41 hR, ro_69_42 hR, ro_69_44 hR, ro_69_45 hR, ro_69_46 hR, ro_69_48 hR, ro_69_49 hR, ro_69_51 hR, ro_69_52 hR, ro_69_55 hR, ro_69_56 hR, ro_69_57 hR, ro_69_58 hR, ro_69_59 hR, ro_69_61 hR, ro_69_62 hR, ro_69_63 hR, ro_69_64 hR, ro_69_65 hR, ro_69_66 hR, sh_69, sh_70, sh_71, sh_72, sh_73, sh_74, sh_75, sh_76, sh_77, sh_78, sh_79, sh_80, sh_81, sh_82, sh_83, sh_84, sh_85, sh_86, sh_87, sh_88, sh_89, sh_90, sh_91, sh_92, sh_93, sh_94, sh_95, sh_96, sh_97, sh_98, sh_99, sh_100, sh_101, sh_102, sh_103, sh_104, sh_105, sh_106, sh_107, sh_108, sh_109, sh_110, sh_111, sh_112, sh_113, sh_114, sh_115, hl, hvw9, Nat.reduceLT, Nat.reduceAdd, Nat.reduceMul, ne_eq, Nat.reduceEqDiff, not_false_eq_true, or_true, true_or, or_false, false_or, and_true, true_and, and_self, Nat.reduceLeDiff, am_ci, am_cr, am_cn0, Option.toList_some, Option.toList_none, List.cons_append, List.nil_append, am_s0, am_s1, am_s1r, am_s2, am_s2r, am_s3r, nI_add, am_u_ne, am_u_at, am_u_n1, am_u_n2, am_w_ne, hn, hpt]
  refine lp 3 0 _ (by omega) ?_ (fun k j h h' => ?_) ⟨?_, ?_, ?_, ?_, ?_⟩ (fun k hk => absurd hk (by omega))
  · exact ((((am_ag.refl.u (rdA (by omega))).u (rdA (by omega))).u (rdA (by omega))).u (rdA (by omega))).u (rdA (by omega))
  · have n1 : ∀ {q : Nat} {J : Nat → Nat → Int32} {v : Int32}, (q = 79 ∨ q = 82 ∨ q = 87 ∨ q = 89 ∨ q = 90) → am_u J q pt v k j = J k j := by
      intro q J v hq
      by_cases e : k = q
      · subst e; exact am_u_n2 (fun y => h' ⟨hq, y⟩)
      · exact am_u_n1 e
    rw [n1 (by omega), n1 (by omega), n1 (by omega), n1 (by omega), n1 (by omega)]
  · rw [am_u_n1 (by omega), am_u_n1 (by omega), am_u_n1 (by omega), am_u_n1 (by omega), am_u_at]
  · rw [am_u_n1 (by omega), am_u_n1 (by omega), am_u_n1 (by omega), am_u_at]
  · rw [am_u_n1 (by omega), am_u_n1 (by omega), am_u_at]
  · rw [am_u_n1 (by omega), am_u_at]
  · exact am_u_at
end FX
