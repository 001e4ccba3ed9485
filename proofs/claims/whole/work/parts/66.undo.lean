--! 65
/-! PROMISES 13, 35, 36: undo, hold, restore -/
theorem am_u_nn {α : Type} {h : Nat → Nat → α} {k j a b : Nat} {x : α} (hn : ¬ (a = k ∧ b = j)) : am_u h k j x a b = h a b := by
  unfold am_u
  by_cases h1 : a = k
  · by_cases h2 : b = j
    · exact absurd ⟨h1, h2⟩ hn
    · rw [if_pos h1, if_neg h2]
  · rw [if_neg h1]
theorem relH.fr2 {I I' : Nat → Nat → Int32} {n : Nat} {R : Nat → Nat → Option Nat} {P S : Nat} (h : relH I R P S) (hR : relR n R) (e : ∀ k j, (k = 39 ∧ j = 2) ∨ k = 114 ∨ k = 115 ∨ 116 ≤ k → I' k j = I k j) : relH I' R P S := by
  obtain ⟨b, h1, h2, h3⟩ := h
  refine ⟨b, h1, by rw [e 39 _ (by omega)]; exact h2, fun s hs => ⟨by rw [e 114 _ (by omega)]; exact (h3 s hs).1, fun hb => ?_⟩⟩
  obtain ⟨k, a1, a2⟩ := (h3 s hs).2 hb
  have hc := hR.2.2.2.1 _ k hs a1
  exact ⟨k, a1, a2.mv (fun x j x1 x2 => e x j (by have := hc.1; omega)) (fun j hj => e 115 _ (by omega))⟩
section UN
variable {X : am_X} {d n : Nat} {I : Nat → Nat → Int32} {L : Nat → Nat → Int64} {R : Nat → Nat → Option Nat} {Q : Option Value → am_M → Prop} {σ : rfP}
theorem l_undo {u : Nat} (hR : am_OR R) (hN : 116 ≤ n) (hn : n ≤ 1000) (hu : I 69 54 = nI u) (hu4 : u < 40) : ∀ (m i : Nat) (J : Nat → Nat → Int32), i + m = 68 → am_ag (fun k _ => k = 103) I J → (∀ j, J 103 j = if 0 ≤ j ∧ j < 0 + i then I 105 (68 * u + (j - (0))) else I 103 j) → (∀ I', am_ag (fun k _ => k = 103) I I' → (∀ j, I' 103 j = if 0 ≤ j ∧ j < 0 + 68 then I 105 (68 * u + (j - (0))) else I 103 j) → am_E X d mX13_undo 53 [some (.ref 69), some (.int (nI 68))] [] (n, I', L, R) Q) → am_E X d mX13_undo 21 [some (.ref 69), some (.int (nI i))] [] (n, J, L, R) Q := by
  have hl := am_lt hN
  have hvw9 := am_lw hN
  intro m
  induction m with
  | zero =>
    intro i J hi hJ hc hQ
    have hi : i = 68 := by omega
    subst hi
    have h1 : nI (68) ≤ nI (68) := nI_le (Nat.le_refl _) (by omega)
    have e1 : J 69 54 = nI u := by rw [hJ 69 54 (by omega)]; exact hu
    try simp only [Nat.reduceAdd] at h1
    simp only [am_lv_of, Nat.reduceAdd, rX13_undo_21, rX13_undo_22, rX13_undo_24, ro_69_1 hR, ro_69_3 hR, ro_69_5 hR, ro_69_6 hR, ro_69_7 hR, ro_69_8 hR, ro_69_9 hR, ro_69_21 hR, ro_69_22 hR, ro_69_23 hR, ro_69_24 hR, ro_69_25 hR, ro_69_26 hR, ro_69_27 hR, ro_69_28 hR, ro_69_29 hR, ro_69_30 hR, ro_69_31 hR, ro_69_32 hR, ro_69_33 hR, ro_69_34 hR, ro_69_35 hR, ro_69_36 hR, ro_69_38 hR, ro_69_39 hR, ro_69_40 hR, ro_69_41 hR, ro_69_42 hR, ro_69_44 hR, ro_69_45 hR, ro_69_46 hR, ro_69_48 hR, ro_69_49 hR, ro_69_51 hR, ro_69_52 hR, ro_69_55 hR, ro_69_56 hR, ro_69_57 hR, ro_69_58 hR, ro_69_59 hR, ro_69_61 hR, ro_69_62 hR, ro_69_63 hR, ro_69_64 hR, ro_69_65 hR, ro_69_66 hR, sh_69, sh_70, sh_71, sh_72, sh_73, sh_74, sh_75, sh_76, sh_77, sh_78, sh_79, sh_80, sh_81, sh_82, sh_83, sh_84, sh_85, sh_86, sh_87, sh_88, sh_89, sh_90, sh_91, sh_92, sh_93, sh_94, sh_95, sh_96, sh_97, sh_98, sh_99, sh_100, sh_101, sh_102, sh_103, sh_104, sh_105, sh_106, sh_107, sh_108, sh_109, sh_110, sh_111, sh_112, sh_113, sh_114, sh_115, hl, hvw9, Nat.reduceLT, Nat.reduceAdd, Nat.reduceMul, ne_eq, Nat.reduceEqDiff, not_false_eq_true, or_true, true_or, or_false, false_or, and_true, true_and, and_self, Nat.reduceLeDiff, am_ci, am_cr, am_cn0, Option.toList_some, Option.toList_none, List.cons_append, List.nil_append, am_s0, am_s1, am_s1r, am_s2, am_s2r, am_s3r, nI_add, am_u_ne, am_u_at, am_u_n1, am_u_n2, am_w_ne, ↓reduceIte, h1 , e1, pk_mul]
    exact hQ J hJ hc
  | succ m ih =>
    intro i J hi hJ hc hQ
    have h1 : ¬ nI (68) ≤ nI i := nI_ge (by omega) (by omega)
    try simp only [Nat.reduceAdd] at h1
    have h2 : i < 68 := by omega
    have h3 : 68 * u + i < 2720 := by omega
    have e1 : J 69 54 = nI u := by rw [hJ 69 54 (by omega)]; exact hu
    rw [rX13_undo_21]
    simp only [am_lv_of, rX13_undo_22, rX13_undo_24, rX13_undo_27, rX13_undo_28, rX13_undo_31, rX13_undo_32, rX13_undo_33, rX13_undo_36, rX13_undo_38, rX13_undo_39, rX13_undo_42, rX13_undo_43, rX13_undo_44, rX13_undo_45, rX13_undo_46, rX13_undo_47, rX13_undo_50, ro_69_1 hR, ro_69_3 hR, ro_69_5 hR, ro_69_6 hR, ro_69_7 hR, ro_69_8 hR, ro_69_9 hR, ro_69_21 hR, ro_69_22 hR, ro_69_23 hR, ro_69_24 hR, ro_69_25 hR, ro_69_26 hR, ro_69_27 hR, ro_69_28 hR, ro_69_29 hR, ro_69_30 hR, ro_69_31 hR, ro_69_32 hR, ro_69_33 hR, ro_69_34 hR, ro_69_35 hR, ro_69_36 hR, ro_69_38 hR, ro_69_39 hR, ro_69_40 hR, ro_69_41 hR, ro_69_42 hR, ro_69_44 hR, ro_69_45 hR, ro_69_46 hR, ro_69_48 hR, ro_69_49 hR, ro_69_51 hR, ro_69_52 hR, ro_69_55 hR, ro_69_56 hR, ro_69_57 hR, ro_69_58 hR, ro_69_59 hR, ro_69_61 hR, ro_69_62 hR, ro_69_63 hR, ro_69_64 hR, ro_69_65 hR, ro_69_66 hR, sh_69, sh_70, sh_71, sh_72, sh_73, sh_74, sh_75, sh_76, sh_77, sh_78, sh_79, sh_80, sh_81, sh_82, sh_83, sh_84, sh_85, sh_86, sh_87, sh_88, sh_89, sh_90, sh_91, sh_92, sh_93, sh_94, sh_95, sh_96, sh_97, sh_98, sh_99, sh_100, sh_101, sh_102, sh_103, sh_104, sh_105, sh_106, sh_107, sh_108, sh_109, sh_110, sh_111, sh_112, sh_113, sh_114, sh_115, hl, hvw9, Nat.reduceLT, Nat.reduceAdd, Nat.reduceMul, ne_eq, Nat.reduceEqDiff, not_false_eq_true, or_true, true_or, or_false, false_or, and_true, true_and, and_self, Nat.reduceLeDiff, am_ci, am_cr, am_cn0, Option.toList_some, Option.toList_none, List.cons_append, List.nil_append, am_s0, am_s1, am_s1r, am_s2, am_s2r, am_s3r, nI_add, am_u_ne, am_u_at, am_u_n1, am_u_n2, am_w_ne, ↓reduceIte, hn, h1, h2, h3 , e1, pk_mul]
    refine ih (i + 1) _ (by omega) (hJ.u rfl) (fun j => ?_) hQ
    by_cases e : j = i
    · rw [e, am_u_at, if_pos ⟨by omega, by omega⟩]
      rw [hJ 105 _ (by omega)]
      exact congrArg (I 105) (by omega)
    · rw [am_u_n2 e, hc j]
      by_cases h : 0 ≤ j ∧ j < 0 + i
      · rw [if_pos h, if_pos ⟨h.1, by omega⟩]
      · rw [if_neg h, if_neg (fun z => h ⟨z.1, by omega⟩)]
theorem l_hold {sl : Nat} (hR : am_OR R) (hN : 116 ≤ n) (hn : n ≤ 1000) (hsl : sl < 3) : ∀ (m i : Nat) (J : Nat → Nat → Int32), i + m = 68 → am_ag (fun k _ => k = 115) I J → (∀ j, J 115 j = if 68 * sl ≤ j ∧ j < 68 * sl + i then I 103 (0 + (j - (68 * sl))) else I 115 j) → (∀ I', am_ag (fun k _ => k = 115) I I' → (∀ j, I' 115 j = if 68 * sl ≤ j ∧ j < 68 * sl + 68 then I 103 (0 + (j - (68 * sl))) else I 115 j) → am_E X d mX13_hold 49 [some (.ref 69), some (.int (nI sl)), some (.int (nI 68))] [] (n, I', L, R) Q) → am_E X d mX13_hold 20 [some (.ref 69), some (.int (nI sl)), some (.int (nI i))] [] (n, J, L, R) Q := by
  have hl := am_lt hN
  have hvw9 := am_lw hN
  intro m
  induction m with
  | zero =>
    intro i J hi hJ hc hQ
    have hi : i = 68 := by omega
    subst hi
    have h1 : nI (68) ≤ nI (68) := nI_le (Nat.le_refl _) (by omega)
    skip
    try simp only [Nat.reduceAdd] at h1
    simp only [am_lv_of, Nat.reduceAdd, rX13_hold_20, rX13_hold_21, rX13_hold_23, ro_69_1 hR, ro_69_3 hR, ro_69_5 hR, ro_69_6 hR, ro_69_7 hR, ro_69_8 hR, ro_69_9 hR, ro_69_21 hR, ro_69_22 hR, ro_69_23 hR, ro_69_24 hR, ro_69_25 hR, ro_69_26 hR, ro_69_27 hR, ro_69_28 hR, ro_69_29 hR, ro_69_30 hR, ro_69_31 hR, ro_69_32 hR, ro_69_33 hR, ro_69_34 hR, ro_69_35 hR, ro_69_36 hR, ro_69_38 hR, ro_69_39 hR, ro_69_40 hR, ro_69_41 hR, ro_69_42 hR, ro_69_44 hR, ro_69_45 hR, ro_69_46 hR, ro_69_48 hR, ro_69_49 hR, ro_69_51 hR, ro_69_52 hR, ro_69_55 hR, ro_69_56 hR, ro_69_57 hR, ro_69_58 hR, ro_69_59 hR, ro_69_61 hR, ro_69_62 hR, ro_69_63 hR, ro_69_64 hR, ro_69_65 hR, ro_69_66 hR, sh_69, sh_70, sh_71, sh_72, sh_73, sh_74, sh_75, sh_76, sh_77, sh_78, sh_79, sh_80, sh_81, sh_82, sh_83, sh_84, sh_85, sh_86, sh_87, sh_88, sh_89, sh_90, sh_91, sh_92, sh_93, sh_94, sh_95, sh_96, sh_97, sh_98, sh_99, sh_100, sh_101, sh_102, sh_103, sh_104, sh_105, sh_106, sh_107, sh_108, sh_109, sh_110, sh_111, sh_112, sh_113, sh_114, sh_115, hl, hvw9, Nat.reduceLT, Nat.reduceAdd, Nat.reduceMul, ne_eq, Nat.reduceEqDiff, not_false_eq_true, or_true, true_or, or_false, false_or, and_true, true_and, and_self, Nat.reduceLeDiff, am_ci, am_cr, am_cn0, Option.toList_some, Option.toList_none, List.cons_append, List.nil_append, am_s0, am_s1, am_s1r, am_s2, am_s2r, am_s3r, nI_add, am_u_ne, am_u_at, am_u_n1, am_u_n2, am_w_ne, ↓reduceIte, h1 , pk_mul]
    exact hQ J hJ hc
  | succ m ih =>
    intro i J hi hJ hc hQ
    have h1 : ¬ nI (68) ≤ nI i := nI_ge (by omega) (by omega)
    try simp only [Nat.reduceAdd] at h1
    have h2 : 68 * sl + i < 204 := by omega
    have h3 : i < 68 := by omega
    skip
    rw [rX13_hold_20]
    simp only [am_lv_of, rX13_hold_21, rX13_hold_23, rX13_hold_26, rX13_hold_27, rX13_hold_30, rX13_hold_32, rX13_hold_33, rX13_hold_34, rX13_hold_35, rX13_hold_36, rX13_hold_37, rX13_hold_40, rX13_hold_41, rX13_hold_42, rX13_hold_43, rX13_hold_46, ro_69_1 hR, ro_69_3 hR, ro_69_5 hR, ro_69_6 hR, ro_69_7 hR, ro_69_8 hR, ro_69_9 hR, ro_69_21 hR, ro_69_22 hR, ro_69_23 hR, ro_69_24 hR, ro_69_25 hR, ro_69_26 hR, ro_69_27 hR, ro_69_28 hR, ro_69_29 hR, ro_69_30 hR, ro_69_31 hR, ro_69_32 hR, ro_69_33 hR, ro_69_34 hR, ro_69_35 hR, ro_69_36 hR, ro_69_38 hR, ro_69_39 hR, ro_69_40 hR, ro_69_41 hR, ro_69_42 hR, ro_69_44 hR, ro_69_45 hR, ro_69_46 hR, ro_69_48 hR, ro_69_49 hR, ro_69_51 hR, ro_69_52 hR, ro_69_55 hR, ro_69_56 hR, ro_69_57 hR, ro_69_58 hR, ro_69_59 hR, ro_69_61 hR, ro_69_62 hR, ro_69_63 hR, ro_69_64 hR, ro_69_65 hR, ro_69_66 hR, sh_69, sh_70, sh_71, sh_72, sh_73, sh_74, sh_75, sh_76, sh_77, sh_78, sh_79, sh_80, sh_81, sh_82, sh_83, sh_84, sh_85, sh_86, sh_87, sh_88, sh_89, sh_90, sh_91, sh_92, sh_93, sh_94, sh_95, sh_96, sh_97, sh_98, sh_99, sh_100, sh_101, sh_102, sh_103, sh_104, sh_105, sh_106, sh_107, sh_108, sh_109, sh_110, sh_111, sh_112, sh_113, sh_114, sh_115, hl, hvw9, Nat.reduceLT, Nat.reduceAdd, Nat.reduceMul, ne_eq, Nat.reduceEqDiff, not_false_eq_true, or_true, true_or, or_false, false_or, and_true, true_and, and_self, Nat.reduceLeDiff, am_ci, am_cr, am_cn0, Option.toList_some, Option.toList_none, List.cons_append, List.nil_append, am_s0, am_s1, am_s1r, am_s2, am_s2r, am_s3r, nI_add, am_u_ne, am_u_at, am_u_n1, am_u_n2, am_w_ne, ↓reduceIte, hn, h1, h2, h3 , pk_mul]
    refine ih (i + 1) _ (by omega) (hJ.u rfl) (fun j => ?_) hQ
    by_cases e : j = 68 * sl + i
    · rw [e, am_u_at, if_pos ⟨by omega, by omega⟩]
      rw [hJ 103 _ (by omega)]
      exact congrArg (I 103) (by omega)
    · rw [am_u_n2 e, hc j]
      by_cases h : 68 * sl ≤ j ∧ j < 68 * sl + i
      · rw [if_pos h, if_pos ⟨h.1, by omega⟩]
      · rw [if_neg h, if_neg (fun z => h ⟨z.1, by omega⟩)]
theorem l_restore {sl : Nat} (hR : am_OR R) (hN : 116 ≤ n) (hn : n ≤ 1000) (hsl : sl < 3) : ∀ (m i : Nat) (J : Nat → Nat → Int32), i + m = 68 → am_ag (fun k _ => k = 103) I J → (∀ j, J 103 j = if 0 ≤ j ∧ j < 0 + i then I 115 (68 * sl + (j - (0))) else I 103 j) → (∀ I', am_ag (fun k _ => k = 103) I I' → (∀ j, I' 103 j = if 0 ≤ j ∧ j < 0 + 68 then I 115 (68 * sl + (j - (0))) else I 103 j) → am_E X d mX13_restore 51 [some (.ref 69), some (.int (nI sl)), some (.int (nI 68))] [] (n, I', L, R) Q) → am_E X d mX13_restore 22 [some (.ref 69), some (.int (nI sl)), some (.int (nI i))] [] (n, J, L, R) Q := by
  have hl := am_lt hN
  have hvw9 := am_lw hN
  intro m
  induction m with
  | zero =>
    intro i J hi hJ hc hQ
    have hi : i = 68 := by omega
    subst hi
    have h1 : nI (68) ≤ nI (68) := nI_le (Nat.le_refl _) (by omega)
    skip
    try simp only [Nat.reduceAdd] at h1
    simp only [am_lv_of, Nat.reduceAdd, rX13_restore_22, rX13_restore_23, rX13_restore_25, ro_69_1 hR, ro_69_3 hR, ro_69_5 hR, ro_69_6 hR, ro_69_7 hR, ro_69_8 hR, ro_69_9 hR, ro_69_21 hR, ro_69_22 hR, ro_69_23 hR, ro_69_24 hR, ro_69_25 hR, ro_69_26 hR, ro_69_27 hR, ro_69_28 hR, ro_69_29 hR, ro_69_30 hR, ro_69_31 hR, ro_69_32 hR, ro_69_33 hR, ro_69_34 hR, ro_69_35 hR, ro_69_36 hR, ro_69_38 hR, ro_69_39 hR, ro_69_40 hR, ro_69_41 hR, ro_69_42 hR, ro_69_44 hR, ro_69_45 hR, ro_69_46 hR, ro_69_48 hR, ro_69_49 hR, ro_69_51 hR, ro_69_52 hR, ro_69_55 hR, ro_69_56 hR, ro_69_57 hR, ro_69_58 hR, ro_69_59 hR, ro_69_61 hR, ro_69_62 hR, ro_69_63 hR, ro_69_64 hR, ro_69_65 hR, ro_69_66 hR, sh_69, sh_70, sh_71, sh_72, sh_73, sh_74, sh_75, sh_76, sh_77, sh_78, sh_79, sh_80, sh_81, sh_82, sh_83, sh_84, sh_85, sh_86, sh_87, sh_88, sh_89, sh_90, sh_91, sh_92, sh_93, sh_94, sh_95, sh_96, sh_97, sh_98, sh_99, sh_100, sh_101, sh_102, sh_103, sh_104, sh_105, sh_106, sh_107, sh_108, sh_109, sh_110, sh_111, sh_112, sh_113, sh_114, sh_115, hl, hvw9, Nat.reduceLT, Nat.reduceAdd, Nat.reduceMul, ne_eq, Nat.reduceEqDiff, not_false_eq_true, or_true, true_or, or_false, false_or, and_true, true_and, and_self, Nat.reduceLeDiff, am_ci, am_cr, am_cn0, Option.toList_some, Option.toList_none, List.cons_append, List.nil_append, am_s0, am_s1, am_s1r, am_s2, am_s2r, am_s3r, nI_add, am_u_ne, am_u_at, am_u_n1, am_u_n2, am_w_ne, ↓reduceIte, h1 , pk_mul]
    exact hQ J hJ hc
  | succ m ih =>
    intro i J hi hJ hc hQ
    have h1 : ¬ nI (68) ≤ nI i := nI_ge (by omega) (by omega)
    try simp only [Nat.reduceAdd] at h1
    have h2 : i < 68 := by omega
    have h3 : 68 * sl + i < 204 := by omega
    skip
    rw [rX13_restore_22]
    simp only [am_lv_of, rX13_restore_23, rX13_restore_25, rX13_restore_28, rX13_restore_29, rX13_restore_32, rX13_restore_33, rX13_restore_34, rX13_restore_37, rX13_restore_39, rX13_restore_40, rX13_restore_41, rX13_restore_42, rX13_restore_43, rX13_restore_44, rX13_restore_45, rX13_restore_48, ro_69_1 hR, ro_69_3 hR, ro_69_5 hR, ro_69_6 hR, ro_69_7 hR, ro_69_8 hR, ro_69_9 hR, ro_69_21 hR, ro_69_22 hR, ro_69_23 hR, ro_69_24 hR, ro_69_25 hR, ro_69_26 hR, ro_69_27 hR, ro_69_28 hR, ro_69_29 hR, ro_69_30 hR, ro_69_31 hR, ro_69_32 hR, ro_69_33 hR, ro_69_34 hR, ro_69_35 hR, ro_69_36 hR, ro_69_38 hR, ro_69_39 hR, ro_69_40 hR, ro_69_41 hR, ro_69_42 hR, ro_69_44 hR, ro_69_45 hR, ro_69_46 hR, ro_69_48 hR, ro_69_49 hR, ro_69_51 hR, ro_69_52 hR, ro_69_55 hR, ro_69_56 hR, ro_69_57 hR, ro_69_58 hR, ro_69_59 hR, ro_69_61 hR, ro_69_62 hR, ro_69_63 hR, ro_69_64 hR, ro_69_65 hR, ro_69_66 hR, sh_69, sh_70, sh_71, sh_72, sh_73, sh_74, sh_75, sh_76, sh_77, sh_78, sh_79, sh_80, sh_81, sh_82, sh_83, sh_84, sh_85, sh_86, sh_87, sh_88, sh_89, sh_90, sh_91, sh_92, sh_93, sh_94, sh_95, sh_96, sh_97, sh_98, sh_99, sh_100, sh_101, sh_102, sh_103, sh_104, sh_105, sh_106, sh_107, sh_108, sh_109, sh_110, sh_111, sh_112, sh_113, sh_114, sh_115, hl, hvw9, Nat.reduceLT, Nat.reduceAdd, Nat.reduceMul, ne_eq, Nat.reduceEqDiff, not_false_eq_true, or_true, true_or, or_false, false_or, and_true, true_and, and_self, Nat.reduceLeDiff, am_ci, am_cr, am_cn0, Option.toList_some, Option.toList_none, List.cons_append, List.nil_append, am_s0, am_s1, am_s1r, am_s2, am_s2r, am_s3r, nI_add, am_u_ne, am_u_at, am_u_n1, am_u_n2, am_w_ne, ↓reduceIte, hn, h1, h2, h3 , pk_mul]
    refine ih (i + 1) _ (by omega) (hJ.u rfl) (fun j => ?_) hQ
    by_cases e : j = i
    · rw [e, am_u_at, if_pos ⟨by omega, by omega⟩]
      rw [hJ 115 _ (by omega)]
      exact congrArg (I 115) (by omega)
    · rw [am_u_n2 e, hc j]
      by_cases h : 0 ≤ j ∧ j < 0 + i
      · rw [if_pos h, if_pos ⟨h.1, by omega⟩]
      · rw [if_neg h, if_neg (fun z => h ⟨z.1, by omega⟩)]
theorem s_undo (H : REL (n, I, L, R)) : sim X (d + 30) mX12_undo mX13_undo [some (.ref 0)] [some (.ref 69), none] (n, I, L, R) := by
  obtain ⟨σ, H⟩ := H
  have hR := H.1.1
  have hN := H.1.N
  have hn := H.1.n
  have hl := am_lt hN
  have hvw9 := am_lw hN
  obtain ⟨S1, S2, S3, S4, S5, S6, S7, ws, S8, S9⟩ := id (show relS I σ from H.2.2.1)
  obtain ⟨o1, o2, o3, o4⟩ := id S3
  obtain ⟨b1, b2, b3, b4, bz, b5, b6, b7⟩ := id S2
  obtain ⟨f1, f2, f3, f4, f5, f6, f7, f8, f9, f10⟩ := id S1
  obtain ⟨w, K, cw, cp, c16, c15, c17, c18, c19, c20, c28, c29, cK, c30, cK12, cpl, cpr, cs, cv⟩ := id (show crs I 34 (p_P σ) (p_S σ) (I 103) from H.2.2.2.2.1)
  unfold sim
  obtain ⟨u, nx, u1, u2, u3, u4, u5, u6⟩ : relU I R (p_P σ) (p_S σ) := H.2.2.2.2.2.1
  have e1 : nI (nx + 40) - nI 1 = nI (nx + 39) := by rw [pk_sub (by omega)]; exact congrArg nI (by omega)
  have em : nI (nx + 39) - nI (nx + 39) / nI 40 * nI 40 = nI ((nx + 39) % 40) := pk_rem (by omega) (by omega) (by omega)
  have z40 : ¬ nI 40 = 0 := by decide
  by_cases h0 : u = 0
  · have z : nI u = 0 := by rw [h0]; rfl
    simp only [am_lv_of, rX12_undo_0, rX12_undo_1, rX12_undo_4, rX12_undo_5, rX12_undo_8, rX12_undo_11, rX12_undo_11_0, rX12_undo_11_1, rX6_takeBack_0, rX6_takeBack_1, rX6_takeBack_4, rX6_takeBack_6, rX6_takeBack_7, rX6_takeBack_8, rX6_takeBack_9, rX6_takeBack_11, rX6_takeBack_12, rX6_takeBack_13, rX6_takeBack_14, rX6_takeBack_17, rX6_takeBack_20, rX6_takeBack_21, rX6_takeBack_24, rX6_takeBack_25, rX6_takeBack_28, rX6_takeBack_29, rX6_takeBack_30, rX6_takeBack_33, rX6_takeBack_34, rX6_takeBack_34_0, rX6_takeBack_34_1, ro_0_0 hR, ro_0_3 hR, ro_0_4 hR, ro_0_5 hR, ro_0_6 hR, ro_0_7 hR, ro_0_8 hR, ro_0_9 hR, ro_0_10 hR, ro_0_11 hR, ro_2_6 hR, ro_2_7 hR, ro_2_8 hR, ro_2_9 hR, ro_2_10 hR, ro_2_11 hR, ro_2_12 hR, ro_2_13 hR, ro_9_0 hR, ro_9_1 hR, ro_9_2 hR, ro_14_0 hR, ro_14_1 hR, ro_14_2 hR, ro_14_7 hR, ro_15_0 hR, ro_15_1 hR, ro_15_2 hR, ro_15_3 hR, ro_20_6 hR, ro_20_7 hR, ro_20_8 hR, ro_20_9 hR, ro_20_10 hR, ro_20_11 hR, ro_20_12 hR, ro_20_13 hR, ro_27_0 hR, ro_27_1 hR, ro_27_2 hR, ro_32_0 hR, ro_32_1 hR, ro_34_10 hR, ro_34_11 hR, ro_34_12 hR, ro_34_13 hR, ro_39_0 hR, ro_39_1 hR, ro_42_0 hR, ro_42_1 hR, ro_47_0 hR, ro_47_1 hR, ro_47_2 hR, ro_47_3 hR, ro_55_0 hR, ro_55_1 hR, ro_55_2 hR, ro_57_0 hR, ro_57_1 hR, ro_57_2 hR, ro_57_3 hR, ro_57_4 hR, ro_57_5 hR, ro_57_8 hR, sh_0, sh_1, sh_2, sh_3, sh_4, sh_5, sh_6, sh_7, sh_8, sh_9, sh_10, sh_11, sh_12, sh_13, sh_14, sh_15, sh_16, sh_17, sh_18, sh_19, sh_20, sh_21, sh_22, sh_23, sh_24, sh_25, sh_26, sh_27, sh_28, sh_29, sh_30, sh_31, sh_32, sh_33, sh_34, sh_35, sh_36, sh_37, sh_38, sh_39, sh_40, sh_41, sh_42, sh_43, sh_44, sh_45, sh_46, sh_47, sh_48, sh_49, sh_50, sh_51, sh_52, sh_53, sh_54, sh_55, sh_56, sh_57, sh_58, sh_59, sh_60, sh_61, sh_62, sh_63, sh_64, sh_65, sh_66, sh_67, sh_68, hl, hvw9, Nat.reduceLT, Nat.reduceAdd, Nat.reduceMul, ne_eq, Nat.reduceEqDiff, not_false_eq_true, or_true, true_or, or_false, false_or, and_true, true_and, and_self, Nat.reduceLeDiff, am_ci, am_cr, am_cn0, Option.toList_some, Option.toList_none, List.cons_append, List.nil_append, am_s0, am_s1, am_s1r, am_s2, am_s2r, am_s3r, nI_add, am_u_ne, am_u_at, am_u_n1, am_u_n2, am_w_ne, ↓reduceIte, u3, u5, e1, em, z40, z]
    simp only [am_lv_of, rX13_undo_0, rX13_undo_1, rX13_undo_4, rX13_undo_7, rX13_undo_8, rX13_undo_8_0, rX13_undo_8_1, ro_69_1 hR, ro_69_3 hR, ro_69_5 hR, ro_69_6 hR, ro_69_7 hR, ro_69_8 hR, ro_69_9 hR, ro_69_21 hR, ro_69_22 hR, ro_69_23 hR, ro_69_24 hR, ro_69_25 hR, ro_69_26 hR, ro_69_27 hR, ro_69_28 hR, ro_69_29 hR, ro_69_30 hR, ro_69_31 hR, ro_69_32 hR, ro_69_33 hR, ro_69_34 hR, ro_69_35 hR, ro_69_36 hR, ro_69_38 hR, ro_69_39 hR, ro_69_40 hR, ro_69_41 hR, ro_69_42 hR, ro_69_44 hR, ro_69_45 hR, ro_69_46 hR, ro_69_48 hR, ro_69_49 hR, ro_69_51 hR, ro_69_52 hR, ro_69_55 hR, ro_69_56 hR, ro_69_57 hR, ro_69_58 hR, ro_69_59 hR, ro_69_61 hR, ro_69_62 hR, ro_69_63 hR, ro_69_64 hR, ro_69_65 hR, ro_69_66 hR, sh_69, sh_70, sh_71, sh_72, sh_73, sh_74, sh_75, sh_76, sh_77, sh_78, sh_79, sh_80, sh_81, sh_82, sh_83, sh_84, sh_85, sh_86, sh_87, sh_88, sh_89, sh_90, sh_91, sh_92, sh_93, sh_94, sh_95, sh_96, sh_97, sh_98, sh_99, sh_100, sh_101, sh_102, sh_103, sh_104, sh_105, sh_106, sh_107, sh_108, sh_109, sh_110, sh_111, sh_112, sh_113, sh_114, sh_115, hl, hvw9, Nat.reduceLT, Nat.reduceAdd, Nat.reduceMul, ne_eq, Nat.reduceEqDiff, not_false_eq_true, or_true, true_or, or_false, false_or, and_true, true_and, and_self, Nat.reduceLeDiff, am_ci, am_cr, am_cn0, Option.toList_some, Option.toList_none, List.cons_append, List.nil_append, am_s0, am_s1, am_s1r, am_s2, am_s2r, am_s3r, nI_add, am_u_ne, am_u_at, am_u_n1, am_u_n2, am_w_ne, ↓reduceIte, u4, z, not_true_eq_false]
    exact ⟨σ, H⟩
  · have z : ¬ nI u = 0 := nI_ne0 (by omega) (by omega)
    obtain ⟨k, k1, k2⟩ := u6 (u - 1) (by omega)
    have ei : (nx + 40 - u + (u - 1)) % 40 = (nx + 39) % 40 := by omega
    rw [ei] at k1
    have hlx : (nx + 39) % 40 < 40 := by omega
    have hk := H.1.2.2.1 _ k hlx k1
    have k116 := hk.1
    have er : va_rf (R 40 ((nx + 39) % 40)) = .ref k := by rw [k1]; rfl
    have z1 : ¬ nI ((nx + 39) % 40) < 0 := nI_pos (by omega)
    have es : nI u - nI 1 = nI (u - 1) := pk_sub (by omega)
    simp only [am_lv_of, rX12_undo_0, rX12_undo_1, rX12_undo_4, rX12_undo_5, rX12_undo_8, rX6_takeBack_0, rX6_takeBack_1, rX6_takeBack_4, rX6_takeBack_6, rX6_takeBack_7, rX6_takeBack_8, rX6_takeBack_9, rX6_takeBack_11, rX6_takeBack_12, rX6_takeBack_13, rX6_takeBack_14, rX6_takeBack_17, rX6_takeBack_20, rX6_takeBack_21, rX6_takeBack_24, rX6_takeBack_25, rX6_takeBack_28, rX6_takeBack_29, rX6_takeBack_30, rX6_takeBack_33, rX6_takeBack_34, rX6_takeBack_34_0, rX6_takeBack_34_1, rX6_takeBack_35, rX6_takeBack_36, rX6_takeBack_37, rX6_takeBack_40, rX6_takeBack_41, rX6_takeBack_42, ro_0_0 hR, ro_0_3 hR, ro_0_4 hR, ro_0_5 hR, ro_0_6 hR, ro_0_7 hR, ro_0_8 hR, ro_0_9 hR, ro_0_10 hR, ro_0_11 hR, ro_2_6 hR, ro_2_7 hR, ro_2_8 hR, ro_2_9 hR, ro_2_10 hR, ro_2_11 hR, ro_2_12 hR, ro_2_13 hR, ro_9_0 hR, ro_9_1 hR, ro_9_2 hR, ro_14_0 hR, ro_14_1 hR, ro_14_2 hR, ro_14_7 hR, ro_15_0 hR, ro_15_1 hR, ro_15_2 hR, ro_15_3 hR, ro_20_6 hR, ro_20_7 hR, ro_20_8 hR, ro_20_9 hR, ro_20_10 hR, ro_20_11 hR, ro_20_12 hR, ro_20_13 hR, ro_27_0 hR, ro_27_1 hR, ro_27_2 hR, ro_32_0 hR, ro_32_1 hR, ro_34_10 hR, ro_34_11 hR, ro_34_12 hR, ro_34_13 hR, ro_39_0 hR, ro_39_1 hR, ro_42_0 hR, ro_42_1 hR, ro_47_0 hR, ro_47_1 hR, ro_47_2 hR, ro_47_3 hR, ro_55_0 hR, ro_55_1 hR, ro_55_2 hR, ro_57_0 hR, ro_57_1 hR, ro_57_2 hR, ro_57_3 hR, ro_57_4 hR, ro_57_5 hR, ro_57_8 hR, sh_0, sh_1, sh_2, sh_3, sh_4, sh_5, sh_6, sh_7, sh_8, sh_9, sh_10, sh_11, sh_12, sh_13, sh_14, sh_15, sh_16, sh_17, sh_18, sh_19, sh_20, sh_21, sh_22, sh_23, sh_24, sh_25, sh_26, sh_27, sh_28, sh_29, sh_30, sh_31, sh_32, sh_33, sh_34, sh_35, sh_36, sh_37, sh_38, sh_39, sh_40, sh_41, sh_42, sh_43, sh_44, sh_45, sh_46, sh_47, sh_48, sh_49, sh_50, sh_51, sh_52, sh_53, sh_54, sh_55, sh_56, sh_57, sh_58, sh_59, sh_60, sh_61, sh_62, sh_63, sh_64, sh_65, sh_66, sh_67, sh_68, hl, hvw9, Nat.reduceLT, Nat.reduceAdd, Nat.reduceMul, ne_eq, Nat.reduceEqDiff, not_false_eq_true, or_true, true_or, or_false, false_or, and_true, true_and, and_self, Nat.reduceLeDiff, am_ci, am_cr, am_cn0, Option.toList_some, Option.toList_none, List.cons_append, List.nil_append, am_s0, am_s1, am_s1r, am_s2, am_s2r, am_s3r, nI_add, am_u_ne, am_u_at, am_u_n1, am_u_n2, am_w_ne, ↓reduceIte, u3, u5, e1, em, z40, z, z1, hlx, er]
    refine c_copyFrom hn (isCr_34 hR hN) (isCr_co H.1 hk) (by omega) (fun I1 g1 g2 => ?_)
    have q4 : I1 39 4 = nI u := by rw [g1 39 4 (by unfold coP; omega)]; exact u3
    have q54 : I1 69 54 = nI u := by rw [g1 69 54 (by unfold coP; omega)]; exact u4
    simp only [am_lv_of, Option.toList_none, List.nil_append, rX6_takeBack_45, rX6_takeBack_46, rX6_takeBack_47, rX6_takeBack_50, rX6_takeBack_51, rX6_takeBack_52, rX6_takeBack_55, rX6_takeBack_56, rX6_takeBack_57, rX6_takeBack_60, rX6_takeBack_61, rX6_takeBack_61_0, rX6_takeBack_61_1, rX12_undo_11, rX12_undo_11_0, rX12_undo_11_1, ro_0_0 hR, ro_0_3 hR, ro_0_4 hR, ro_0_5 hR, ro_0_6 hR, ro_0_7 hR, ro_0_8 hR, ro_0_9 hR, ro_0_10 hR, ro_0_11 hR, ro_2_6 hR, ro_2_7 hR, ro_2_8 hR, ro_2_9 hR, ro_2_10 hR, ro_2_11 hR, ro_2_12 hR, ro_2_13 hR, ro_9_0 hR, ro_9_1 hR, ro_9_2 hR, ro_14_0 hR, ro_14_1 hR, ro_14_2 hR, ro_14_7 hR, ro_15_0 hR, ro_15_1 hR, ro_15_2 hR, ro_15_3 hR, ro_20_6 hR, ro_20_7 hR, ro_20_8 hR, ro_20_9 hR, ro_20_10 hR, ro_20_11 hR, ro_20_12 hR, ro_20_13 hR, ro_27_0 hR, ro_27_1 hR, ro_27_2 hR, ro_32_0 hR, ro_32_1 hR, ro_34_10 hR, ro_34_11 hR, ro_34_12 hR, ro_34_13 hR, ro_39_0 hR, ro_39_1 hR, ro_42_0 hR, ro_42_1 hR, ro_47_0 hR, ro_47_1 hR, ro_47_2 hR, ro_47_3 hR, ro_55_0 hR, ro_55_1 hR, ro_55_2 hR, ro_57_0 hR, ro_57_1 hR, ro_57_2 hR, ro_57_3 hR, ro_57_4 hR, ro_57_5 hR, ro_57_8 hR, sh_0, sh_1, sh_2, sh_3, sh_4, sh_5, sh_6, sh_7, sh_8, sh_9, sh_10, sh_11, sh_12, sh_13, sh_14, sh_15, sh_16, sh_17, sh_18, sh_19, sh_20, sh_21, sh_22, sh_23, sh_24, sh_25, sh_26, sh_27, sh_28, sh_29, sh_30, sh_31, sh_32, sh_33, sh_34, sh_35, sh_36, sh_37, sh_38, sh_39, sh_40, sh_41, sh_42, sh_43, sh_44, sh_45, sh_46, sh_47, sh_48, sh_49, sh_50, sh_51, sh_52, sh_53, sh_54, sh_55, sh_56, sh_57, sh_58, sh_59, sh_60, sh_61, sh_62, sh_63, sh_64, sh_65, sh_66, sh_67, sh_68, hl, hvw9, Nat.reduceLT, Nat.reduceAdd, Nat.reduceMul, ne_eq, Nat.reduceEqDiff, not_false_eq_true, or_true, true_or, or_false, false_or, and_true, true_and, and_self, Nat.reduceLeDiff, am_ci, am_cr, am_cn0, Option.toList_some, Option.toList_none, List.cons_append, List.nil_append, am_s0, am_s1, am_s1r, am_s2, am_s2r, am_s3r, nI_add, am_u_ne, am_u_at, am_u_n1, am_u_n2, am_w_ne, hn, q4, es]
    simp only [am_lv_of, rX13_undo_0, rX13_undo_1, rX13_undo_4, rX13_undo_7, rX13_undo_8, rX13_undo_8_0, rX13_undo_8_1, rX13_undo_9, rX13_undo_10, rX13_undo_11, rX13_undo_14, rX13_undo_15, rX13_undo_16, rX13_undo_19, rX13_undo_20, ro_69_1 hR, ro_69_3 hR, ro_69_5 hR, ro_69_6 hR, ro_69_7 hR, ro_69_8 hR, ro_69_9 hR, ro_69_21 hR, ro_69_22 hR, ro_69_23 hR, ro_69_24 hR, ro_69_25 hR, ro_69_26 hR, ro_69_27 hR, ro_69_28 hR, ro_69_29 hR, ro_69_30 hR, ro_69_31 hR, ro_69_32 hR, ro_69_33 hR, ro_69_34 hR, ro_69_35 hR, ro_69_36 hR, ro_69_38 hR, ro_69_39 hR, ro_69_40 hR, ro_69_41 hR, ro_69_42 hR, ro_69_44 hR, ro_69_45 hR, ro_69_46 hR, ro_69_48 hR, ro_69_49 hR, ro_69_51 hR, ro_69_52 hR, ro_69_55 hR, ro_69_56 hR, ro_69_57 hR, ro_69_58 hR, ro_69_59 hR, ro_69_61 hR, ro_69_62 hR, ro_69_63 hR, ro_69_64 hR, ro_69_65 hR, ro_69_66 hR, sh_69, sh_70, sh_71, sh_72, sh_73, sh_74, sh_75, sh_76, sh_77, sh_78, sh_79, sh_80, sh_81, sh_82, sh_83, sh_84, sh_85, sh_86, sh_87, sh_88, sh_89, sh_90, sh_91, sh_92, sh_93, sh_94, sh_95, sh_96, sh_97, sh_98, sh_99, sh_100, sh_101, sh_102, sh_103, sh_104, sh_105, sh_106, sh_107, sh_108, sh_109, sh_110, sh_111, sh_112, sh_113, sh_114, sh_115, hl, hvw9, Nat.reduceLT, Nat.reduceAdd, Nat.reduceMul, ne_eq, Nat.reduceEqDiff, not_false_eq_true, or_true, true_or, or_false, false_or, and_true, true_and, and_self, Nat.reduceLeDiff, am_ci, am_cr, am_cn0, Option.toList_some, Option.toList_none, List.cons_append, List.nil_append, am_s0, am_s1, am_s1r, am_s2, am_s2r, am_s3r, nI_add, am_u_ne, am_u_at, am_u_n1, am_u_n2, am_w_ne, ↓reduceIte, hn, q54, z, not_false_eq_true, es]
    refine l_undo (u := u - 1) hR hN hn am_u_at (by omega) 68 0 _ (by omega) am_ag.refl (fun j => by rw [if_neg (by omega)]) (fun I4 g3 g4 => ?_)
    simp only [am_lv_of, rX13_undo_53, rX13_undo_54, rX13_undo_54_0, rX13_undo_54_1, hl, hvw9, Nat.reduceLT, Nat.reduceAdd, Nat.reduceMul, ne_eq, Nat.reduceEqDiff, not_false_eq_true, or_true, true_or, or_false, false_or, and_true, true_and, and_self, Nat.reduceLeDiff, am_ci, am_cr, am_cn0, Option.toList_some, Option.toList_none, List.cons_append, List.nil_append, am_s0, am_s1, am_s1r, am_s2, am_s2r, am_s3r, nI_add, am_u_ne, am_u_at, am_u_n1, am_u_n2, am_w_ne]
    have ga : ∀ k j, ¬ (34 ≤ k ∧ k < 39) → ¬ (k = 39 ∧ (j = 3 ∨ j = 4)) → ¬ (k = 69 ∧ j = 54) → k ≠ 103 → I4 k j = I k j := fun k j a1 a2 a3 a4 => by
      rw [g3 k j a4, am_u_nn (by omega), am_u_nn (by omega), am_u_nn (by omega), g1 k j (by unfold coP; omega)]
    refine ⟨σ, H.1, H.2.1, relS.fr H.2.2.1 (fun k j hk => ga k j (by omega) (by omega) (by omega) (by omega)), relT.fr H.2.2.2.1 (fun k j hk => ga k j (by omega) (by omega) (by omega) (by omega)), ?_, ?_, relH.fr2 H.2.2.2.2.2.2.1 H.1 (fun k j hk => ga k j (by omega) (by omega) (by omega) (by omega)), relJ.fr H.2.2.2.2.2.2.2 (fun k j hk => ga k j (by omega) (by omega) (by omega) (by omega))⟩
    · refine (k2.cpy g2 (r' := I4 103) (fun j hj => ?_)).mv (fun k j x1 x2 => ?_) (fun _ _ => rfl)
      · rw [g4 j, if_pos ⟨by omega, by omega⟩, am_u_n1 (by omega), am_u_n1 (by omega), am_u_n1 (by omega), g1 105 _ (by unfold coP; omega)]
        exact congrArg (I 105) (by omega)
      · show I4 k j = I1 k j
        rw [g3 k j (by omega), am_u_n1 (by omega), am_u_n1 (by omega), am_u_n1 (by omega)]
    · refine ⟨u - 1, (nx + 39) % 40, by omega, hlx, ?_, ?_, ?_, fun i hi => ?_⟩
      · show I4 39 4 = _
        rw [g3 39 4 (by omega), am_u_n1 (by omega), am_u_at]
      · show I4 69 54 = _
        rw [g3 69 54 (by omega), am_u_at]
      · show I4 39 3 = _
        rw [g3 39 3 (by omega), am_u_n1 (by omega), am_u_n2 (by omega), am_u_at]
      · obtain ⟨k', a1, a2⟩ := u6 i (by omega)
        have hk' := H.1.2.2.1 _ k' (by omega) a1
        have k116' := hk'.1
        have ei : ((nx + 39) % 40 + 40 - (u - 1) + i) % 40 = (nx + 40 - u + i) % 40 := by omega
        exact ⟨k', by show R 40 _ = _; rw [ei]; exact a1, a2.mv (fun k j x1 x2 => ga k j (by omega) (by omega) (by omega) (by omega)) (fun j hj => ga 105 _ (by omega) (by omega) (by omega) (by omega))⟩
theorem hb_or : ∀ h, h < 8 → ∀ s, s < 3 → nI h ||| nI 1 <<< (nI s &&& 31) = nI (h ||| 2 ^ s) ∧ h ||| 2 ^ s < 8 ∧ (∀ t, t < 3 → (h ||| 2 ^ s) / 2 ^ t % 2 = if t = s then 1 else h / 2 ^ t % 2) ∧ ((nI h).toUInt32 >>> ((nI s).toUInt32 &&& Int32.toUInt32 31)).toInt32 &&& nI 1 = nI (h / 2 ^ s % 2) := by decide +kernel
theorem l_putInSlot {s h c : Nat} (hR : am_OR R) (hN : 116 ≤ n) (hn : n ≤ 1000) (hc : isCr n R c) (hc2 : 116 ≤ c) (hs : s < 3) (hh : I 39 2 = nI h) (hh8 : h < 8) (hr : R 41 s = some c) (hQ : ∀ I', cpy I I' 34 c → (∀ k j, ¬ coP c k j → ¬ (k = 39 ∧ j = 2) → I' k j = I k j) → I' 39 2 = nI (h ||| 2 ^ s) → Q (some (.int (nI 1))) (n, I', L, R)) : am_E X (d + 1) mX6_putInSlot 37 [some (.ref 39), some (.int (nI s)), some (.ref 34)] [] (n, I, L, R) Q := by
  have hl := am_lt hN
  have hvw9 := am_lw hN
  have er : va_rf (R 41 s) = .ref c := by rw [hr]; rfl
  have lc : c < n := by have := hc.1; omega
  have sc : (am_SV c).1 = 3 := by rw [hc.2.1]
  simp only [am_lv_of, rX6_putInSlot_37, rX6_putInSlot_38, rX6_putInSlot_41, rX6_putInSlot_42, rX6_putInSlot_43, rX6_putInSlot_44, ro_0_0 hR, ro_0_3 hR, ro_0_4 hR, ro_0_5 hR, ro_0_6 hR, ro_0_7 hR, ro_0_8 hR, ro_0_9 hR, ro_0_10 hR, ro_0_11 hR, ro_2_6 hR, ro_2_7 hR, ro_2_8 hR, ro_2_9 hR, ro_2_10 hR, ro_2_11 hR, ro_2_12 hR, ro_2_13 hR, ro_9_0 hR, ro_9_1 hR, ro_9_2 hR, ro_14_0 hR, ro_14_1 hR, ro_14_2 hR, ro_14_7 hR, ro_15_0 hR, ro_15_1 hR, ro_15_2 hR, ro_15_3 hR, ro_20_6 hR, ro_20_7 hR, ro_20_8 hR, ro_20_9 hR, ro_20_10 hR, ro_20_11 hR, ro_20_12 hR, ro_20_13 hR, ro_27_0 hR, ro_27_1 hR, ro_27_2 hR, ro_32_0 hR, ro_32_1 hR, ro_34_10 hR, ro_34_11 hR, ro_34_12 hR, ro_34_13 hR, ro_39_0 hR, ro_39_1 hR, ro_42_0 hR, ro_42_1 hR, ro_47_0 hR, ro_47_1 hR, ro_47_2 hR, ro_47_3 hR, ro_55_0 hR, ro_55_1 hR, ro_55_2 hR, ro_57_0 hR, ro_57_1 hR, ro_57_2 hR, ro_57_3 hR, ro_57_4 hR, ro_57_5 hR, ro_57_8 hR, sh_0, sh_1, sh_2, sh_3, sh_4, sh_5, sh_6, sh_7, sh_8, sh_9, sh_10, sh_11, sh_12, sh_13, sh_14, sh_15, sh_16, sh_17, sh_18, sh_19, sh_20, sh_21, sh_22, sh_23, sh_24, sh_25, sh_26, sh_27, sh_28, sh_29, sh_30, sh_31, sh_32, sh_33, sh_34, sh_35, sh_36, sh_37, sh_38, sh_39, sh_40, sh_41, sh_42, sh_43, sh_44, sh_45, sh_46, sh_47, sh_48, sh_49, sh_50, sh_51, sh_52, sh_53, sh_54, sh_55, sh_56, sh_57, sh_58, sh_59, sh_60, sh_61, sh_62, sh_63, sh_64, sh_65, sh_66, sh_67, sh_68, hl, hvw9, Nat.reduceLT, Nat.reduceAdd, Nat.reduceMul, ne_eq, Nat.reduceEqDiff, not_false_eq_true, or_true, true_or, or_false, false_or, and_true, true_and, and_self, Nat.reduceLeDiff, am_ci, am_cr, am_cn0, Option.toList_some, Option.toList_none, List.cons_append, List.nil_append, am_s0, am_s1, am_s1r, am_s2, am_s2r, am_s3r, nI_add, am_u_ne, am_u_at, am_u_n1, am_u_n2, am_w_ne, hs, er, lc, sc]
  refine c_copyFrom hn hc (isCr_34 hR hN) (by omega) (fun I1 g1 g2 => ?_)
  have e2 : I1 39 2 = nI h := by rw [g1 39 2 (by unfold coP; omega)]; exact hh
  have eo := (hb_or h hh8 s hs).1
  simp only [am_lv_of, Option.toList_none, List.nil_append, rX6_putInSlot_47, rX6_putInSlot_48, rX6_putInSlot_49, rX6_putInSlot_52, rX6_putInSlot_53, rX6_putInSlot_54, rX6_putInSlot_55, rX6_putInSlot_56, rX6_putInSlot_59, rX6_putInSlot_60, rX6_putInSlot_60_0, rX6_putInSlot_60_1, ro_0_0 hR, ro_0_3 hR, ro_0_4 hR, ro_0_5 hR, ro_0_6 hR, ro_0_7 hR, ro_0_8 hR, ro_0_9 hR, ro_0_10 hR, ro_0_11 hR, ro_2_6 hR, ro_2_7 hR, ro_2_8 hR, ro_2_9 hR, ro_2_10 hR, ro_2_11 hR, ro_2_12 hR, ro_2_13 hR, ro_9_0 hR, ro_9_1 hR, ro_9_2 hR, ro_14_0 hR, ro_14_1 hR, ro_14_2 hR, ro_14_7 hR, ro_15_0 hR, ro_15_1 hR, ro_15_2 hR, ro_15_3 hR, ro_20_6 hR, ro_20_7 hR, ro_20_8 hR, ro_20_9 hR, ro_20_10 hR, ro_20_11 hR, ro_20_12 hR, ro_20_13 hR, ro_27_0 hR, ro_27_1 hR, ro_27_2 hR, ro_32_0 hR, ro_32_1 hR, ro_34_10 hR, ro_34_11 hR, ro_34_12 hR, ro_34_13 hR, ro_39_0 hR, ro_39_1 hR, ro_42_0 hR, ro_42_1 hR, ro_47_0 hR, ro_47_1 hR, ro_47_2 hR, ro_47_3 hR, ro_55_0 hR, ro_55_1 hR, ro_55_2 hR, ro_57_0 hR, ro_57_1 hR, ro_57_2 hR, ro_57_3 hR, ro_57_4 hR, ro_57_5 hR, ro_57_8 hR, sh_0, sh_1, sh_2, sh_3, sh_4, sh_5, sh_6, sh_7, sh_8, sh_9, sh_10, sh_11, sh_12, sh_13, sh_14, sh_15, sh_16, sh_17, sh_18, sh_19, sh_20, sh_21, sh_22, sh_23, sh_24, sh_25, sh_26, sh_27, sh_28, sh_29, sh_30, sh_31, sh_32, sh_33, sh_34, sh_35, sh_36, sh_37, sh_38, sh_39, sh_40, sh_41, sh_42, sh_43, sh_44, sh_45, sh_46, sh_47, sh_48, sh_49, sh_50, sh_51, sh_52, sh_53, sh_54, sh_55, sh_56, sh_57, sh_58, sh_59, sh_60, sh_61, sh_62, sh_63, sh_64, sh_65, sh_66, sh_67, sh_68, hl, hvw9, Nat.reduceLT, Nat.reduceAdd, Nat.reduceMul, ne_eq, Nat.reduceEqDiff, not_false_eq_true, or_true, true_or, or_false, false_or, and_true, true_and, and_self, Nat.reduceLeDiff, am_ci, am_cr, am_cn0, Option.toList_some, Option.toList_none, List.cons_append, List.nil_append, am_s0, am_s1, am_s1r, am_s2, am_s2r, am_s3r, nI_add, am_u_ne, am_u_at, am_u_n1, am_u_n2, am_w_ne, hn, e2, eo]
  refine hQ _ ?_ (fun k j h1 h2 => ?_) am_u_at
  · obtain ⟨x1, x2, x3, x4, x5⟩ := g2
    refine ⟨fun j hj => ?_, fun j hj => ?_, fun j hj => ?_, fun j hj => ?_, fun j hj => ?_⟩
    · rw [am_u_n1 (by omega)]; exact x1 j hj
    · rw [am_u_n1 (by omega)]; exact x2 j hj
    · rw [am_u_n1 (by omega)]; exact x3 j hj
    · rw [am_u_n1 (by omega)]; exact x4 j hj
    · rw [am_u_n1 (by omega)]; exact x5 j hj
  · rw [am_u_nn h2]; exact g1 k j h1
theorem c_putInSlot {s h : Nat} (H : relR n R) (hs : s < 3) (hh : I 39 2 = nI h) (hh8 : h < 8) (hQ : ∀ n' I' L' R' c, n ≤ n' → relR n' R' → isCo n' c → R' 41 s = some c → (∀ j, j ≠ s → R' 41 j = R 41 j) → (∀ j, R' 40 j = R 40 j) → cpy I I' 34 c → (∀ k j, k < n → ¬ coP c k j → ¬ (k = 39 ∧ j = 2) → I' k j = I k j) → I' 39 2 = nI (h ||| 2 ^ s) → (∀ k j, k < n → L' k j = L k j) → Q (some (.int (nI 1))) (n', I', L', R')) : am_E X (d + 1) mX6_putInSlot 0 [some (.ref 39), some (.int (nI s)), some (.ref 34)] [] (n, I, L, R) Q := by
  have hR := H.1
  have hN := H.N
  have hn := H.n
  have hl := am_lt hN
  have hvw9 := am_lw hN
  have z0 : ¬ nI s < 0 := nI_pos (by omega)
  have z1 : nI s < nI 3 := nI_lt hs (by omega)
  simp only [am_lv_of, rX6_putInSlot_0, rX6_putInSlot_1, rX6_putInSlot_4, rX6_putInSlot_5, rX6_putInSlot_6, rX6_putInSlot_9, rX6_putInSlot_10, rX6_putInSlot_13, rX6_putInSlot_14, rX6_putInSlot_14_0, rX6_putInSlot_14_1, rX6_putInSlot_15, rX6_putInSlot_16, rX6_putInSlot_19, rX6_putInSlot_20, ro_0_0 hR, ro_0_3 hR, ro_0_4 hR, ro_0_5 hR, ro_0_6 hR, ro_0_7 hR, ro_0_8 hR, ro_0_9 hR, ro_0_10 hR, ro_0_11 hR, ro_2_6 hR, ro_2_7 hR, ro_2_8 hR, ro_2_9 hR, ro_2_10 hR, ro_2_11 hR, ro_2_12 hR, ro_2_13 hR, ro_9_0 hR, ro_9_1 hR, ro_9_2 hR, ro_14_0 hR, ro_14_1 hR, ro_14_2 hR, ro_14_7 hR, ro_15_0 hR, ro_15_1 hR, ro_15_2 hR, ro_15_3 hR, ro_20_6 hR, ro_20_7 hR, ro_20_8 hR, ro_20_9 hR, ro_20_10 hR, ro_20_11 hR, ro_20_12 hR, ro_20_13 hR, ro_27_0 hR, ro_27_1 hR, ro_27_2 hR, ro_32_0 hR, ro_32_1 hR, ro_34_10 hR, ro_34_11 hR, ro_34_12 hR, ro_34_13 hR, ro_39_0 hR, ro_39_1 hR, ro_42_0 hR, ro_42_1 hR, ro_47_0 hR, ro_47_1 hR, ro_47_2 hR, ro_47_3 hR, ro_55_0 hR, ro_55_1 hR, ro_55_2 hR, ro_57_0 hR, ro_57_1 hR, ro_57_2 hR, ro_57_3 hR, ro_57_4 hR, ro_57_5 hR, ro_57_8 hR, sh_0, sh_1, sh_2, sh_3, sh_4, sh_5, sh_6, sh_7, sh_8, sh_9, sh_10, sh_11, sh_12, sh_13, sh_14, sh_15, sh_16, sh_17, sh_18, sh_19, sh_20, sh_21, sh_22, sh_23, sh_24, sh_25, sh_26, sh_27, sh_28, sh_29, sh_30, sh_31, sh_32, sh_33, sh_34, sh_35, sh_36, sh_37, sh_38, sh_39, sh_40, sh_41, sh_42, sh_43, sh_44, sh_45, sh_46, sh_47, sh_48, sh_49, sh_50, sh_51, sh_52, sh_53, sh_54, sh_55, sh_56, sh_57, sh_58, sh_59, sh_60, sh_61, sh_62, sh_63, sh_64, sh_65, sh_66, sh_67, sh_68, hl, hvw9, Nat.reduceLT, Nat.reduceAdd, Nat.reduceMul, ne_eq, Nat.reduceEqDiff, not_false_eq_true, or_true, true_or, or_false, false_or, and_true, true_and, and_self, Nat.reduceLeDiff, am_ci, am_cr, am_cn0, Option.toList_some, Option.toList_none, List.cons_append, List.nil_append, am_s0, am_s1, am_s1r, am_s2, am_s2r, am_s3r, nI_add, am_u_ne, am_u_at, am_u_n1, am_u_n2, am_w_ne, ↓reduceIte, z0, z1, hs]
  cases hr : R 41 s with
  | some c =>
    have hc := H.2.2.2.1 s c hs hr
    have er : va_rf (some c) = .ref c := rfl
    simp only [am_lv_of, er, rX6_putInSlot_21]
    exact l_putInSlot hR hN hn (isCr_co H hc) hc.1 hs hh hh8 hr (fun I' g1 g2 g3 => hQ n I' L R c (Nat.le_refl _) H hc hr (fun _ _ => rfl) (fun _ => rfl) g1 (fun k j _ h1 h2 => g2 k j h1 h2) g3 (fun _ _ _ => rfl))
  | none =>
    have er : va_rf none = .null := rfl
    have hcn : n + 5 ≤ 1000 := by have := cnt_le R; have := H.2.1; omega
    have h5 : (n - 116) % 5 = 0 := by have := H.2.1; omega
    have sn : (am_SV n).1 = 3 := by rw [(sh_co n hN h5 hcn).1]
    have n1 : n + 1 ≤ 1000 := by omega
    have l39 : 39 < n := hl 39 (by omega)
    simp only [am_lv_of, er, rX6_putInSlot_21n, rX6_putInSlot_24, rX6_putInSlot_25, rX6_putInSlot_28, rX6_putInSlot_29, rX6_putInSlot_32, ro_0_0 hR, ro_0_3 hR, ro_0_4 hR, ro_0_5 hR, ro_0_6 hR, ro_0_7 hR, ro_0_8 hR, ro_0_9 hR, ro_0_10 hR, ro_0_11 hR, ro_2_6 hR, ro_2_7 hR, ro_2_8 hR, ro_2_9 hR, ro_2_10 hR, ro_2_11 hR, ro_2_12 hR, ro_2_13 hR, ro_9_0 hR, ro_9_1 hR, ro_9_2 hR, ro_14_0 hR, ro_14_1 hR, ro_14_2 hR, ro_14_7 hR, ro_15_0 hR, ro_15_1 hR, ro_15_2 hR, ro_15_3 hR, ro_20_6 hR, ro_20_7 hR, ro_20_8 hR, ro_20_9 hR, ro_20_10 hR, ro_20_11 hR, ro_20_12 hR, ro_20_13 hR, ro_27_0 hR, ro_27_1 hR, ro_27_2 hR, ro_32_0 hR, ro_32_1 hR, ro_34_10 hR, ro_34_11 hR, ro_34_12 hR, ro_34_13 hR, ro_39_0 hR, ro_39_1 hR, ro_42_0 hR, ro_42_1 hR, ro_47_0 hR, ro_47_1 hR, ro_47_2 hR, ro_47_3 hR, ro_55_0 hR, ro_55_1 hR, ro_55_2 hR, ro_57_0 hR, ro_57_1 hR, ro_57_2 hR, ro_57_3 hR, ro_57_4 hR, ro_57_5 hR, ro_57_8 hR, sh_0, sh_1, sh_2, sh_3, sh_4, sh_5, sh_6, sh_7, sh_8, sh_9, sh_10, sh_11, sh_12, sh_13, sh_14, sh_15, sh_16, sh_17, sh_18, sh_19, sh_20, sh_21, sh_22, sh_23, sh_24, sh_25, sh_26, sh_27, sh_28, sh_29, sh_30, sh_31, sh_32, sh_33, sh_34, sh_35, sh_36, sh_37, sh_38, sh_39, sh_40, sh_41, sh_42, sh_43, sh_44, sh_45, sh_46, sh_47, sh_48, sh_49, sh_50, sh_51, sh_52, sh_53, sh_54, sh_55, sh_56, sh_57, sh_58, sh_59, sh_60, sh_61, sh_62, sh_63, sh_64, sh_65, sh_66, sh_67, sh_68, hl, hvw9, Nat.reduceLT, Nat.reduceAdd, Nat.reduceMul, ne_eq, Nat.reduceEqDiff, not_false_eq_true, or_true, true_or, or_false, false_or, and_true, true_and, and_self, Nat.reduceLeDiff, am_ci, am_cr, am_cn0, Option.toList_some, Option.toList_none, List.cons_append, List.nil_append, am_s0, am_s1, am_s1r, am_s2, am_s2r, am_s3r, nI_add, am_u_ne, am_u_at, am_u_n1, am_u_n2, am_w_ne, am_make_eq, sn, n1, (show 17 ≤ n by omega)]
    rw [rX6_putInSlot_33 (Nat.le_of_ble_eq_true rfl)]
    refine c_X3init hcn hN h5 (fun I' L' R' f1 f2 f3 r10 r11 r12 r13 => ?_)
    have s41 : (am_SV 41).1 = 24 := by rw [sh_41]
    have s41' : s < (am_SV 41).2 := by rw [sh_41]; exact hs
    simp only [Option.toList_none, List.nil_append]
    rw [rX6_putInSlot_36 hcn (am_lv_of (by omega)) s41 s41' (am_lv_of (by omega)) sn]
    have g0 : ∀ k j, k < n → I' k j = I k j := fun k j hk => by rw [f1 k j hk]; unfold am_w; rw [if_neg (by omega)]
    have gL : ∀ k j, k < n → L' k j = L k j := fun k j hk => by rw [f2 k j hk]; unfold am_w; rw [if_neg (by omega)]
    have gR : ∀ k j, k < n → R' k j = R k j := fun k j hk => by rw [f3 k j hk]; unfold am_w; rw [if_neg (by omega)]
    have HR : relR (n + 5) (am_u R' 41 s (some n)) := H.hang (t := 41) (i := s) (Or.inr ⟨rfl, hs⟩) hr am_u_at (fun k j hk h => by
        rw [am_u_nn h]; exact gR k j hk) (by rw [am_u_n1 (by omega)]; exact r10) (by rw [am_u_n1 (by omega)]; exact r11) (by rw [am_u_n1 (by omega)]; exact r12) (by rw [am_u_n1 (by omega)]; exact r13)
    have hco : isCo (n + 5) n := ⟨hN, h5, by omega⟩
    refine l_putInSlot HR.1 HR.N HR.n (isCr_co HR hco) hN hs (by rw [g0 39 2 l39]; exact hh) hh8 am_u_at (fun I'' g1 g2 g3 => hQ (n + 5) I'' L' _ n (by omega) HR hco am_u_at (fun j hj => by rw [am_u_n2 hj]; exact gR 41 j (by omega)) (fun j => by rw [am_u_n1 (by omega)]; exact gR 40 j (by omega)) ?_ (fun k j hk h1 h2 => by rw [g2 k j h1 h2]; exact g0 k j hk) g3 gL)
    obtain ⟨x1, x2, x3, x4, x5⟩ := g1
    exact ⟨fun j hj => by rw [x1 j hj]; exact g0 _ _ (by omega), fun j hj => by rw [x2 j hj]; exact g0 _ _ (by omega), fun j hj => by rw [x3 j hj]; exact g0 _ _ (by omega), fun j hj => by rw [x4 j hj]; exact g0 _ _ (by omega), fun j hj => by rw [x5 j hj]; exact g0 _ _ (by omega)⟩
theorem zn1 : vp_nar .boolean (nI 1) = nI 1 := by decide
theorem s_hold {a : Int32} (H : REL (n, I, L, R)) : sim X (d + 30) mX12_hold mX13_hold [some (.ref 0), some (.int a)] [some (.ref 69), some (.int a), none] (n, I, L, R) := by
  obtain ⟨σ, H⟩ := H
  have hR := H.1.1
  have hN := H.1.N
  have hn := H.1.n
  have hl := am_lt hN
  have hvw9 := am_lw hN
  obtain ⟨S1, S2, S3, S4, S5, S6, S7, ws, S8, S9⟩ := id (show relS I σ from H.2.2.1)
  obtain ⟨o1, o2, o3, o4⟩ := id S3
  obtain ⟨b1, b2, b3, b4, bz, b5, b6, b7⟩ := id S2
  obtain ⟨f1, f2, f3, f4, f5, f6, f7, f8, f9, f10⟩ := id S1
  obtain ⟨w, K, cw, cp, c16, c15, c17, c18, c19, c20, c28, c29, cK, c30, cK12, cpl, cpr, cs, cv⟩ := id (show crs I 34 (p_P σ) (p_S σ) (I 103) from H.2.2.2.2.1)
  unfold sim
  by_cases hin : (decide (nI 0 ≤ a) && decide (a ≤ nI 2)) = true
  · obtain ⟨s, -, hs2, rfl⟩ := (in01 (by omega) (by omega)).mp hin
    have hs : s < 3 := by omega
    obtain ⟨h, hh8, hh, hhs⟩ : relH I R (p_P σ) (p_S σ) := H.2.2.2.2.2.2.1
    obtain ⟨-, ho2, ho3, -⟩ := hb_or h hh8 s hs
    simp only [am_lv_of, rX12_hold_0, rX12_hold_1, rX12_hold_4, rX12_hold_5, rX12_hold_6, rX12_hold_9, ro_0_0 hR, ro_0_3 hR, ro_0_4 hR, ro_0_5 hR, ro_0_6 hR, ro_0_7 hR, ro_0_8 hR, ro_0_9 hR, ro_0_10 hR, ro_0_11 hR, ro_2_6 hR, ro_2_7 hR, ro_2_8 hR, ro_2_9 hR, ro_2_10 hR, ro_2_11 hR, ro_2_12 hR, ro_2_13 hR, ro_9_0 hR, ro_9_1 hR, ro_9_2 hR, ro_14_0 hR, ro_14_1 hR, ro_14_2 hR, ro_14_7 hR, ro_15_0 hR, ro_15_1 hR, ro_15_2 hR, ro_15_3 hR, ro_20_6 hR, ro_20_7 hR, ro_20_8 hR, ro_20_9 hR, ro_20_10 hR, ro_20_11 hR, ro_20_12 hR, ro_20_13 hR, ro_27_0 hR, ro_27_1 hR, ro_27_2 hR, ro_32_0 hR, ro_32_1 hR, ro_34_10 hR, ro_34_11 hR, ro_34_12 hR, ro_34_13 hR, ro_39_0 hR, ro_39_1 hR, ro_42_0 hR, ro_42_1 hR, ro_47_0 hR, ro_47_1 hR, ro_47_2 hR, ro_47_3 hR, ro_55_0 hR, ro_55_1 hR, ro_55_2 hR, ro_57_0 hR, ro_57_1 hR, ro_57_2 hR, ro_57_3 hR, ro_57_4 hR, ro_57_5 hR, ro_57_8 hR, sh_0, sh_1, sh_2, sh_3, sh_4, sh_5, sh_6, sh_7, sh_8, sh_9, sh_10, sh_11, sh_12, sh_13, sh_14, sh_15, sh_16, sh_17, sh_18, sh_19, sh_20, sh_21, sh_22, sh_23, sh_24, sh_25, sh_26, sh_27, sh_28, sh_29, sh_30, sh_31, sh_32, sh_33, sh_34, sh_35, sh_36, sh_37, sh_38, sh_39, sh_40, sh_41, sh_42, sh_43, sh_44, sh_45, sh_46, sh_47, sh_48, sh_49, sh_50, sh_51, sh_52, sh_53, sh_54, sh_55, sh_56, sh_57, sh_58, sh_59, sh_60, sh_61, sh_62, sh_63, sh_64, sh_65, sh_66, sh_67, sh_68, hl, hvw9, Nat.reduceLT, Nat.reduceAdd, Nat.reduceMul, ne_eq, Nat.reduceEqDiff, not_false_eq_true, or_true, true_or, or_false, false_or, and_true, true_and, and_self, Nat.reduceLeDiff, am_ci, am_cr, am_cn0, Option.toList_some, Option.toList_none, List.cons_append, List.nil_append, am_s0, am_s1, am_s1r, am_s2, am_s2r, am_s3r, nI_add, am_u_ne, am_u_at, am_u_n1, am_u_n2, am_w_ne]
    refine c_putInSlot H.1 hs hh hh8 (fun n1 I1 L1 R1 c m1 m2 m3 m4 m5 m6 m7 m8 m9 m10 => ?_)
    have hR1 := m2.1
    have hN1 := m2.N
    have hn1 := m2.n
    have hl1 := am_lt hN1
    have hvw91 := am_lw hN1
    have c116 := m3.1
    have low1 : ∀ k j, k < 116 → ¬ (k = 39 ∧ j = 2) → I1 k j = I k j := fun k j k1 k2 => m8 k j (by omega) (by unfold coP; omega) k2
    clear hl hR hn
    have hl := hl1
    have hvw9 := hvw91
    have hR := hR1
    have hn := hn1
    simp only [am_lv_of, rX12_hold_12, rX12_hold_12_0, rX12_hold_12_1, hl, hvw9, Nat.reduceLT, Nat.reduceAdd, Nat.reduceMul, ne_eq, Nat.reduceEqDiff, not_false_eq_true, or_true, true_or, or_false, false_or, and_true, true_and, and_self, Nat.reduceLeDiff, am_ci, am_cr, am_cn0, Option.toList_some, Option.toList_none, List.cons_append, List.nil_append, am_s0, am_s1, am_s1r, am_s2, am_s2r, am_s3r, nI_add, am_u_ne, am_u_at, am_u_n1, am_u_n2, am_w_ne]
    simp only [am_lv_of, rX13_hold_0, rX13_hold_1, rX13_hold_2, rX13_hold_3, rX13_hold_6, rX13_hold_9, rX13_hold_10, rX13_hold_10_0, rX13_hold_10_1, rX13_hold_11, rX13_hold_12, rX13_hold_15, rX13_hold_16, rX13_hold_18, rX13_hold_19, rX13_hold_17z, ro_69_1 hR, ro_69_3 hR, ro_69_5 hR, ro_69_6 hR, ro_69_7 hR, ro_69_8 hR, ro_69_9 hR, ro_69_21 hR, ro_69_22 hR, ro_69_23 hR, ro_69_24 hR, ro_69_25 hR, ro_69_26 hR, ro_69_27 hR, ro_69_28 hR, ro_69_29 hR, ro_69_30 hR, ro_69_31 hR, ro_69_32 hR, ro_69_33 hR, ro_69_34 hR, ro_69_35 hR, ro_69_36 hR, ro_69_38 hR, ro_69_39 hR, ro_69_40 hR, ro_69_41 hR, ro_69_42 hR, ro_69_44 hR, ro_69_45 hR, ro_69_46 hR, ro_69_48 hR, ro_69_49 hR, ro_69_51 hR, ro_69_52 hR, ro_69_55 hR, ro_69_56 hR, ro_69_57 hR, ro_69_58 hR, ro_69_59 hR, ro_69_61 hR, ro_69_62 hR, ro_69_63 hR, ro_69_64 hR, ro_69_65 hR, ro_69_66 hR, sh_69, sh_70, sh_71, sh_72, sh_73, sh_74, sh_75, sh_76, sh_77, sh_78, sh_79, sh_80, sh_81, sh_82, sh_83, sh_84, sh_85, sh_86, sh_87, sh_88, sh_89, sh_90, sh_91, sh_92, sh_93, sh_94, sh_95, sh_96, sh_97, sh_98, sh_99, sh_100, sh_101, sh_102, sh_103, sh_104, sh_105, sh_106, sh_107, sh_108, sh_109, sh_110, sh_111, sh_112, sh_113, sh_114, sh_115, hl, hvw9, Nat.reduceLT, Nat.reduceAdd, Nat.reduceMul, ne_eq, Nat.reduceEqDiff, not_false_eq_true, or_true, true_or, or_false, false_or, and_true, true_and, and_self, Nat.reduceLeDiff, am_ci, am_cr, am_cn0, Option.toList_some, Option.toList_none, List.cons_append, List.nil_append, am_s0, am_s1, am_s1r, am_s2, am_s2r, am_s3r, nI_add, am_u_ne, am_u_at, am_u_n1, am_u_n2, am_w_ne, ↓reduceIte, c_in, hin, b_t, not_false_eq_true, hn, hs, zn1]
    refine l_hold (sl := s) hR hN1 hn hs 68 0 _ (by omega) am_ag.refl (fun j => by rw [if_neg (by omega)]) (fun I4 g3 g4 => ?_)
    simp only [am_lv_of, rX13_hold_49, rX13_hold_50, rX13_hold_50_0, rX13_hold_50_1, hl, hvw9, Nat.reduceLT, Nat.reduceAdd, Nat.reduceMul, ne_eq, Nat.reduceEqDiff, not_false_eq_true, or_true, true_or, or_false, false_or, and_true, true_and, and_self, Nat.reduceLeDiff, am_ci, am_cr, am_cn0, Option.toList_some, Option.toList_none, List.cons_append, List.nil_append, am_s0, am_s1, am_s1r, am_s2, am_s2r, am_s3r, nI_add, am_u_ne, am_u_at, am_u_n1, am_u_n2, am_w_ne]
    have ga : ∀ k j, k < 116 → ¬ (k = 39 ∧ j = 2) → k ≠ 114 → k ≠ 115 → I4 k j = I k j := fun k j a1 a2 a3 a4 => by
      rw [g3 k j a4, am_u_n1 a3]; exact low1 k j a1 a2
    have gc : ∀ k j, 116 ≤ k → I4 k j = I1 k j := fun k j hk => by rw [g3 k j (by omega), am_u_n1 (by omega)]
    have gx : ∀ b, isCo n b → b ≠ c → ∀ k j, b ≤ k → k < b + 5 → I4 k j = I k j := fun b hb hbc k j x1 x2 => by
      have b1 := hb.1
      have b2 := hb.2.2
      rw [gc k j (by omega)]
      exact m8 k j (by omega) (co_sep ⟨hb.1, hb.2.1, by omega⟩ m3 hbc k j x1 x2) (by omega)
    refine ⟨σ, m2, ?_, relS.fr H.2.2.1 (fun k j hk => ga k j (by omega) (by omega) (by omega) (by omega)), relT.fr H.2.2.2.1 (fun k j hk => ga k j (by omega) (by omega) (by omega) (by omega)), H.co.mv (fun k j x1 x2 => ga k j (by omega) (by omega) (by omega) (by omega)) (fun j hj => ga 103 j (by omega) (by omega) (by omega) (by omega)), ?_, ?_, relJ.fr H.2.2.2.2.2.2.2 (fun k j hk => ga k j (by omega) (by omega) (by omega) (by omega))⟩
    · intro k hk
      show L1 16 k = _ ∧ L1 76 k = _
      rw [m10 16 k (by omega), m10 76 k (by omega)]
      exact H.2.1 k hk
    · obtain ⟨u, nx, u1, u2, u3, u4, u5, u6⟩ : relU I R (p_P σ) (p_S σ) := H.2.2.2.2.2.1
      refine ⟨u, nx, u1, u2, by show I4 39 4 = _; rw [ga 39 4 (by omega) (by omega) (by omega) (by omega)]; exact u3, by show I4 69 54 = _; rw [ga 69 54 (by omega) (by omega) (by omega) (by omega)]; exact u4, by show I4 39 3 = _; rw [ga 39 3 (by omega) (by omega) (by omega) (by omega)]; exact u5, fun i hi => ?_⟩
      obtain ⟨k', a1, a2⟩ := u6 i hi
      have hk' := H.1.2.2.1 _ k' (by omega) a1
      have hkc : k' ≠ c := fun z => by
        subst z
        exact m2.2.2.2.2.2.2.1 _ s k' (by omega) hs ((m6 _).trans a1) m4
      exact ⟨k', (m6 _).trans a1, a2.mv (gx k' hk' hkc) (fun j hj => ga 105 _ (by omega) (by omega) (by omega) (by omega))⟩
    · refine ⟨h ||| 2 ^ s, ho2, by show I4 39 2 = _; rw [g3 39 2 (by omega), am_u_n1 (by omega)]; exact m9, fun t ht => ⟨?_, fun hb => ?_⟩⟩
      · show I4 114 t = _
        rw [g3 114 t (by omega), ho3 t ht]
        by_cases e : t = s
        · subst e; rw [am_u_at, if_pos rfl]
        · rw [am_u_n2 e, if_neg e, low1 114 t (by omega) (by omega)]; exact (hhs t ht).1
      · by_cases e : t = s
        · subst e
          refine ⟨c, m4, (H.co.cpy m7 (r' := fun j => I4 115 (68 * t + j)) (fun j hj => ?_)).mv (fun k j x1 x2 => gc k j (by omega)) (fun _ _ => rfl)⟩
          show I4 115 (68 * t + j) = I 103 j
          rw [g4, if_pos ⟨by omega, by omega⟩, am_u_n1 (by omega), low1 103 _ (by omega) (by omega)]
          exact congrArg (I 103) (by omega)
        · rw [ho3 t ht, if_neg e] at hb
          obtain ⟨k', a1, a2⟩ := (hhs t ht).2 hb
          have hk' := H.1.2.2.2.1 t k' ht a1
          have hkc : k' ≠ c := fun z => by
            subst z
            exact e (m2.2.2.2.2.2.1 t s k' ht hs ((m5 t e).trans a1) m4)
          refine ⟨k', (m5 t e).trans a1, a2.mv (gx k' hk' hkc) (fun j hj => ?_)⟩
          show I4 115 (68 * t + j) = I 115 (68 * t + j)
          rw [g4, if_neg (by omega), am_u_n1 (by omega), low1 115 _ (by omega) (by omega)]
  · have hf : (decide (nI 0 ≤ a) && decide (a ≤ nI 2)) = false := by simpa using hin
    have e : am_E X (d + 30) mX13_hold 0 [some (.ref 69), some (.int a), none] [] (n, I, L, R) (fun v' M2 => some (.int (nI 0)) = v' ∧ REL M2) := by
      simp only [am_lv_of, rX13_hold_0, rX13_hold_1, rX13_hold_2, rX13_hold_3, rX13_hold_6, rX13_hold_9, rX13_hold_10, rX13_hold_10_0, rX13_hold_10_1, ro_69_1 hR, ro_69_3 hR, ro_69_5 hR, ro_69_6 hR, ro_69_7 hR, ro_69_8 hR, ro_69_9 hR, ro_69_21 hR, ro_69_22 hR, ro_69_23 hR, ro_69_24 hR, ro_69_25 hR, ro_69_26 hR, ro_69_27 hR, ro_69_28 hR, ro_69_29 hR, ro_69_30 hR, ro_69_31 hR, ro_69_32 hR, ro_69_33 hR, ro_69_34 hR, ro_69_35 hR, ro_69_36 hR, ro_69_38 hR, ro_69_39 hR, ro_69_40 hR, ro_69_41 hR, ro_69_42 hR, ro_69_44 hR, ro_69_45 hR, ro_69_46 hR, ro_69_48 hR, ro_69_49 hR, ro_69_51 hR, ro_69_52 hR, ro_69_55 hR, ro_69_56 hR, ro_69_57 hR, ro_69_58 hR, ro_69_59 hR, ro_69_61 hR, ro_69_62 hR, ro_69_63 hR, ro_69_64 hR, ro_69_65 hR, ro_69_66 hR, sh_69, sh_70, sh_71, sh_72, sh_73, sh_74, sh_75, sh_76, sh_77, sh_78, sh_79, sh_80, sh_81, sh_82, sh_83, sh_84, sh_85, sh_86, sh_87, sh_88, sh_89, sh_90, sh_91, sh_92, sh_93, sh_94, sh_95, sh_96, sh_97, sh_98, sh_99, sh_100, sh_101, sh_102, sh_103, sh_104, sh_105, sh_106, sh_107, sh_108, sh_109, sh_110, sh_111, sh_112, sh_113, sh_114, sh_115, hl, hvw9, Nat.reduceLT, Nat.reduceAdd, Nat.reduceMul, ne_eq, Nat.reduceEqDiff, not_false_eq_true, or_true, true_or, or_false, false_or, and_true, true_and, and_self, Nat.reduceLeDiff, am_ci, am_cr, am_cn0, Option.toList_some, Option.toList_none, List.cons_append, List.nil_append, am_s0, am_s1, am_s1r, am_s2, am_s2r, am_s3r, nI_add, am_u_ne, am_u_at, am_u_n1, am_u_n2, am_w_ne, ↓reduceIte, c_in, hf, b_f, not_true_eq_false]
      exact ⟨σ, H⟩
    by_cases g1 : a < 0
    · simp only [am_lv_of, rX12_hold_0, rX12_hold_1, rX12_hold_4, rX12_hold_5, rX12_hold_6, rX12_hold_9, rX12_hold_12, rX12_hold_12_0, rX12_hold_12_1, rX6_putInSlot_0, rX6_putInSlot_1, rX6_putInSlot_4, rX6_putInSlot_5, rX6_putInSlot_6, rX6_putInSlot_9, rX6_putInSlot_10, rX6_putInSlot_13, rX6_putInSlot_14, rX6_putInSlot_14_0, rX6_putInSlot_14_1, ro_0_0 hR, ro_0_3 hR, ro_0_4 hR, ro_0_5 hR, ro_0_6 hR, ro_0_7 hR, ro_0_8 hR, ro_0_9 hR, ro_0_10 hR, ro_0_11 hR, ro_2_6 hR, ro_2_7 hR, ro_2_8 hR, ro_2_9 hR, ro_2_10 hR, ro_2_11 hR, ro_2_12 hR, ro_2_13 hR, ro_9_0 hR, ro_9_1 hR, ro_9_2 hR, ro_14_0 hR, ro_14_1 hR, ro_14_2 hR, ro_14_7 hR, ro_15_0 hR, ro_15_1 hR, ro_15_2 hR, ro_15_3 hR, ro_20_6 hR, ro_20_7 hR, ro_20_8 hR, ro_20_9 hR, ro_20_10 hR, ro_20_11 hR, ro_20_12 hR, ro_20_13 hR, ro_27_0 hR, ro_27_1 hR, ro_27_2 hR, ro_32_0 hR, ro_32_1 hR, ro_34_10 hR, ro_34_11 hR, ro_34_12 hR, ro_34_13 hR, ro_39_0 hR, ro_39_1 hR, ro_42_0 hR, ro_42_1 hR, ro_47_0 hR, ro_47_1 hR, ro_47_2 hR, ro_47_3 hR, ro_55_0 hR, ro_55_1 hR, ro_55_2 hR, ro_57_0 hR, ro_57_1 hR, ro_57_2 hR, ro_57_3 hR, ro_57_4 hR, ro_57_5 hR, ro_57_8 hR, sh_0, sh_1, sh_2, sh_3, sh_4, sh_5, sh_6, sh_7, sh_8, sh_9, sh_10, sh_11, sh_12, sh_13, sh_14, sh_15, sh_16, sh_17, sh_18, sh_19, sh_20, sh_21, sh_22, sh_23, sh_24, sh_25, sh_26, sh_27, sh_28, sh_29, sh_30, sh_31, sh_32, sh_33, sh_34, sh_35, sh_36, sh_37, sh_38, sh_39, sh_40, sh_41, sh_42, sh_43, sh_44, sh_45, sh_46, sh_47, sh_48, sh_49, sh_50, sh_51, sh_52, sh_53, sh_54, sh_55, sh_56, sh_57, sh_58, sh_59, sh_60, sh_61, sh_62, sh_63, sh_64, sh_65, sh_66, sh_67, sh_68, hl, hvw9, Nat.reduceLT, Nat.reduceAdd, Nat.reduceMul, ne_eq, Nat.reduceEqDiff, not_false_eq_true, or_true, true_or, or_false, false_or, and_true, true_and, and_self, Nat.reduceLeDiff, am_ci, am_cr, am_cn0, Option.toList_some, Option.toList_none, List.cons_append, List.nil_append, am_s0, am_s1, am_s1r, am_s2, am_s2r, am_s3r, nI_add, am_u_ne, am_u_at, am_u_n1, am_u_n2, am_w_ne, ↓reduceIte, g1]
      exact e
    · have g2 : ¬ a < nI 3 := fun z => hin ((in0_iff (by omega)).mpr ⟨g1, by
        obtain ⟨j, hj, rfl⟩ := nI_of g1
        exact nI_le (by have := (nI_ltI hj (by omega)).mp z; omega) (by omega)⟩)
      simp only [am_lv_of, rX12_hold_0, rX12_hold_1, rX12_hold_4, rX12_hold_5, rX12_hold_6, rX12_hold_9, rX12_hold_12, rX12_hold_12_0, rX12_hold_12_1, rX6_putInSlot_0, rX6_putInSlot_1, rX6_putInSlot_4, rX6_putInSlot_5, rX6_putInSlot_6, rX6_putInSlot_9, rX6_putInSlot_10, rX6_putInSlot_13, rX6_putInSlot_14, rX6_putInSlot_14_0, rX6_putInSlot_14_1, ro_0_0 hR, ro_0_3 hR, ro_0_4 hR, ro_0_5 hR, ro_0_6 hR, ro_0_7 hR, ro_0_8 hR, ro_0_9 hR, ro_0_10 hR, ro_0_11 hR, ro_2_6 hR, ro_2_7 hR, ro_2_8 hR, ro_2_9 hR, ro_2_10 hR, ro_2_11 hR, ro_2_12 hR, ro_2_13 hR, ro_9_0 hR, ro_9_1 hR, ro_9_2 hR, ro_14_0 hR, ro_14_1 hR, ro_14_2 hR, ro_14_7 hR, ro_15_0 hR, ro_15_1 hR, ro_15_2 hR, ro_15_3 hR, ro_20_6 hR, ro_20_7 hR, ro_20_8 hR, ro_20_9 hR, ro_20_10 hR, ro_20_11 hR, ro_20_12 hR, ro_20_13 hR, ro_27_0 hR, ro_27_1 hR, ro_27_2 hR, ro_32_0 hR, ro_32_1 hR, ro_34_10 hR, ro_34_11 hR, ro_34_12 hR, ro_34_13 hR, ro_39_0 hR, ro_39_1 hR, ro_42_0 hR, ro_42_1 hR, ro_47_0 hR, ro_47_1 hR, ro_47_2 hR, ro_47_3 hR, ro_55_0 hR, ro_55_1 hR, ro_55_2 hR, ro_57_0 hR, ro_57_1 hR, ro_57_2 hR, ro_57_3 hR, ro_57_4 hR, ro_57_5 hR, ro_57_8 hR, sh_0, sh_1, sh_2, sh_3, sh_4, sh_5, sh_6, sh_7, sh_8, sh_9, sh_10, sh_11, sh_12, sh_13, sh_14, sh_15, sh_16, sh_17, sh_18, sh_19, sh_20, sh_21, sh_22, sh_23, sh_24, sh_25, sh_26, sh_27, sh_28, sh_29, sh_30, sh_31, sh_32, sh_33, sh_34, sh_35, sh_36, sh_37, sh_38, sh_39, sh_40, sh_41, sh_42, sh_43, sh_44, sh_45, sh_46, sh_47, sh_48, sh_49, sh_50, sh_51, sh_52, sh_53, sh_54, sh_55, sh_56, sh_57, sh_58, sh_59, sh_60, sh_61, sh_62, sh_63, sh_64, sh_65, sh_66, sh_67, sh_68, hl, hvw9, Nat.reduceLT, Nat.reduceAdd, Nat.reduceMul, ne_eq, Nat.reduceEqDiff, not_false_eq_true, or_true, true_or, or_false, false_or, and_true, true_and, and_self, Nat.reduceLeDiff, am_ci, am_cr, am_cn0, Option.toList_some, Option.toList_none, List.cons_append, List.nil_append, am_s0, am_s1, am_s1r, am_s2, am_s2r, am_s3r, nI_add, am_u_ne, am_u_at, am_u_n1, am_u_n2, am_w_ne, ↓reduceIte, g1, g2]
      exact e
theorem s_restore {a : Int32} (H : REL (n, I, L, R)) : sim X (d + 30) mX12_restore mX13_restore [some (.ref 0), some (.int a)] [some (.ref 69), some (.int a), none] (n, I, L, R) := by
  obtain ⟨σ, H⟩ := H
  have hR := H.1.1
  have hN := H.1.N
  have hn := H.1.n
  have hl := am_lt hN
  have hvw9 := am_lw hN
  obtain ⟨S1, S2, S3, S4, S5, S6, S7, ws, S8, S9⟩ := id (show relS I σ from H.2.2.1)
  obtain ⟨o1, o2, o3, o4⟩ := id S3
  obtain ⟨b1, b2, b3, b4, bz, b5, b6, b7⟩ := id S2
  obtain ⟨f1, f2, f3, f4, f5, f6, f7, f8, f9, f10⟩ := id S1
  obtain ⟨w, K, cw, cp, c16, c15, c17, c18, c19, c20, c28, c29, cK, c30, cK12, cpl, cpr, cs, cv⟩ := id (show crs I 34 (p_P σ) (p_S σ) (I 103) from H.2.2.2.2.1)
  unfold sim
  by_cases hin : (decide (nI 0 ≤ a) && decide (a ≤ nI 2)) = true
  · obtain ⟨s, -, hs2, rfl⟩ := (in01 (by omega) (by omega)).mp hin
    have hs : s < 3 := by omega
    obtain ⟨h, hh8, hh, hhs⟩ : relH I R (p_P σ) (p_S σ) := H.2.2.2.2.2.2.1
    obtain ⟨-, -, -, ho4⟩ := hb_or h hh8 s hs
    have z0 : ¬ nI s < 0 := nI_pos (by omega)
    have z1 : ¬ nI 3 ≤ nI s := nI_ge hs (by omega)
    obtain ⟨x1, x2⟩ := hhs s hs
    by_cases hb : h / 2 ^ s % 2 = 1
    · obtain ⟨k, k1, k2⟩ := x2 hb
      have hk := H.1.2.2.2.1 s k hs k1
      have k116 := hk.1
      have er : va_rf (R 41 s) = .ref k := by rw [k1]; rfl
      have y1 : ¬ nI 1 = 0 := by decide
      rw [hb] at x1 ho4
      simp only [am_lv_of, rX12_restore_0, rX12_restore_1, rX12_restore_4, rX12_restore_5, rX12_restore_6, rX12_restore_9, rX6_takeFromSlot_0, rX6_takeFromSlot_1, rX6_takeFromSlot_4, rX6_takeFromSlot_5, rX6_takeFromSlot_6, rX6_takeFromSlot_9, rX6_takeFromSlot_10, rX6_takeFromSlot_13, rX6_takeFromSlot_14, rX6_takeFromSlot_17, rX6_takeFromSlot_18, rX6_takeFromSlot_19, rX6_takeFromSlot_22, rX6_takeFromSlot_23, rX6_takeFromSlot_26, rX6_takeFromSlot_27, rX6_takeFromSlot_28, rX6_takeFromSlot_29, rX6_takeFromSlot_30, rX6_takeFromSlot_33, rX6_takeFromSlot_34, rX6_takeFromSlot_34_0, rX6_takeFromSlot_34_1, rX6_takeFromSlot_35, rX6_takeFromSlot_36, rX6_takeFromSlot_37, rX6_takeFromSlot_40, rX6_takeFromSlot_41, rX6_takeFromSlot_42, ro_0_0 hR, ro_0_3 hR, ro_0_4 hR, ro_0_5 hR, ro_0_6 hR, ro_0_7 hR, ro_0_8 hR, ro_0_9 hR, ro_0_10 hR, ro_0_11 hR, ro_2_6 hR, ro_2_7 hR, ro_2_8 hR, ro_2_9 hR, ro_2_10 hR, ro_2_11 hR, ro_2_12 hR, ro_2_13 hR, ro_9_0 hR, ro_9_1 hR, ro_9_2 hR, ro_14_0 hR, ro_14_1 hR, ro_14_2 hR, ro_14_7 hR, ro_15_0 hR, ro_15_1 hR, ro_15_2 hR, ro_15_3 hR, ro_20_6 hR, ro_20_7 hR, ro_20_8 hR, ro_20_9 hR, ro_20_10 hR, ro_20_11 hR, ro_20_12 hR, ro_20_13 hR, ro_27_0 hR, ro_27_1 hR, ro_27_2 hR, ro_32_0 hR, ro_32_1 hR, ro_34_10 hR, ro_34_11 hR, ro_34_12 hR, ro_34_13 hR, ro_39_0 hR, ro_39_1 hR, ro_42_0 hR, ro_42_1 hR, ro_47_0 hR, ro_47_1 hR, ro_47_2 hR, ro_47_3 hR, ro_55_0 hR, ro_55_1 hR, ro_55_2 hR, ro_57_0 hR, ro_57_1 hR, ro_57_2 hR, ro_57_3 hR, ro_57_4 hR, ro_57_5 hR, ro_57_8 hR, sh_0, sh_1, sh_2, sh_3, sh_4, sh_5, sh_6, sh_7, sh_8, sh_9, sh_10, sh_11, sh_12, sh_13, sh_14, sh_15, sh_16, sh_17, sh_18, sh_19, sh_20, sh_21, sh_22, sh_23, sh_24, sh_25, sh_26, sh_27, sh_28, sh_29, sh_30, sh_31, sh_32, sh_33, sh_34, sh_35, sh_36, sh_37, sh_38, sh_39, sh_40, sh_41, sh_42, sh_43, sh_44, sh_45, sh_46, sh_47, sh_48, sh_49, sh_50, sh_51, sh_52, sh_53, sh_54, sh_55, sh_56, sh_57, sh_58, sh_59, sh_60, sh_61, sh_62, sh_63, sh_64, sh_65, sh_66, sh_67, sh_68, hl, hvw9, Nat.reduceLT, Nat.reduceAdd, Nat.reduceMul, ne_eq, Nat.reduceEqDiff, not_false_eq_true, or_true, true_or, or_false, false_or, and_true, true_and, and_self, Nat.reduceLeDiff, am_ci, am_cr, am_cn0, Option.toList_some, Option.toList_none, List.cons_append, List.nil_append, am_s0, am_s1, am_s1r, am_s2, am_s2r, am_s3r, nI_add, am_u_ne, am_u_at, am_u_n1, am_u_n2, am_w_ne, ↓reduceIte, z0, z1, hs, er, hh, ho4, y1, not_false_eq_true]
      refine c_copyFrom hn (isCr_34 hR hN) (isCr_co H.1 hk) (by omega) (fun I1 g1 g2 => ?_)
      simp only [am_lv_of, Option.toList_none, List.nil_append, rX6_takeFromSlot_45, rX6_takeFromSlot_46, rX6_takeFromSlot_47, rX6_takeFromSlot_50, rX6_takeFromSlot_51, rX6_takeFromSlot_51_0, rX6_takeFromSlot_51_1, rX12_restore_12, rX12_restore_12_0, rX12_restore_12_1, ro_0_0 hR, ro_0_3 hR, ro_0_4 hR, ro_0_5 hR, ro_0_6 hR, ro_0_7 hR, ro_0_8 hR, ro_0_9 hR, ro_0_10 hR, ro_0_11 hR, ro_2_6 hR, ro_2_7 hR, ro_2_8 hR, ro_2_9 hR, ro_2_10 hR, ro_2_11 hR, ro_2_12 hR, ro_2_13 hR, ro_9_0 hR, ro_9_1 hR, ro_9_2 hR, ro_14_0 hR, ro_14_1 hR, ro_14_2 hR, ro_14_7 hR, ro_15_0 hR, ro_15_1 hR, ro_15_2 hR, ro_15_3 hR, ro_20_6 hR, ro_20_7 hR, ro_20_8 hR, ro_20_9 hR, ro_20_10 hR, ro_20_11 hR, ro_20_12 hR, ro_20_13 hR, ro_27_0 hR, ro_27_1 hR, ro_27_2 hR, ro_32_0 hR, ro_32_1 hR, ro_34_10 hR, ro_34_11 hR, ro_34_12 hR, ro_34_13 hR, ro_39_0 hR, ro_39_1 hR, ro_42_0 hR, ro_42_1 hR, ro_47_0 hR, ro_47_1 hR, ro_47_2 hR, ro_47_3 hR, ro_55_0 hR, ro_55_1 hR, ro_55_2 hR, ro_57_0 hR, ro_57_1 hR, ro_57_2 hR, ro_57_3 hR, ro_57_4 hR, ro_57_5 hR, ro_57_8 hR, sh_0, sh_1, sh_2, sh_3, sh_4, sh_5, sh_6, sh_7, sh_8, sh_9, sh_10, sh_11, sh_12, sh_13, sh_14, sh_15, sh_16, sh_17, sh_18, sh_19, sh_20, sh_21, sh_22, sh_23, sh_24, sh_25, sh_26, sh_27, sh_28, sh_29, sh_30, sh_31, sh_32, sh_33, sh_34, sh_35, sh_36, sh_37, sh_38, sh_39, sh_40, sh_41, sh_42, sh_43, sh_44, sh_45, sh_46, sh_47, sh_48, sh_49, sh_50, sh_51, sh_52, sh_53, sh_54, sh_55, sh_56, sh_57, sh_58, sh_59, sh_60, sh_61, sh_62, sh_63, sh_64, sh_65, sh_66, sh_67, sh_68, hl, hvw9, Nat.reduceLT, Nat.reduceAdd, Nat.reduceMul, ne_eq, Nat.reduceEqDiff, not_false_eq_true, or_true, true_or, or_false, false_or, and_true, true_and, and_self, Nat.reduceLeDiff, am_ci, am_cr, am_cn0, Option.toList_some, Option.toList_none, List.cons_append, List.nil_append, am_s0, am_s1, am_s1r, am_s2, am_s2r, am_s3r, nI_add, am_u_ne, am_u_at, am_u_n1, am_u_n2, am_w_ne, hn]
      have x1' : I1 114 s = nI 1 := by rw [g1 114 s (by unfold coP; omega)]; exact x1
      simp only [am_lv_of, rX13_restore_0, rX13_restore_1, rX13_restore_2, rX13_restore_3, rX13_restore_6, rX13_restore_9, rX13_restore_10, rX13_restore_13, rX13_restore_14, rX13_restore_15, rX13_restore_18, rX13_restore_19, rX13_restore_19_0, rX13_restore_19_1, rX13_restore_20, rX13_restore_21, ro_69_1 hR, ro_69_3 hR, ro_69_5 hR, ro_69_6 hR, ro_69_7 hR, ro_69_8 hR, ro_69_9 hR, ro_69_21 hR, ro_69_22 hR, ro_69_23 hR, ro_69_24 hR, ro_69_25 hR, ro_69_26 hR, ro_69_27 hR, ro_69_28 hR, ro_69_29 hR, ro_69_30 hR, ro_69_31 hR, ro_69_32 hR, ro_69_33 hR, ro_69_34 hR, ro_69_35 hR, ro_69_36 hR, ro_69_38 hR, ro_69_39 hR, ro_69_40 hR, ro_69_41 hR, ro_69_42 hR, ro_69_44 hR, ro_69_45 hR, ro_69_46 hR, ro_69_48 hR, ro_69_49 hR, ro_69_51 hR, ro_69_52 hR, ro_69_55 hR, ro_69_56 hR, ro_69_57 hR, ro_69_58 hR, ro_69_59 hR, ro_69_61 hR, ro_69_62 hR, ro_69_63 hR, ro_69_64 hR, ro_69_65 hR, ro_69_66 hR, sh_69, sh_70, sh_71, sh_72, sh_73, sh_74, sh_75, sh_76, sh_77, sh_78, sh_79, sh_80, sh_81, sh_82, sh_83, sh_84, sh_85, sh_86, sh_87, sh_88, sh_89, sh_90, sh_91, sh_92, sh_93, sh_94, sh_95, sh_96, sh_97, sh_98, sh_99, sh_100, sh_101, sh_102, sh_103, sh_104, sh_105, sh_106, sh_107, sh_108, sh_109, sh_110, sh_111, sh_112, sh_113, sh_114, sh_115, hl, hvw9, Nat.reduceLT, Nat.reduceAdd, Nat.reduceMul, ne_eq, Nat.reduceEqDiff, not_false_eq_true, or_true, true_or, or_false, false_or, and_true, true_and, and_self, Nat.reduceLeDiff, am_ci, am_cr, am_cn0, Option.toList_some, Option.toList_none, List.cons_append, List.nil_append, am_s0, am_s1, am_s1r, am_s2, am_s2r, am_s3r, nI_add, am_u_ne, am_u_at, am_u_n1, am_u_n2, am_w_ne, ↓reduceIte, c_in, hin, b_t, hs, x1', y1, not_false_eq_true]
      refine l_restore (sl := s) hR hN hn hs 68 0 _ (by omega) am_ag.refl (fun j => by rw [if_neg (by omega)]) (fun I4 g3 g4 => ?_)
      simp only [am_lv_of, rX13_restore_51, rX13_restore_52, rX13_restore_53, rX13_restore_56, rX13_restore_57, rX13_restore_57_0, rX13_restore_57_1, ro_69_1 hR, ro_69_3 hR, ro_69_5 hR, ro_69_6 hR, ro_69_7 hR, ro_69_8 hR, ro_69_9 hR, ro_69_21 hR, ro_69_22 hR, ro_69_23 hR, ro_69_24 hR, ro_69_25 hR, ro_69_26 hR, ro_69_27 hR, ro_69_28 hR, ro_69_29 hR, ro_69_30 hR, ro_69_31 hR, ro_69_32 hR, ro_69_33 hR, ro_69_34 hR, ro_69_35 hR, ro_69_36 hR, ro_69_38 hR, ro_69_39 hR, ro_69_40 hR, ro_69_41 hR, ro_69_42 hR, ro_69_44 hR, ro_69_45 hR, ro_69_46 hR, ro_69_48 hR, ro_69_49 hR, ro_69_51 hR, ro_69_52 hR, ro_69_55 hR, ro_69_56 hR, ro_69_57 hR, ro_69_58 hR, ro_69_59 hR, ro_69_61 hR, ro_69_62 hR, ro_69_63 hR, ro_69_64 hR, ro_69_65 hR, ro_69_66 hR, sh_69, sh_70, sh_71, sh_72, sh_73, sh_74, sh_75, sh_76, sh_77, sh_78, sh_79, sh_80, sh_81, sh_82, sh_83, sh_84, sh_85, sh_86, sh_87, sh_88, sh_89, sh_90, sh_91, sh_92, sh_93, sh_94, sh_95, sh_96, sh_97, sh_98, sh_99, sh_100, sh_101, sh_102, sh_103, sh_104, sh_105, sh_106, sh_107, sh_108, sh_109, sh_110, sh_111, sh_112, sh_113, sh_114, sh_115, hl, hvw9, Nat.reduceLT, Nat.reduceAdd, Nat.reduceMul, ne_eq, Nat.reduceEqDiff, not_false_eq_true, or_true, true_or, or_false, false_or, and_true, true_and, and_self, Nat.reduceLeDiff, am_ci, am_cr, am_cn0, Option.toList_some, Option.toList_none, List.cons_append, List.nil_append, am_s0, am_s1, am_s1r, am_s2, am_s2r, am_s3r, nI_add, am_u_ne, am_u_at, am_u_n1, am_u_n2, am_w_ne, hn]
      have ga : ∀ k j, ¬ (34 ≤ k ∧ k < 39) → ¬ (k = 39 ∧ j = 4) → ¬ (k = 69 ∧ j = 54) → k ≠ 103 → am_u I4 69 54 (nI 0) k j = I k j := fun k j a1 a2 a3 a4 => by
        rw [am_u_nn a3, g3 k j a4, am_u_nn a2, g1 k j (by unfold coP; omega)]
      refine ⟨σ, H.1, H.2.1, relS.fr H.2.2.1 (fun k j hk => ga k j (by omega) (by omega) (by omega) (by omega)), relT.fr H.2.2.2.1 (fun k j hk => ga k j (by omega) (by omega) (by omega) (by omega)), ?_, ?_, relH.fr2 H.2.2.2.2.2.2.1 H.1 (fun k j hk => ga k j (by omega) (by omega) (by omega) (by omega)), relJ.fr H.2.2.2.2.2.2.2 (fun k j hk => ga k j (by omega) (by omega) (by omega) (by omega))⟩
      · refine (k2.cpy g2 (r' := am_u I4 69 54 (nI 0) 103) (fun j hj => ?_)).mv (fun k j x1 x2 => ?_) (fun _ _ => rfl)
        · rw [am_u_n1 (by omega), g4 j, if_pos ⟨by omega, by omega⟩, am_u_n1 (by omega), g1 115 _ (by unfold coP; omega)]
          exact congrArg (I 115) (by omega)
        · show am_u I4 69 54 (nI 0) k j = I1 k j
          rw [am_u_n1 (by omega), g3 k j (by omega), am_u_n1 (by omega)]
      · obtain ⟨u, nx, u1, u2, u3, u4, u5, u6⟩ : relU I R (p_P σ) (p_S σ) := H.2.2.2.2.2.1
        refine ⟨0, nx, by omega, u2, ?_, ?_, ?_, fun i hi => absurd hi (Nat.not_lt_zero _)⟩
        · show am_u I4 69 54 (nI 0) 39 4 = _
          rw [am_u_n1 (by omega), g3 39 4 (by omega), am_u_at]
        · show am_u I4 69 54 (nI 0) 69 54 = _
          rw [am_u_at]
        · show am_u I4 69 54 (nI 0) 39 3 = _
          rw [ga 39 3 (by omega) (by omega) (by omega) (by omega)]; exact u5
    · have hb0 : h / 2 ^ s % 2 = 0 := by omega
      have y0 : nI 0 = 0 := rfl
      rw [hb0] at x1 ho4
      have e : am_E X (d + 30) mX13_restore 0 [some (.ref 69), some (.int (nI s)), none] [] (n, I, L, R) (fun v' M2 => some (.int (nI 0)) = v' ∧ REL M2) := by
        simp only [am_lv_of, rX13_restore_0, rX13_restore_1, rX13_restore_2, rX13_restore_3, rX13_restore_6, rX13_restore_9, rX13_restore_10, rX13_restore_13, rX13_restore_14, rX13_restore_15, ro_69_1 hR, ro_69_3 hR, ro_69_5 hR, ro_69_6 hR, ro_69_7 hR, ro_69_8 hR, ro_69_9 hR, ro_69_21 hR, ro_69_22 hR, ro_69_23 hR, ro_69_24 hR, ro_69_25 hR, ro_69_26 hR, ro_69_27 hR, ro_69_28 hR, ro_69_29 hR, ro_69_30 hR, ro_69_31 hR, ro_69_32 hR, ro_69_33 hR, ro_69_34 hR, ro_69_35 hR, ro_69_36 hR, ro_69_38 hR, ro_69_39 hR, ro_69_40 hR, ro_69_41 hR, ro_69_42 hR, ro_69_44 hR, ro_69_45 hR, ro_69_46 hR, ro_69_48 hR, ro_69_49 hR, ro_69_51 hR, ro_69_52 hR, ro_69_55 hR, ro_69_56 hR, ro_69_57 hR, ro_69_58 hR, ro_69_59 hR, ro_69_61 hR, ro_69_62 hR, ro_69_63 hR, ro_69_64 hR, ro_69_65 hR, ro_69_66 hR, sh_69, sh_70, sh_71, sh_72, sh_73, sh_74, sh_75, sh_76, sh_77, sh_78, sh_79, sh_80, sh_81, sh_82, sh_83, sh_84, sh_85, sh_86, sh_87, sh_88, sh_89, sh_90, sh_91, sh_92, sh_93, sh_94, sh_95, sh_96, sh_97, sh_98, sh_99, sh_100, sh_101, sh_102, sh_103, sh_104, sh_105, sh_106, sh_107, sh_108, sh_109, sh_110, sh_111, sh_112, sh_113, sh_114, sh_115, hl, hvw9, Nat.reduceLT, Nat.reduceAdd, Nat.reduceMul, ne_eq, Nat.reduceEqDiff, not_false_eq_true, or_true, true_or, or_false, false_or, and_true, true_and, and_self, Nat.reduceLeDiff, am_ci, am_cr, am_cn0, Option.toList_some, Option.toList_none, List.cons_append, List.nil_append, am_s0, am_s1, am_s1r, am_s2, am_s2r, am_s3r, nI_add, am_u_ne, am_u_at, am_u_n1, am_u_n2, am_w_ne, ↓reduceIte, c_in, hin, b_t, hs, x1]
        simp only [y0, not_true_eq_false, if_false]
        simp only [am_lv_of, rX13_restore_18, rX13_restore_19_0, true_and]
        exact ⟨rfl, σ, H⟩
      cases hr : R 41 s with
      | none =>
        have er : va_rf (R 41 s) = .null := by rw [hr]; rfl
        simp only [am_lv_of, rX12_restore_0, rX12_restore_1, rX12_restore_4, rX12_restore_5, rX12_restore_6, rX12_restore_9, rX6_takeFromSlot_0, rX6_takeFromSlot_1, rX6_takeFromSlot_4, rX6_takeFromSlot_5, rX6_takeFromSlot_6, rX6_takeFromSlot_9, rX6_takeFromSlot_10, rX6_takeFromSlot_13, rX6_takeFromSlot_14, rX6_takeFromSlot_17, rX6_takeFromSlot_18, rX6_takeFromSlot_19n, rX6_takeFromSlot_33, rX6_takeFromSlot_34, rX6_takeFromSlot_34_0, rX6_takeFromSlot_34_1, rX12_restore_12, rX12_restore_12_0, rX12_restore_12_1, ro_0_0 hR, ro_0_3 hR, ro_0_4 hR, ro_0_5 hR, ro_0_6 hR, ro_0_7 hR, ro_0_8 hR, ro_0_9 hR, ro_0_10 hR, ro_0_11 hR, ro_2_6 hR, ro_2_7 hR, ro_2_8 hR, ro_2_9 hR, ro_2_10 hR, ro_2_11 hR, ro_2_12 hR, ro_2_13 hR, ro_9_0 hR, ro_9_1 hR, ro_9_2 hR, ro_14_0 hR, ro_14_1 hR, ro_14_2 hR, ro_14_7 hR, ro_15_0 hR, ro_15_1 hR, ro_15_2 hR, ro_15_3 hR, ro_20_6 hR, ro_20_7 hR, ro_20_8 hR, ro_20_9 hR, ro_20_10 hR, ro_20_11 hR, ro_20_12 hR, ro_20_13 hR, ro_27_0 hR, ro_27_1 hR, ro_27_2 hR, ro_32_0 hR, ro_32_1 hR, ro_34_10 hR, ro_34_11 hR, ro_34_12 hR, ro_34_13 hR, ro_39_0 hR, ro_39_1 hR, ro_42_0 hR, ro_42_1 hR, ro_47_0 hR, ro_47_1 hR, ro_47_2 hR, ro_47_3 hR, ro_55_0 hR, ro_55_1 hR, ro_55_2 hR, ro_57_0 hR, ro_57_1 hR, ro_57_2 hR, ro_57_3 hR, ro_57_4 hR, ro_57_5 hR, ro_57_8 hR, sh_0, sh_1, sh_2, sh_3, sh_4, sh_5, sh_6, sh_7, sh_8, sh_9, sh_10, sh_11, sh_12, sh_13, sh_14, sh_15, sh_16, sh_17, sh_18, sh_19, sh_20, sh_21, sh_22, sh_23, sh_24, sh_25, sh_26, sh_27, sh_28, sh_29, sh_30, sh_31, sh_32, sh_33, sh_34, sh_35, sh_36, sh_37, sh_38, sh_39, sh_40, sh_41, sh_42, sh_43, sh_44, sh_45, sh_46, sh_47, sh_48, sh_49, sh_50, sh_51, sh_52, sh_53, sh_54, sh_55, sh_56, sh_57, sh_58, sh_59, sh_60, sh_61, sh_62, sh_63, sh_64, sh_65, sh_66, sh_67, sh_68, hl, hvw9, Nat.reduceLT, Nat.reduceAdd, Nat.reduceMul, ne_eq, Nat.reduceEqDiff, not_false_eq_true, or_true, true_or, or_false, false_or, and_true, true_and, and_self, Nat.reduceLeDiff, am_ci, am_cr, am_cn0, Option.toList_some, Option.toList_none, List.cons_append, List.nil_append, am_s0, am_s1, am_s1r, am_s2, am_s2r, am_s3r, nI_add, am_u_ne, am_u_at, am_u_n1, am_u_n2, am_w_ne, ↓reduceIte, z0, z1, hs, er]
        exact e
      | some k =>
        have er : va_rf (R 41 s) = .ref k := by rw [hr]; rfl
        simp only [am_lv_of, rX12_restore_0, rX12_restore_1, rX12_restore_4, rX12_restore_5, rX12_restore_6, rX12_restore_9, rX6_takeFromSlot_0, rX6_takeFromSlot_1, rX6_takeFromSlot_4, rX6_takeFromSlot_5, rX6_takeFromSlot_6, rX6_takeFromSlot_9, rX6_takeFromSlot_10, rX6_takeFromSlot_13, rX6_takeFromSlot_14, rX6_takeFromSlot_17, rX6_takeFromSlot_18, rX6_takeFromSlot_19, rX6_takeFromSlot_22, rX6_takeFromSlot_23, rX6_takeFromSlot_26, rX6_takeFromSlot_27, rX6_takeFromSlot_28, rX6_takeFromSlot_29, ro_0_0 hR, ro_0_3 hR, ro_0_4 hR, ro_0_5 hR, ro_0_6 hR, ro_0_7 hR, ro_0_8 hR, ro_0_9 hR, ro_0_10 hR, ro_0_11 hR, ro_2_6 hR, ro_2_7 hR, ro_2_8 hR, ro_2_9 hR, ro_2_10 hR, ro_2_11 hR, ro_2_12 hR, ro_2_13 hR, ro_9_0 hR, ro_9_1 hR, ro_9_2 hR, ro_14_0 hR, ro_14_1 hR, ro_14_2 hR, ro_14_7 hR, ro_15_0 hR, ro_15_1 hR, ro_15_2 hR, ro_15_3 hR, ro_20_6 hR, ro_20_7 hR, ro_20_8 hR, ro_20_9 hR, ro_20_10 hR, ro_20_11 hR, ro_20_12 hR, ro_20_13 hR, ro_27_0 hR, ro_27_1 hR, ro_27_2 hR, ro_32_0 hR, ro_32_1 hR, ro_34_10 hR, ro_34_11 hR, ro_34_12 hR, ro_34_13 hR, ro_39_0 hR, ro_39_1 hR, ro_42_0 hR, ro_42_1 hR, ro_47_0 hR, ro_47_1 hR, ro_47_2 hR, ro_47_3 hR, ro_55_0 hR, ro_55_1 hR, ro_55_2 hR, ro_57_0 hR, ro_57_1 hR, ro_57_2 hR, ro_57_3 hR, ro_57_4 hR, ro_57_5 hR, ro_57_8 hR, sh_0, sh_1, sh_2, sh_3, sh_4, sh_5, sh_6, sh_7, sh_8, sh_9, sh_10, sh_11, sh_12, sh_13, sh_14, sh_15, sh_16, sh_17, sh_18, sh_19, sh_20, sh_21, sh_22, sh_23, sh_24, sh_25, sh_26, sh_27, sh_28, sh_29, sh_30, sh_31, sh_32, sh_33, sh_34, sh_35, sh_36, sh_37, sh_38, sh_39, sh_40, sh_41, sh_42, sh_43, sh_44, sh_45, sh_46, sh_47, sh_48, sh_49, sh_50, sh_51, sh_52, sh_53, sh_54, sh_55, sh_56, sh_57, sh_58, sh_59, sh_60, sh_61, sh_62, sh_63, sh_64, sh_65, sh_66, sh_67, sh_68, hl, hvw9, Nat.reduceLT, Nat.reduceAdd, Nat.reduceMul, ne_eq, Nat.reduceEqDiff, not_false_eq_true, or_true, true_or, or_false, false_or, and_true, true_and, and_self, Nat.reduceLeDiff, am_ci, am_cr, am_cn0, Option.toList_some, Option.toList_none, List.cons_append, List.nil_append, am_s0, am_s1, am_s1r, am_s2, am_s2r, am_s3r, nI_add, am_u_ne, am_u_at, am_u_n1, am_u_n2, am_w_ne, ↓reduceIte, z0, z1, hs, er, hh, ho4]
        simp only [am_lv_of, rX6_takeFromSlot_30, y0, not_true_eq_false, if_false]
        simp only [am_lv_of, rX6_takeFromSlot_33, rX6_takeFromSlot_34_0, Option.toList_some, List.cons_append, List.nil_append, rX12_restore_12_0]
        exact e
  · have hf : (decide (nI 0 ≤ a) && decide (a ≤ nI 2)) = false := by simpa using hin
    have e : am_E X (d + 30) mX13_restore 0 [some (.ref 69), some (.int a), none] [] (n, I, L, R) (fun v' M2 => some (.int (nI 0)) = v' ∧ REL M2) := by
      simp only [am_lv_of, rX13_restore_0, rX13_restore_1, rX13_restore_2, rX13_restore_3, rX13_restore_6, rX13_restore_18, rX13_restore_19, rX13_restore_19_0, rX13_restore_19_1, ro_69_1 hR, ro_69_3 hR, ro_69_5 hR, ro_69_6 hR, ro_69_7 hR, ro_69_8 hR, ro_69_9 hR, ro_69_21 hR, ro_69_22 hR, ro_69_23 hR, ro_69_24 hR, ro_69_25 hR, ro_69_26 hR, ro_69_27 hR, ro_69_28 hR, ro_69_29 hR, ro_69_30 hR, ro_69_31 hR, ro_69_32 hR, ro_69_33 hR, ro_69_34 hR, ro_69_35 hR, ro_69_36 hR, ro_69_38 hR, ro_69_39 hR, ro_69_40 hR, ro_69_41 hR, ro_69_42 hR, ro_69_44 hR, ro_69_45 hR, ro_69_46 hR, ro_69_48 hR, ro_69_49 hR, ro_69_51 hR, ro_69_52 hR, ro_69_55 hR, ro_69_56 hR, ro_69_57 hR, ro_69_58 hR, ro_69_59 hR, ro_69_61 hR, ro_69_62 hR, ro_69_63 hR, ro_69_64 hR, ro_69_65 hR, ro_69_66 hR, sh_69, sh_70, sh_71, sh_72, sh_73, sh_74, sh_75, sh_76, sh_77, sh_78, sh_79, sh_80, sh_81, sh_82, sh_83, sh_84, sh_85, sh_86, sh_87, sh_88, sh_89, sh_90, sh_91, sh_92, sh_93, sh_94, sh_95, sh_96, sh_97, sh_98, sh_99, sh_100, sh_101, sh_102, sh_103, sh_104, sh_105, sh_106, sh_107, sh_108, sh_109, sh_110, sh_111, sh_112, sh_113, sh_114, sh_115, hl, hvw9, Nat.reduceLT, Nat.reduceAdd, Nat.reduceMul, ne_eq, Nat.reduceEqDiff, not_false_eq_true, or_true, true_or, or_false, false_or, and_true, true_and, and_self, Nat.reduceLeDiff, am_ci, am_cr, am_cn0, Option.toList_some, Option.toList_none, List.cons_append, List.nil_append, am_s0, am_s1, am_s1r, am_s2, am_s2r, am_s3r, nI_add, am_u_ne, am_u_at, am_u_n1, am_u_n2, am_w_ne, ↓reduceIte, c_in, hf, b_f]
      exact ⟨σ, H⟩
    by_cases g1 : a < 0
    · simp only [am_lv_of, rX12_restore_0, rX12_restore_1, rX12_restore_4, rX12_restore_5, rX12_restore_6, rX12_restore_9, rX12_restore_12, rX12_restore_12_0, rX12_restore_12_1, rX6_takeFromSlot_0, rX6_takeFromSlot_1, rX6_takeFromSlot_33, rX6_takeFromSlot_34, rX6_takeFromSlot_34_0, rX6_takeFromSlot_34_1, ro_0_0 hR, ro_0_3 hR, ro_0_4 hR, ro_0_5 hR, ro_0_6 hR, ro_0_7 hR, ro_0_8 hR, ro_0_9 hR, ro_0_10 hR, ro_0_11 hR, ro_2_6 hR, ro_2_7 hR, ro_2_8 hR, ro_2_9 hR, ro_2_10 hR, ro_2_11 hR, ro_2_12 hR, ro_2_13 hR, ro_9_0 hR, ro_9_1 hR, ro_9_2 hR, ro_14_0 hR, ro_14_1 hR, ro_14_2 hR, ro_14_7 hR, ro_15_0 hR, ro_15_1 hR, ro_15_2 hR, ro_15_3 hR, ro_20_6 hR, ro_20_7 hR, ro_20_8 hR, ro_20_9 hR, ro_20_10 hR, ro_20_11 hR, ro_20_12 hR, ro_20_13 hR, ro_27_0 hR, ro_27_1 hR, ro_27_2 hR, ro_32_0 hR, ro_32_1 hR, ro_34_10 hR, ro_34_11 hR, ro_34_12 hR, ro_34_13 hR, ro_39_0 hR, ro_39_1 hR, ro_42_0 hR, ro_42_1 hR, ro_47_0 hR, ro_47_1 hR, ro_47_2 hR, ro_47_3 hR, ro_55_0 hR, ro_55_1 hR, ro_55_2 hR, ro_57_0 hR, ro_57_1 hR, ro_57_2 hR, ro_57_3 hR, ro_57_4 hR, ro_57_5 hR, ro_57_8 hR, sh_0, sh_1, sh_2, sh_3, sh_4, sh_5, sh_6, sh_7, sh_8, sh_9, sh_10, sh_11, sh_12, sh_13, sh_14, sh_15, sh_16, sh_17, sh_18, sh_19, sh_20, sh_21, sh_22, sh_23, sh_24, sh_25, sh_26, sh_27, sh_28, sh_29, sh_30, sh_31, sh_32, sh_33, sh_34, sh_35, sh_36, sh_37, sh_38, sh_39, sh_40, sh_41, sh_42, sh_43, sh_44, sh_45, sh_46, sh_47, sh_48, sh_49, sh_50, sh_51, sh_52, sh_53, sh_54, sh_55, sh_56, sh_57, sh_58, sh_59, sh_60, sh_61, sh_62, sh_63, sh_64, sh_65, sh_66, sh_67, sh_68, hl, hvw9, Nat.reduceLT, Nat.reduceAdd, Nat.reduceMul, ne_eq, Nat.reduceEqDiff, not_false_eq_true, or_true, true_or, or_false, false_or, and_true, true_and, and_self, Nat.reduceLeDiff, am_ci, am_cr, am_cn0, Option.toList_some, Option.toList_none, List.cons_append, List.nil_append, am_s0, am_s1, am_s1r, am_s2, am_s2r, am_s3r, nI_add, am_u_ne, am_u_at, am_u_n1, am_u_n2, am_w_ne, ↓reduceIte, g1]
      exact e
    · have g2 : nI 3 ≤ a := Int32.not_lt.mp (fun z => hin ((in0_iff (by omega)).mpr ⟨g1, by
        obtain ⟨j, hj, rfl⟩ := nI_of g1
        exact nI_le (by have := (nI_ltI hj (by omega)).mp z; omega) (by omega)⟩))
      simp only [am_lv_of, rX12_restore_0, rX12_restore_1, rX12_restore_4, rX12_restore_5, rX12_restore_6, rX12_restore_9, rX12_restore_12, rX12_restore_12_0, rX12_restore_12_1, rX6_takeFromSlot_0, rX6_takeFromSlot_1, rX6_takeFromSlot_4, rX6_takeFromSlot_5, rX6_takeFromSlot_6, rX6_takeFromSlot_9, rX6_takeFromSlot_10, rX6_takeFromSlot_33, rX6_takeFromSlot_34, rX6_takeFromSlot_34_0, rX6_takeFromSlot_34_1, ro_0_0 hR, ro_0_3 hR, ro_0_4 hR, ro_0_5 hR, ro_0_6 hR, ro_0_7 hR, ro_0_8 hR, ro_0_9 hR, ro_0_10 hR, ro_0_11 hR, ro_2_6 hR, ro_2_7 hR, ro_2_8 hR, ro_2_9 hR, ro_2_10 hR, ro_2_11 hR, ro_2_12 hR, ro_2_13 hR, ro_9_0 hR, ro_9_1 hR, ro_9_2 hR, ro_14_0 hR, ro_14_1 hR, ro_14_2 hR, ro_14_7 hR, ro_15_0 hR, ro_15_1 hR, ro_15_2 hR, ro_15_3 hR, ro_20_6 hR, ro_20_7 hR, ro_20_8 hR, ro_20_9 hR, ro_20_10 hR, ro_20_11 hR, ro_20_12 hR, ro_20_13 hR, ro_27_0 hR, ro_27_1 hR, ro_27_2 hR, ro_32_0 hR, ro_32_1 hR, ro_34_10 hR, ro_34_11 hR, ro_34_12 hR, ro_34_13 hR, ro_39_0 hR, ro_39_1 hR, ro_42_0 hR, ro_42_1 hR, ro_47_0 hR, ro_47_1 hR, ro_47_2 hR, ro_47_3 hR, ro_55_0 hR, ro_55_1 hR, ro_55_2 hR, ro_57_0 hR, ro_57_1 hR, ro_57_2 hR, ro_57_3 hR, ro_57_4 hR, ro_57_5 hR, ro_57_8 hR, sh_0, sh_1, sh_2, sh_3, sh_4, sh_5, sh_6, sh_7, sh_8, sh_9, sh_10, sh_11, sh_12, sh_13, sh_14, sh_15, sh_16, sh_17, sh_18, sh_19, sh_20, sh_21, sh_22, sh_23, sh_24, sh_25, sh_26, sh_27, sh_28, sh_29, sh_30, sh_31, sh_32, sh_33, sh_34, sh_35, sh_36, sh_37, sh_38, sh_39, sh_40, sh_41, sh_42, sh_43, sh_44, sh_45, sh_46, sh_47, sh_48, sh_49, sh_50, sh_51, sh_52, sh_53, sh_54, sh_55, sh_56, sh_57, sh_58, sh_59, sh_60, sh_61, sh_62, sh_63, sh_64, sh_65, sh_66, sh_67, sh_68, hl, hvw9, Nat.reduceLT, Nat.reduceAdd, Nat.reduceMul, ne_eq, Nat.reduceEqDiff, not_false_eq_true, or_true, true_or, or_false, false_or, and_true, true_and, and_self, Nat.reduceLeDiff, am_ci, am_cr, am_cn0, Option.toList_some, Option.toList_none, List.cons_append, List.nil_append, am_s0, am_s1, am_s1r, am_s2, am_s2r, am_s3r, nI_add, am_u_ne, am_u_at, am_u_n1, am_u_n2, am_w_ne, ↓reduceIte, g1, g2]
      exact e
end UN
