--! 64
/-! PROMISE 12: open -/
def rOp (I : Nat → Nat → Int32) (σ : rfP) (r : Nat → Int32) (j : Nat) : Int32 := if j < p_P σ then I 80 (5 * p_lv σ + j) else if j < 18 then nI 0 else if j = 18 then r 18 + nI 1 else r j
section OP
variable {X : am_X} {d n : Nat} {I : Nat → Nat → Int32} {L : Nat → Nat → Int64} {R : Nat → Nat → Option Nat} {Q : Option Value → am_M → Prop} {σ : rfP}
theorem l_opens1 (hR : am_OR R) (hN : 116 ≤ n) (hn : n ≤ 1000) : ∀ (m i : Nat) (J : Nat → Nat → Int32), i + m = 18 → am_ag (fun k _ => k = 104) I J → (∀ j, J 104 j = if j < i then nI 0 else I 104 j) → (∀ I', am_ag (fun k _ => k = 104) I I' → (∀ j, I' 104 j = if j < 18 then nI 0 else I 104 j) → am_E X d mX13_opens 21 [some (.ref 69), some (.int (nI 18))] [] (n, I', L, R) Q) → am_E X d mX13_opens 2 [some (.ref 69), some (.int (nI i))] [] (n, J, L, R) Q := by
  have hl := am_lt hN
  have hvw9 := am_lw hN
  intro m
  induction m with
  | zero =>
    intro i J hi hJ hc hQ
    have hi : i = 18 := by omega
    subst hi
    have h1 : nI 18 ≤ nI 18 := by decide
    simp only [am_lv_of, rX13_opens_2, rX13_opens_3, rX13_opens_5, ro_69_1 hR, ro_69_3 hR, ro_69_5 hR, ro_69_6 hR, ro_69_7 hR, ro_69_8 hR, ro_69_9 hR, ro_69_21 hR, ro_69_22 hR, ro_69_23 hR, ro_69_24 hR, ro_69_25 hR, ro_69_26 hR, ro_69_27 hR, ro_69_28 hR, ro_69_29 hR, ro_69_30 hR, ro_69_31 hR, ro_69_32 hR, ro_69_33 hR, ro_69_34 hR, ro_69_35 hR, ro_69_36 hR, ro_69_38 hR, ro_69_39 hR, ro_69_40 hR, ro_69_41 hR, ro_69_42 hR, ro_69_44 hR, ro_69_45 hR, ro_69_46 hR, ro_69_48 hR, ro_69_49 hR, ro_69_51 hR, ro_69_52 hR, ro_69_55 hR, ro_69_56 hR, ro_69_57 hR, ro_69_58 hR, ro_69_59 hR, ro_69_61 hR, ro_69_62 hR, ro_69_63 hR, ro_69_64 hR, ro_69_65 hR, ro_69_66 hR, sh_69, sh_70, sh_71, sh_72, sh_73, sh_74, sh_75, sh_76, sh_77, sh_78, sh_79, sh_80, sh_81, sh_82, sh_83, sh_84, sh_85, sh_86, sh_87, sh_88, sh_89, sh_90, sh_91, sh_92, sh_93, sh_94, sh_95, sh_96, sh_97, sh_98, sh_99, sh_100, sh_101, sh_102, sh_103, sh_104, sh_105, sh_106, sh_107, sh_108, sh_109, sh_110, sh_111, sh_112, sh_113, sh_114, sh_115, hl, hvw9, Nat.reduceLT, Nat.reduceAdd, Nat.reduceMul, ne_eq, Nat.reduceEqDiff, not_false_eq_true, or_true, true_or, or_false, false_or, and_true, true_and, and_self, Nat.reduceLeDiff, am_ci, am_cr, am_cn0, Option.toList_some, Option.toList_none, List.cons_append, List.nil_append, am_s0, am_s1, am_s1r, am_s2, am_s2r, am_s3r, nI_add, am_u_ne, am_u_at, am_u_n1, am_u_n2, am_w_ne, ↓reduceIte, h1]
    exact hQ J hJ hc
  | succ m ih =>
    intro i J hi hJ hc hQ
    have h1 : ¬ nI 18 ≤ nI i := nI_ge (by omega) (by omega)
    have h2 : i < 68 := by omega
    rw [rX13_opens_2]
    simp only [am_lv_of, rX13_opens_3, rX13_opens_5, rX13_opens_8, rX13_opens_9, rX13_opens_12, rX13_opens_13, rX13_opens_14, rX13_opens_15, rX13_opens_18, ro_69_1 hR, ro_69_3 hR, ro_69_5 hR, ro_69_6 hR, ro_69_7 hR, ro_69_8 hR, ro_69_9 hR, ro_69_21 hR, ro_69_22 hR, ro_69_23 hR, ro_69_24 hR, ro_69_25 hR, ro_69_26 hR, ro_69_27 hR, ro_69_28 hR, ro_69_29 hR, ro_69_30 hR, ro_69_31 hR, ro_69_32 hR, ro_69_33 hR, ro_69_34 hR, ro_69_35 hR, ro_69_36 hR, ro_69_38 hR, ro_69_39 hR, ro_69_40 hR, ro_69_41 hR, ro_69_42 hR, ro_69_44 hR, ro_69_45 hR, ro_69_46 hR, ro_69_48 hR, ro_69_49 hR, ro_69_51 hR, ro_69_52 hR, ro_69_55 hR, ro_69_56 hR, ro_69_57 hR, ro_69_58 hR, ro_69_59 hR, ro_69_61 hR, ro_69_62 hR, ro_69_63 hR, ro_69_64 hR, ro_69_65 hR, ro_69_66 hR, sh_69, sh_70, sh_71, sh_72, sh_73, sh_74, sh_75, sh_76, sh_77, sh_78, sh_79, sh_80, sh_81, sh_82, sh_83, sh_84, sh_85, sh_86, sh_87, sh_88, sh_89, sh_90, sh_91, sh_92, sh_93, sh_94, sh_95, sh_96, sh_97, sh_98, sh_99, sh_100, sh_101, sh_102, sh_103, sh_104, sh_105, sh_106, sh_107, sh_108, sh_109, sh_110, sh_111, sh_112, sh_113, sh_114, sh_115, hl, hvw9, Nat.reduceLT, Nat.reduceAdd, Nat.reduceMul, ne_eq, Nat.reduceEqDiff, not_false_eq_true, or_true, true_or, or_false, false_or, and_true, true_and, and_self, Nat.reduceLeDiff, am_ci, am_cr, am_cn0, Option.toList_some, Option.toList_none, List.cons_append, List.nil_append, am_s0, am_s1, am_s1r, am_s2, am_s2r, am_s3r, nI_add, am_u_ne, am_u_at, am_u_n1, am_u_n2, am_w_ne, ↓reduceIte, hn, h1, h2]
    refine ih (i + 1) _ (by omega) (hJ.u rfl) (fun j => ?_) hQ
    by_cases e : j = i
    · rw [e, am_u_at, if_pos (by omega)]
    · rw [am_u_n2 e, hc j]
      by_cases h : j < i
      · rw [if_pos h, if_pos (by omega)]
      · rw [if_neg h, if_neg (by omega)]
theorem l_opens2 (hR : am_OR R) (hN : 116 ≤ n) (hn : n ≤ 1000) (H : rf_S I σ) : ∀ (m i : Nat) (J : Nat → Nat → Int32), i + m = p_P σ → am_ag (fun k _ => k = 104) I J → (∀ j, J 104 j = if j < i then I 80 (5 * p_lv σ + j) else I 104 j) → (∀ I', am_ag (fun k _ => k = 104) I I' → (∀ j, I' 104 j = if j < p_P σ then I 80 (5 * p_lv σ + j) else I 104 j) → am_E X d mX13_opens 61 [some (.ref 69), some (.int (nI (p_P σ)))] [] (n, I', L, R) Q) → am_E X d mX13_opens 23 [some (.ref 69), some (.int (nI i))] [] (n, J, L, R) Q := by
  have hl := am_lt hN
  have hvw9 := am_lw hN
  have P5 := H.2.2.2.1
  intro m
  induction m with
  | zero =>
    intro i J hi hJ hc hQ
    have hi : i = p_P σ := by omega
    subst hi
    obtain ⟨e1, e2, e3, -⟩ := H.ag (hJ.mono (fun k j z => Or.inr (Or.inl z)))
    have h1 : nI (p_P σ) ≤ nI (p_P σ) := nI_le (Nat.le_refl _) (by omega)
    simp only [am_lv_of, rX13_opens_23, rX13_opens_24, rX13_opens_25, rX13_opens_28, rX13_opens_29, rX13_opens_32, rX13_opens_33, ro_69_1 hR, ro_69_3 hR, ro_69_5 hR, ro_69_6 hR, ro_69_7 hR, ro_69_8 hR, ro_69_9 hR, ro_69_21 hR, ro_69_22 hR, ro_69_23 hR, ro_69_24 hR, ro_69_25 hR, ro_69_26 hR, ro_69_27 hR, ro_69_28 hR, ro_69_29 hR, ro_69_30 hR, ro_69_31 hR, ro_69_32 hR, ro_69_33 hR, ro_69_34 hR, ro_69_35 hR, ro_69_36 hR, ro_69_38 hR, ro_69_39 hR, ro_69_40 hR, ro_69_41 hR, ro_69_42 hR, ro_69_44 hR, ro_69_45 hR, ro_69_46 hR, ro_69_48 hR, ro_69_49 hR, ro_69_51 hR, ro_69_52 hR, ro_69_55 hR, ro_69_56 hR, ro_69_57 hR, ro_69_58 hR, ro_69_59 hR, ro_69_61 hR, ro_69_62 hR, ro_69_63 hR, ro_69_64 hR, ro_69_65 hR, ro_69_66 hR, sh_69, sh_70, sh_71, sh_72, sh_73, sh_74, sh_75, sh_76, sh_77, sh_78, sh_79, sh_80, sh_81, sh_82, sh_83, sh_84, sh_85, sh_86, sh_87, sh_88, sh_89, sh_90, sh_91, sh_92, sh_93, sh_94, sh_95, sh_96, sh_97, sh_98, sh_99, sh_100, sh_101, sh_102, sh_103, sh_104, sh_105, sh_106, sh_107, sh_108, sh_109, sh_110, sh_111, sh_112, sh_113, sh_114, sh_115, hl, hvw9, Nat.reduceLT, Nat.reduceAdd, Nat.reduceMul, ne_eq, Nat.reduceEqDiff, not_false_eq_true, or_true, true_or, or_false, false_or, and_true, true_and, and_self, Nat.reduceLeDiff, am_ci, am_cr, am_cn0, Option.toList_some, Option.toList_none, List.cons_append, List.nil_append, am_s0, am_s1, am_s1r, am_s2, am_s2r, am_s3r, nI_add, am_u_ne, am_u_at, am_u_n1, am_u_n2, am_w_ne, ↓reduceIte, h1, e1, e2, e3]
    exact hQ J hJ hc
  | succ m ih =>
    intro i J hi hJ hc hQ
    obtain ⟨e1, e2, e3, -⟩ := H.ag (hJ.mono (fun k j z => Or.inr (Or.inl z)))
    have h1 : ¬ nI (p_P σ) ≤ nI i := nI_ge (by omega) (by omega)
    have h2 : i < 68 := by omega
    have h3 : 5 * p_lv σ + i < 10 := by omega
    rw [rX13_opens_23]
    simp only [am_lv_of, rX13_opens_24, rX13_opens_25, rX13_opens_28, rX13_opens_29, rX13_opens_32, rX13_opens_33, rX13_opens_36, rX13_opens_37, rX13_opens_40, rX13_opens_41, rX13_opens_42, rX13_opens_45, rX13_opens_46, rX13_opens_47, rX13_opens_50, rX13_opens_51, rX13_opens_52, rX13_opens_53, rX13_opens_54, rX13_opens_55, rX13_opens_58, ro_69_1 hR, ro_69_3 hR, ro_69_5 hR, ro_69_6 hR, ro_69_7 hR, ro_69_8 hR, ro_69_9 hR, ro_69_21 hR, ro_69_22 hR, ro_69_23 hR, ro_69_24 hR, ro_69_25 hR, ro_69_26 hR, ro_69_27 hR, ro_69_28 hR, ro_69_29 hR, ro_69_30 hR, ro_69_31 hR, ro_69_32 hR, ro_69_33 hR, ro_69_34 hR, ro_69_35 hR, ro_69_36 hR, ro_69_38 hR, ro_69_39 hR, ro_69_40 hR, ro_69_41 hR, ro_69_42 hR, ro_69_44 hR, ro_69_45 hR, ro_69_46 hR, ro_69_48 hR, ro_69_49 hR, ro_69_51 hR, ro_69_52 hR, ro_69_55 hR, ro_69_56 hR, ro_69_57 hR, ro_69_58 hR, ro_69_59 hR, ro_69_61 hR, ro_69_62 hR, ro_69_63 hR, ro_69_64 hR, ro_69_65 hR, ro_69_66 hR, sh_69, sh_70, sh_71, sh_72, sh_73, sh_74, sh_75, sh_76, sh_77, sh_78, sh_79, sh_80, sh_81, sh_82, sh_83, sh_84, sh_85, sh_86, sh_87, sh_88, sh_89, sh_90, sh_91, sh_92, sh_93, sh_94, sh_95, sh_96, sh_97, sh_98, sh_99, sh_100, sh_101, sh_102, sh_103, sh_104, sh_105, sh_106, sh_107, sh_108, sh_109, sh_110, sh_111, sh_112, sh_113, sh_114, sh_115, hl, hvw9, Nat.reduceLT, Nat.reduceAdd, Nat.reduceMul, ne_eq, Nat.reduceEqDiff, not_false_eq_true, or_true, true_or, or_false, false_or, and_true, true_and, and_self, Nat.reduceLeDiff, am_ci, am_cr, am_cn0, Option.toList_some, Option.toList_none, List.cons_append, List.nil_append, am_s0, am_s1, am_s1r, am_s2, am_s2r, am_s3r, nI_add, am_u_ne, am_u_at, am_u_n1, am_u_n2, am_w_ne, ↓reduceIte, hn, h1, h2, h3, e1, e2, e3, pk_mul]
    refine ih (i + 1) _ (by omega) (hJ.u rfl) (fun j => ?_) hQ
    by_cases e : j = i
    · rw [e, am_u_at, if_pos (by omega), hJ 80 _ (by omega)]
    · rw [am_u_n2 e, hc j]
      by_cases h : j < i
      · rw [if_pos h, if_pos (by omega)]
      · rw [if_neg h, if_neg (by omega)]
theorem c_opens (hR : am_OR R) (hN : 116 ≤ n) (hn : n ≤ 1000) (H : rf_S I σ) (hQ : ∀ I', am_ag (fun k _ => k = 104) I I' → (∀ j, I' 104 j = rOp I σ (I 104) j) → Q none (n, I', L, R)) : am_E X d mX13_opens 0 [some (.ref 69), none] [] (n, I, L, R) Q := by
  have hl := am_lt hN
  have hvw9 := am_lw hN
  have P5 := H.2.2.2.1
  simp only [am_lv_of, rX13_opens_0, rX13_opens_1, hl, hvw9, Nat.reduceLT, Nat.reduceAdd, Nat.reduceMul, ne_eq, Nat.reduceEqDiff, not_false_eq_true, or_true, true_or, or_false, false_or, and_true, true_and, and_self, Nat.reduceLeDiff, am_ci, am_cr, am_cn0, Option.toList_some, Option.toList_none, List.cons_append, List.nil_append, am_s0, am_s1, am_s1r, am_s2, am_s2r, am_s3r, nI_add, am_u_ne, am_u_at, am_u_n1, am_u_n2, am_w_ne]
  refine l_opens1 hR hN hn 18 0 I (by omega) am_ag.refl (fun j => by rw [if_neg (by omega)]) (fun I1 g1 e1 => ?_)
  simp only [am_lv_of, rX13_opens_21, rX13_opens_22, hl, hvw9, Nat.reduceLT, Nat.reduceAdd, Nat.reduceMul, ne_eq, Nat.reduceEqDiff, not_false_eq_true, or_true, true_or, or_false, false_or, and_true, true_and, and_self, Nat.reduceLeDiff, am_ci, am_cr, am_cn0, Option.toList_some, Option.toList_none, List.cons_append, List.nil_append, am_s0, am_s1, am_s1r, am_s2, am_s2r, am_s3r, nI_add, am_u_ne, am_u_at, am_u_n1, am_u_n2, am_w_ne]
  refine l_opens2 hR hN hn (H.ag (g1.mono (fun k j z => Or.inr (Or.inl z)))) (p_P σ) 0 I1 (by omega) am_ag.refl (fun j => by rw [if_neg (by omega)]) (fun I2 g2 e2 => ?_)
  simp only [am_lv_of, rX13_opens_61, rX13_opens_62, rX13_opens_65, rX13_opens_67, rX13_opens_68, rX13_opens_69, rX13_opens_70, rX13_opens_71, rX13_opens_72, ro_69_1 hR, ro_69_3 hR, ro_69_5 hR, ro_69_6 hR, ro_69_7 hR, ro_69_8 hR, ro_69_9 hR, ro_69_21 hR, ro_69_22 hR, ro_69_23 hR, ro_69_24 hR, ro_69_25 hR, ro_69_26 hR, ro_69_27 hR, ro_69_28 hR, ro_69_29 hR, ro_69_30 hR, ro_69_31 hR, ro_69_32 hR, ro_69_33 hR, ro_69_34 hR, ro_69_35 hR, ro_69_36 hR, ro_69_38 hR, ro_69_39 hR, ro_69_40 hR, ro_69_41 hR, ro_69_42 hR, ro_69_44 hR, ro_69_45 hR, ro_69_46 hR, ro_69_48 hR, ro_69_49 hR, ro_69_51 hR, ro_69_52 hR, ro_69_55 hR, ro_69_56 hR, ro_69_57 hR, ro_69_58 hR, ro_69_59 hR, ro_69_61 hR, ro_69_62 hR, ro_69_63 hR, ro_69_64 hR, ro_69_65 hR, ro_69_66 hR, sh_69, sh_70, sh_71, sh_72, sh_73, sh_74, sh_75, sh_76, sh_77, sh_78, sh_79, sh_80, sh_81, sh_82, sh_83, sh_84, sh_85, sh_86, sh_87, sh_88, sh_89, sh_90, sh_91, sh_92, sh_93, sh_94, sh_95, sh_96, sh_97, sh_98, sh_99, sh_100, sh_101, sh_102, sh_103, sh_104, sh_105, sh_106, sh_107, sh_108, sh_109, sh_110, sh_111, sh_112, sh_113, sh_114, sh_115, hl, hvw9, Nat.reduceLT, Nat.reduceAdd, Nat.reduceMul, ne_eq, Nat.reduceEqDiff, not_false_eq_true, or_true, true_or, or_false, false_or, and_true, true_and, and_self, Nat.reduceLeDiff, am_ci, am_cr, am_cn0, Option.toList_some, Option.toList_none, List.cons_append, List.nil_append, am_s0, am_s1, am_s1r, am_s2, am_s2r, am_s3r, nI_add, am_u_ne, am_u_at, am_u_n1, am_u_n2, am_w_ne, hn]
  refine hQ _ ((g1.trans g2).u rfl) (fun j => ?_)
  unfold rOp
  by_cases e : j = 18
  · subst e
    rw [am_u_at, e2, if_neg (by omega), e1, if_neg (by omega), if_neg (by omega), if_neg (by omega), if_pos rfl]
  · rw [am_u_n2 e, e2, g1 80 _ (by omega), e1, if_neg e]
theorem crs_open {J : Nat → Nat → Int32} {P S ws : Nat} {r r' : Nat → Int32} (h : crs I 34 P S r) (hws : psr ws P r') (g0 : J 34 0 = nI ws) (g1 : J 34 1 = nI 0) (g2 : J 34 2 = nI 0) (g3 : J 34 3 = nI 0) (g4 : J 34 4 = I 34 4 + nI 1) (g5 : ∀ j, 5 ≤ j → J 34 j = I 34 j) (g6 : ∀ k j, 35 ≤ k → k < 39 → J k j = I k j) (r1 : ∀ j, 15 ≤ j → j < 18 → r' j = nI 0) (r2 : r' 18 = r 18 + nI 1) (r3 : ∀ j, 19 ≤ j → j < 68 → r' j = r j) : crs J 34 P S r' := by
  obtain ⟨w, K, h1, h2, h3, h4, h5, h6, h7, h8, h9, h10, h11, h12, h13, h14, h15, h16, h17⟩ := h
  refine ⟨ws, K, g0, hws, ?_, ?_, ?_, ?_, ?_, ?_, ?_, ?_, ?_, ?_, h13, fun s hs => ?_, fun i hi => ?_, ?_, ?_⟩
  · rw [g1, r1 16 (by omega) (by omega)]
  · rw [g2, r1 15 (by omega) (by omega)]
  · rw [g3, r1 17 (by omega) (by omega)]
  · rw [g4, r2, h6]
  · rw [g5 5 (by omega), r3 19 (by omega) (by omega)]; exact h7
  · rw [g5 6 (by omega), r3 20 (by omega) (by omega)]; exact h8
  · rw [g5 7 (by omega), r3 28 (by omega) (by omega)]; exact h9
  · rw [g5 8 (by omega), r3 29 (by omega) (by omega)]; exact h10
  · rw [g5 9 (by omega)]; exact h11
  · rw [r3 30 (by omega) (by omega)]; exact h12
  · rw [g6 _ _ (by omega) (by omega), r3 _ (by omega) (by omega)]; exact h14 s hs
  · rw [g6 _ _ (by omega) (by omega), g6 _ _ (by omega) (by omega), g6 _ _ (by omega) (by omega), r3 _ (by omega) (by omega), r3 _ (by omega) (by omega), r3 _ (by omega) (by omega)]; exact h15 i hi
  · exact Or.inl (r1 15 (by omega) (by omega))
  · exact Or.inl (r1 17 (by omega) (by omega))
theorem s_open (H : REL (n, I, L, R)) : sim X (d + 30) mX12_open mX13_open [some (.ref 0)] [some (.ref 69)] (n, I, L, R) := by
  obtain ⟨σ, H⟩ := H
  have hR := H.1.1
  have hN := H.1.N
  have hn := H.1.n
  have hl := am_lt hN
  have hvw9 := am_lw hN
  obtain ⟨S1, S2, S3, S4, S5, S6, S7, ws, S8, S9⟩ := id (show relS I σ from H.2.2.1)
  obtain ⟨o1, o2, o3, o4⟩ := id S3
  obtain ⟨b1, b2, b3, b4, bz, b5, b6, b7⟩ := id S2
  obtain ⟨f1, f2, f3, f4, f5, f6, f7, f8, f9, f10⟩ := id S1
  obtain ⟨w, K, cw, cp, c16, c15, c17, c18, c19, c20, c28, c29, cK, c30, cK12, cpl, cpr, cs, cv⟩ := id (show crs I 34 (p_P σ) (p_S σ) (I 103) from H.2.2.2.2.1)
  unfold sim
  obtain ⟨u, nx, u1, u2, u3, u4, u5, u6⟩ : relU I R (p_P σ) (p_S σ) := H.2.2.2.2.2.1
  simp only [am_lv_of, rX12_open_0, rX12_open_1, rX12_open_4, rX12_open_5, rX12_open_8, ro_0_0 hR, ro_0_3 hR, ro_0_4 hR, ro_0_5 hR, ro_0_6 hR, ro_0_7 hR, ro_0_8 hR, ro_0_9 hR, ro_0_10 hR, ro_0_11 hR, ro_2_6 hR, ro_2_7 hR, ro_2_8 hR, ro_2_9 hR, ro_2_10 hR, ro_2_11 hR, ro_2_12 hR, ro_2_13 hR, ro_9_0 hR, ro_9_1 hR, ro_9_2 hR, ro_14_0 hR, ro_14_1 hR, ro_14_2 hR, ro_14_7 hR, ro_15_0 hR, ro_15_1 hR, ro_15_2 hR, ro_15_3 hR, ro_20_6 hR, ro_20_7 hR, ro_20_8 hR, ro_20_9 hR, ro_20_10 hR, ro_20_11 hR, ro_20_12 hR, ro_20_13 hR, ro_27_0 hR, ro_27_1 hR, ro_27_2 hR, ro_32_0 hR, ro_32_1 hR, ro_34_10 hR, ro_34_11 hR, ro_34_12 hR, ro_34_13 hR, ro_39_0 hR, ro_39_1 hR, ro_42_0 hR, ro_42_1 hR, ro_47_0 hR, ro_47_1 hR, ro_47_2 hR, ro_47_3 hR, ro_55_0 hR, ro_55_1 hR, ro_55_2 hR, ro_57_0 hR, ro_57_1 hR, ro_57_2 hR, ro_57_3 hR, ro_57_4 hR, ro_57_5 hR, ro_57_8 hR, sh_0, sh_1, sh_2, sh_3, sh_4, sh_5, sh_6, sh_7, sh_8, sh_9, sh_10, sh_11, sh_12, sh_13, sh_14, sh_15, sh_16, sh_17, sh_18, sh_19, sh_20, sh_21, sh_22, sh_23, sh_24, sh_25, sh_26, sh_27, sh_28, sh_29, sh_30, sh_31, sh_32, sh_33, sh_34, sh_35, sh_36, sh_37, sh_38, sh_39, sh_40, sh_41, sh_42, sh_43, sh_44, sh_45, sh_46, sh_47, sh_48, sh_49, sh_50, sh_51, sh_52, sh_53, sh_54, sh_55, sh_56, sh_57, sh_58, sh_59, sh_60, sh_61, sh_62, sh_63, sh_64, sh_65, sh_66, sh_67, sh_68, hl, hvw9, Nat.reduceLT, Nat.reduceAdd, Nat.reduceMul, ne_eq, Nat.reduceEqDiff, not_false_eq_true, or_true, true_or, or_false, false_or, and_true, true_and, and_self, Nat.reduceLeDiff, am_ci, am_cr, am_cn0, Option.toList_some, Option.toList_none, List.cons_append, List.nil_append, am_s0, am_s1, am_s1r, am_s2, am_s2r, am_s3r, nI_add, am_u_ne, am_u_at, am_u_n1, am_u_n2, am_w_ne]
  refine c_remember H.1 u3 u1 u5 u2 (fun n1 I1 L1 R1 c m1 m2 m3 m4 m5 m6 m7 m8 m9 m10 m11 => ?_)
  have hR1 := m2.1
  have hN1 := m2.N
  have hn1 := m2.n
  have hl1 := am_lt hN1
  have hvw91 := am_lw hN1
  have c116 := m3.1
  have low1 : ∀ k j, k < 116 → ¬ (k = 39 ∧ (j = 3 ∨ j = 4)) → I1 k j = I k j := fun k j k1 k2 => m8 k j (by omega) (by unfold coP; omega) k2
  clear hl hR hn
  have hl := hl1
  have hvw9 := hvw91
  have hR := hR1
  have hn := hn1
  have e25 : I1 2 5 = nI ws := by rw [low1 2 5 (by omega) (by omega)]; exact S8
  have e344 : I1 34 4 = I 34 4 := low1 34 4 (by omega) (by omega)
  simp only [am_lv_of, Option.toList_none, List.nil_append, rX12_open_11, rX12_open_12, rX12_open_15, rX12_open_16, rX12_open_19, rX12_open_22, rX12_open_25, rX12_open_26, rX12_open_29, rX12_open_32, rX3_openCase_0, rX3_openCase_1, rX3_openCase_2, rX3_openCase_5, rX3_openCase_6, rX3_openCase_7, rX3_openCase_10, rX3_openCase_11, rX3_openCase_12, rX3_openCase_15, rX3_openCase_16, rX3_openCase_17, rX3_openCase_20, rX3_openCase_21, rX3_openCase_22, rX3_openCase_25, rX3_openCase_26, rX3_openCase_27, rX3_openCase_30, ro_0_0 hR, ro_0_3 hR, ro_0_4 hR, ro_0_5 hR, ro_0_6 hR, ro_0_7 hR, ro_0_8 hR, ro_0_9 hR, ro_0_10 hR, ro_0_11 hR, ro_2_6 hR, ro_2_7 hR, ro_2_8 hR, ro_2_9 hR, ro_2_10 hR, ro_2_11 hR, ro_2_12 hR, ro_2_13 hR, ro_9_0 hR, ro_9_1 hR, ro_9_2 hR, ro_14_0 hR, ro_14_1 hR, ro_14_2 hR, ro_14_7 hR, ro_15_0 hR, ro_15_1 hR, ro_15_2 hR, ro_15_3 hR, ro_20_6 hR, ro_20_7 hR, ro_20_8 hR, ro_20_9 hR, ro_20_10 hR, ro_20_11 hR, ro_20_12 hR, ro_20_13 hR, ro_27_0 hR, ro_27_1 hR, ro_27_2 hR, ro_32_0 hR, ro_32_1 hR, ro_34_10 hR, ro_34_11 hR, ro_34_12 hR, ro_34_13 hR, ro_39_0 hR, ro_39_1 hR, ro_42_0 hR, ro_42_1 hR, ro_47_0 hR, ro_47_1 hR, ro_47_2 hR, ro_47_3 hR, ro_55_0 hR, ro_55_1 hR, ro_55_2 hR, ro_57_0 hR, ro_57_1 hR, ro_57_2 hR, ro_57_3 hR, ro_57_4 hR, ro_57_5 hR, ro_57_8 hR, sh_0, sh_1, sh_2, sh_3, sh_4, sh_5, sh_6, sh_7, sh_8, sh_9, sh_10, sh_11, sh_12, sh_13, sh_14, sh_15, sh_16, sh_17, sh_18, sh_19, sh_20, sh_21, sh_22, sh_23, sh_24, sh_25, sh_26, sh_27, sh_28, sh_29, sh_30, sh_31, sh_32, sh_33, sh_34, sh_35, sh_36, sh_37, sh_38, sh_39, sh_40, sh_41, sh_42, sh_43, sh_44, sh_45, sh_46, sh_47, sh_48, sh_49, sh_50, sh_51, sh_52, sh_53, sh_54, sh_55, sh_56, sh_57, sh_58, sh_59, sh_60, sh_61, sh_62, sh_63, sh_64, sh_65, sh_66, sh_67, sh_68, hl, hvw9, Nat.reduceLT, Nat.reduceAdd, Nat.reduceMul, ne_eq, Nat.reduceEqDiff, not_false_eq_true, or_true, true_or, or_false, false_or, and_true, true_and, and_self, Nat.reduceLeDiff, am_ci, am_cr, am_cn0, Option.toList_some, Option.toList_none, List.cons_append, List.nil_append, am_s0, am_s1, am_s1r, am_s2, am_s2r, am_s3r, nI_add, am_u_ne, am_u_at, am_u_n1, am_u_n2, am_w_ne, hn1, e25, e344]
  have g2 : am_ag ctP I1 (am_u (am_u (am_u (am_u (am_u I1 34 0 (nI ws)) 34 1 (nI 0)) 34 2 (nI 0)) 34 3 (nI 0)) 34 4 (I 34 4 + nI 1)) := by
    repeat (first | exact am_ag.refl | refine am_ag.u ?_ (by unfold ctP coP; omega))
  have f0 : (am_u (am_u (am_u (am_u (am_u I1 34 0 (nI ws)) 34 1 (nI 0)) 34 2 (nI 0)) 34 3 (nI 0)) 34 4 (I 34 4 + nI 1)) 34 0 = nI ws := by simp [am_u]
  have f1 : (am_u (am_u (am_u (am_u (am_u I1 34 0 (nI ws)) 34 1 (nI 0)) 34 2 (nI 0)) 34 3 (nI 0)) 34 4 (I 34 4 + nI 1)) 34 1 = nI 0 := by simp [am_u]
  have f2 : (am_u (am_u (am_u (am_u (am_u I1 34 0 (nI ws)) 34 1 (nI 0)) 34 2 (nI 0)) 34 3 (nI 0)) 34 4 (I 34 4 + nI 1)) 34 2 = nI 0 := by simp [am_u]
  have f3 : (am_u (am_u (am_u (am_u (am_u I1 34 0 (nI ws)) 34 1 (nI 0)) 34 2 (nI 0)) 34 3 (nI 0)) 34 4 (I 34 4 + nI 1)) 34 3 = nI 0 := by simp [am_u]
  have f4 : (am_u (am_u (am_u (am_u (am_u I1 34 0 (nI ws)) 34 1 (nI 0)) 34 2 (nI 0)) 34 3 (nI 0)) 34 4 (I 34 4 + nI 1)) 34 4 = I 34 4 + nI 1 := by simp [am_u]
  have f5 : ∀ j, 5 ≤ j → (am_u (am_u (am_u (am_u (am_u I1 34 0 (nI ws)) 34 1 (nI 0)) 34 2 (nI 0)) 34 3 (nI 0)) 34 4 (I 34 4 + nI 1)) 34 j = I 34 j := fun j hj => by
    simp only [am_u, show ¬ j = 0 by omega, show ¬ j = 1 by omega, show ¬ j = 2 by omega, show ¬ j = 3 by omega, show ¬ j = 4 by omega, if_false, if_true]
    exact low1 34 j (by omega) (by omega)
  have f6 : ∀ k j, 35 ≤ k → k < 39 → (am_u (am_u (am_u (am_u (am_u I1 34 0 (nI ws)) 34 1 (nI 0)) 34 2 (nI 0)) 34 3 (nI 0)) 34 4 (I 34 4 + nI 1)) k j = I k j := fun k j k1 k2 => by
    simp only [am_u, show ¬ k = 34 by omega, if_false]
    exact low1 k j (by omega) (by omega)
  generalize (am_u (am_u (am_u (am_u (am_u I1 34 0 (nI ws)) 34 1 (nI 0)) 34 2 (nI 0)) 34 3 (nI 0)) 34 4 (I 34 4 + nI 1)) = I2 at g2 f0 f1 f2 f3 f4 f5 f6 ⊢
  have M := rem_ct m1 m2 m3 m4 m5 m6 m7 m8 m9 m10 m11 H.co g2
  have low2 := M.low hN
  have T2 : relS I2 σ := relS.fr H.2.2.1 (fun k j hk => low2 k j (by omega) (by omega) (by omega) (by omega) (by omega))
  have r103 := ro_69_51 hR1
  simp only [am_lv_of, rX13_open_0, rX13_open_1, sh_69, hl, hvw9, Nat.reduceLT, Nat.reduceAdd, Nat.reduceMul, ne_eq, Nat.reduceEqDiff, not_false_eq_true, or_true, true_or, or_false, false_or, and_true, true_and, and_self, Nat.reduceLeDiff, am_ci, am_cr, am_cn0, Option.toList_some, Option.toList_none, List.cons_append, List.nil_append, am_s0, am_s1, am_s1r, am_s2, am_s2r, am_s3r, nI_add, am_u_ne, am_u_at, am_u_n1, am_u_n2, am_w_ne]
  refine c_copies hR1 hN1 hn1 T2.1 (fun I3 g3 e3 e3' => ?_)
  have e3 : ∀ j, j < 68 → I3 104 j = I 103 j := fun j hj => by rw [e3 j hj, low2 103 j (by omega) (by omega) (by omega) (by omega) (by omega)]
  have s3 : am_ag sc2 I2 I3 := g3.mono (fun k j z => by unfold sc2; omega)
  have T3 := T2.1.ag s3
  simp only [am_lv_of, Option.toList_none, List.nil_append, rX13_open_4, rX13_open_5, sh_69, hl, hvw9, Nat.reduceLT, Nat.reduceAdd, Nat.reduceMul, ne_eq, Nat.reduceEqDiff, not_false_eq_true, or_true, true_or, or_false, false_or, and_true, true_and, and_self, Nat.reduceLeDiff, am_ci, am_cr, am_cn0, Option.toList_some, Option.toList_none, List.cons_append, List.nil_append, am_s0, am_s1, am_s1r, am_s2, am_s2r, am_s3r, nI_add, am_u_ne, am_u_at, am_u_n1, am_u_n2, am_w_ne]
  refine c_opens hR1 hN1 hn1 T3 (fun I4 g4 e4 => ?_)
  have s4 : am_ag sc2 I2 I4 := s3.trans (g4.mono (fun k j z => by unfold sc2; omega))
  have e80 : ∀ j, I3 80 j = I 80 j := fun j => by rw [s3 80 j (by unfold sc2 sc1; omega), low2 80 j (by omega) (by omega) (by omega) (by omega) (by omega)]
  have x4 : ∀ j, j < 68 → I4 104 j = rOp I σ (I 103) j := fun j hj => by
    rw [e4 j]
    unfold rOp
    rw [e80, e3 18 (by omega), e3 j hj]
  have u5' : I4 69 54 = nI u := by rw [s4 69 54 (by unfold sc2 sc1; omega), low2 69 54 (by omega) (by omega) (by omega) (by omega) (by omega)]; exact u4
  simp only [am_lv_of, Option.toList_none, List.nil_append, rX13_open_8, rX13_open_9, sh_69, hl, hvw9, Nat.reduceLT, Nat.reduceAdd, Nat.reduceMul, ne_eq, Nat.reduceEqDiff, not_false_eq_true, or_true, true_or, or_false, false_or, and_true, true_and, and_self, Nat.reduceLeDiff, am_ci, am_cr, am_cn0, Option.toList_some, Option.toList_none, List.cons_append, List.nil_append, am_s0, am_s1, am_s1r, am_s2, am_s2r, am_s3r, nI_add, am_u_ne, am_u_at, am_u_n1, am_u_n2, am_w_ne]
  refine c_keeps hR1 hN1 hn1 u5' u1 (fun I6 g6 h6 e6 => ?_)
  have x6 : ∀ j, j < 68 → I6 103 j = rOp I σ (I 103) j := fun j hj => by rw [e6 j hj]; exact x4 j hj
  have y18 : rOp I σ (I 103) 18 = I 103 18 + nI 1 := by unfold rOp; rw [if_neg (by omega), if_neg (by omega), if_pos rfl]
  simp only [am_lv_of, Option.toList_none, List.nil_append, rX13_open_12, rX13_open_13, rX13_open_16, rX13_open_18, rX13_open_19, r103, sh_69, sh_103, hl, hvw9, Nat.reduceLT, Nat.reduceAdd, Nat.reduceMul, ne_eq, Nat.reduceEqDiff, not_false_eq_true, or_true, true_or, or_false, false_or, and_true, true_and, and_self, Nat.reduceLeDiff, am_ci, am_cr, am_cn0, Option.toList_some, Option.toList_none, List.cons_append, List.nil_append, am_s0, am_s1, am_s1r, am_s2, am_s2r, am_s3r, nI_add, am_u_ne, am_u_at, am_u_n1, am_u_n2, am_w_ne, x6 18 (by omega), y18, c18]
  have q5 : ∀ k j, k = 105 ∨ k = 103 → I4 k j = I k j := fun k j hk => by
    rw [s4 k j (by unfold sc2 sc1; omega)]
    exact low2 k j (by omega) (by omega) (by omega) (by omega) (by omega)
  have co2 : crs I2 34 (p_P σ) (p_S σ) (rOp I σ (I 103)) := by
    refine crs_open H.co (S9.mv' (fun j hj => ?_)) f0 f1 f2 f3 f4 f5 f6 (fun j j1 j2 => ?_) y18 (fun j j1 j2 => ?_)
    · unfold rOp opR
      by_cases e : j < p_P σ
      · rw [if_pos e, if_pos e]
      · rw [if_neg e, if_neg e, if_pos (by omega)]
    · unfold rOp; rw [if_neg (by omega), if_pos (by omega)]
    · unfold rOp; rw [if_neg (by omega), if_neg (by omega), if_neg (by omega)]
  refine ⟨σ, REL_step H u4 u1 u5 u2 M co2 ((s4.mono (fun k j z => Or.inl z)).trans (g6.mono (fun k j z => Or.inr z))) h6.1 (fun i j hi hj => ?_) (fun j hj => ?_) x6⟩
  · rw [h6.2.1 i j hi hj]; exact q5 105 _ (Or.inl rfl)
  · rw [h6.2.2 j hj]; exact q5 103 _ (Or.inr rfl)
end OP
