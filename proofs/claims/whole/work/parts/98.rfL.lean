--! 98
/-! TEXTS: the reference reads a child -/
theorem rd7 {pt k j : Nat} (h : (83 ≤ k ∧ k ≤ 86) ∨ k = 88) (h1 : 7 * pt ≤ j) (h2 : j < 7 * pt + 7) : rdF pt k j := Or.inr (Or.inr (Or.inr (Or.inr (Or.inr (Or.inr (Or.inr (Or.inr ⟨h, h1, h2⟩)))))))
theorem rd5 {pt k j : Nat} (h : k = 80 ∨ k = 81) (h1 : 5 * pt ≤ j) (h2 : j < 5 * pt + 5) : rdF pt k j := Or.inr (Or.inr (Or.inr (Or.inr (Or.inr (Or.inr (Or.inr (Or.inl ⟨h, h1, h2⟩)))))))
section FL
variable {X : am_X} {d n : Nat} {I : Nat → Nat → Int32} {L : Nat → Nat → Int64} {R : Nat → Nat → Option Nat} {Q : Option Value → am_M → Prop} {x : txt}
theorem c_childR {pt : Nat} {s : pst} (hx : x.1 ≤ 2000) (hR : am_OR R) (hN : 116 ≤ n) (hn : n ≤ 1000) (hpt : pt < 2) (S : RS I L x pt s) (hk : kK x (s_t s) = 2)
    (hE : ∀ e, childP x s = .inl e → ∀ J', am_ag (rdF pt) I J' → ddR J' x e → Q none (n, J', L, R))
    (hS : ∀ s', childP x s = .inr s' → ∀ J', am_ag (rdF pt) I J' → RS J' L x pt s' → Q none (n, J', L, R)) : am_E X (d + 6) mX13_tellOne 113 [some (.ref 69), none] [] (n, I, L, R) Q := by
  have hl := am_lt hN
  have hvw9 := am_lw hN
  obtain ⟨T, F, O, H, HD, h19, h12, tp, ts, tc, ⟨hm, hd⟩, tl⟩ := id S
  obtain ⟨c1, c2, c3⟩ := id tc
  have ec : chk x [2, 21, 59] (s_t s) = erB (stE (s_t s)) fun t1 => erB (tkE x 21 t1) fun t2 => erB (tkE x 59 t2) fun t3 => .inr t3 := by
    show erB (tkE x 2 (s_t s)) _ = _
    rw [tkE_y hk]
    rfl
  generalize hC : (s_C s).length = len at *
  have st : ∀ (J : Nat → Nat → Int32) (v : Int32) (e : Nat × Nat), ddR J x e → ddR (am_u J 88 (7 * pt + len) v) x e := fun J v e D => D.ag (fun j hj => am_u_n1 (by omega))
  simp only [am_lv_of, rX13_tellOne_113, rX13_tellOne_114, rX13_tellOne_115, rX13_tellOne_118, rX13_tellOne_119, rX13_tellOne_122, rX13_tellOne_123, rX13_tellOne_125, ro_69_1 hR, ro_69_3 hR, ro_69_5 hR, ro_69_6 hR, ro_69_7 hR, ro_69_8 hR, ro_69_9 hR, ro_69_21 hR, ro_69_22 hR, ro_69_23 hR, ro_69_24 hR, ro_69_25 hR, ro_69_26 hR, ro_69_27 hR, ro_69_28 hR, ro_69_29 hR, ro_69_30 hR, ro_69_31 hR, ro_69_32 hR, ro_69_33 hR, ro_69_34 hR, ro_69_35 hR, ro_69_36 hR, ro_69_38 hR, ro_69_39 hR, ro_69_40 hR, ro_69_41 hR, ro_69_42 hR, ro_69_44 hR, ro_69_45 hR, ro_69_46 hR, ro_69_48 hR, ro_69_49 hR, ro_69_51 hR, ro_69_52 hR, ro_69_55 hR, ro_69_56 hR, ro_69_57 hR, ro_69_58 hR, ro_69_59 hR, ro_69_61 hR, ro_69_62 hR, ro_69_63 hR, ro_69_64 hR, ro_69_65 hR, ro_69_66 hR, sh_69, sh_70, sh_71, sh_72, sh_73, sh_74, sh_75, sh_76, sh_77, sh_78, sh_79, sh_80, sh_81, sh_82, sh_83, sh_84, sh_85, sh_86, sh_87, sh_88, sh_89, sh_90, sh_91, sh_92, sh_93, sh_94, sh_95, sh_96, sh_97, sh_98, sh_99, sh_100, sh_101, sh_102, sh_103, sh_104, sh_105, sh_106, sh_107, sh_108, sh_109, sh_110, sh_111, sh_112, sh_113, sh_114, sh_115, hl, hvw9, Nat.reduceLT, Nat.reduceAdd, Nat.reduceMul, ne_eq, Nat.reduceEqDiff, not_false_eq_true, or_true, true_or, or_false, false_or, and_true, true_and, and_self, Nat.reduceLeDiff, am_ci, am_cr, am_cn0, Option.toList_some, Option.toList_none, List.cons_append, List.nil_append, am_s0, am_s1, am_s1r, am_s2, am_s2r, am_s3r, nI_add, am_u_ne, am_u_at, am_u_n1, am_u_n2, am_w_ne, h19, hpt, c1]
  refine c_roomForR (d := d + 3) (cnt := len) (lim := 7) hR hN hn c2 (by omega) T (by omega) (fun e he J1 g1 D => ?_) (fun t1 ht J1 g1 T1 => ?_)
  · have zf : ¬ nI e.1 ≤ 0 := nI_nle (by have := D.1; omega) (by have := D.1; omega)
    simp only [am_lv_of, Option.toList_none, List.nil_append, rX13_tellOne_128, rX13_tellOne_129, rX13_tellOne_132, rX13_tellOne_135, ro_69_1 hR, ro_69_3 hR, ro_69_5 hR, ro_69_6 hR, ro_69_7 hR, ro_69_8 hR, ro_69_9 hR, ro_69_21 hR, ro_69_22 hR, ro_69_23 hR, ro_69_24 hR, ro_69_25 hR, ro_69_26 hR, ro_69_27 hR, ro_69_28 hR, ro_69_29 hR, ro_69_30 hR, ro_69_31 hR, ro_69_32 hR, ro_69_33 hR, ro_69_34 hR, ro_69_35 hR, ro_69_36 hR, ro_69_38 hR, ro_69_39 hR, ro_69_40 hR, ro_69_41 hR, ro_69_42 hR, ro_69_44 hR, ro_69_45 hR, ro_69_46 hR, ro_69_48 hR, ro_69_49 hR, ro_69_51 hR, ro_69_52 hR, ro_69_55 hR, ro_69_56 hR, ro_69_57 hR, ro_69_58 hR, ro_69_59 hR, ro_69_61 hR, ro_69_62 hR, ro_69_63 hR, ro_69_64 hR, ro_69_65 hR, ro_69_66 hR, sh_69, sh_70, sh_71, sh_72, sh_73, sh_74, sh_75, sh_76, sh_77, sh_78, sh_79, sh_80, sh_81, sh_82, sh_83, sh_84, sh_85, sh_86, sh_87, sh_88, sh_89, sh_90, sh_91, sh_92, sh_93, sh_94, sh_95, sh_96, sh_97, sh_98, sh_99, sh_100, sh_101, sh_102, sh_103, sh_104, sh_105, sh_106, sh_107, sh_108, sh_109, sh_110, sh_111, sh_112, sh_113, sh_114, sh_115, hl, hvw9, Nat.reduceLT, Nat.reduceAdd, Nat.reduceMul, ne_eq, Nat.reduceEqDiff, not_false_eq_true, or_true, true_or, or_false, false_or, and_true, true_and, and_self, Nat.reduceLeDiff, am_ci, am_cr, am_cn0, Option.toList_some, Option.toList_none, List.cons_append, List.nil_append, am_s0, am_s1, am_s1r, am_s2, am_s2r, am_s3r, nI_add, am_u_ne, am_u_at, am_u_n1, am_u_n2, am_w_ne, ↓reduceIte, D.2.1, zf]
    refine hE e ?_ J1 (bd_rd g1) D
    unfold childP
    rw [hC]
    by_cases h : len = 7
    · rw [if_pos h] at he
      rw [if_pos (by omega)]
      cases he
      rfl
    · rw [if_neg h] at he
      rw [if_neg (by omega), ec, he]
      rfl
  have h7 : ¬ len = 7 := fun h => by rw [if_pos h] at ht; cases ht
  rw [if_neg h7] at ht
  obtain ⟨t4, rfl⟩ := stE_inr ht
  have q19 : J1 69 19 = nI pt := by rw [g1 69 19 (by omega)]; exact h19
  have q87 : J1 87 pt = nI len := by rw [g1 87 pt (by omega)]; exact c1
  have kl := kP_lt (x := x) (t := s_t s) (by omega)
  have zf0 : nI 0 ≤ 0 := by decide
  have z0 : (nI 0 = 0) = True := eq_true rfl
  have ix : nI 7 * nI pt = nI (7 * pt) := (by decide : ∀ p, p < 2 → nI 7 * nI p = nI (7 * p)) pt hpt
  have i14 : 7 * pt + len < 14 := by omega
  have G1 : am_ag (rdF pt) I J1 := st_rd g1
  simp only [am_lv_of, Option.toList_none, List.nil_append, rX13_tellOne_128, rX13_tellOne_129, rX13_tellOne_132, rX13_tellOne_136, rX13_tellOne_137, rX13_tellOne_140, rX13_tellOne_142, rX13_tellOne_143, rX13_tellOne_146, rX13_tellOne_147, rX13_tellOne_148, rX13_tellOne_151, rX13_tellOne_152, rX13_tellOne_155, rX13_tellOne_156, rX13_tellOne_157, rX13_tellOne_158, rX13_tellOne_159, rX13_tellOne_161, ro_69_1 hR, ro_69_3 hR, ro_69_5 hR, ro_69_6 hR, ro_69_7 hR, ro_69_8 hR, ro_69_9 hR, ro_69_21 hR, ro_69_22 hR, ro_69_23 hR, ro_69_24 hR, ro_69_25 hR, ro_69_26 hR, ro_69_27 hR, ro_69_28 hR, ro_69_29 hR, ro_69_30 hR, ro_69_31 hR, ro_69_32 hR, ro_69_33 hR, ro_69_34 hR, ro_69_35 hR, ro_69_36 hR, ro_69_38 hR, ro_69_39 hR, ro_69_40 hR, ro_69_41 hR, ro_69_42 hR, ro_69_44 hR, ro_69_45 hR, ro_69_46 hR, ro_69_48 hR, ro_69_49 hR, ro_69_51 hR, ro_69_52 hR, ro_69_55 hR, ro_69_56 hR, ro_69_57 hR, ro_69_58 hR, ro_69_59 hR, ro_69_61 hR, ro_69_62 hR, ro_69_63 hR, ro_69_64 hR, ro_69_65 hR, ro_69_66 hR, sh_69, sh_70, sh_71, sh_72, sh_73, sh_74, sh_75, sh_76, sh_77, sh_78, sh_79, sh_80, sh_81, sh_82, sh_83, sh_84, sh_85, sh_86, sh_87, sh_88, sh_89, sh_90, sh_91, sh_92, sh_93, sh_94, sh_95, sh_96, sh_97, sh_98, sh_99, sh_100, sh_101, sh_102, sh_103, sh_104, sh_105, sh_106, sh_107, sh_108, sh_109, sh_110, sh_111, sh_112, sh_113, sh_114, sh_115, hl, hvw9, Nat.reduceLT, Nat.reduceAdd, Nat.reduceMul, ne_eq, Nat.reduceEqDiff, not_false_eq_true, or_true, true_or, or_false, false_or, and_true, true_and, and_self, Nat.reduceLeDiff, am_ci, am_cr, am_cn0, Option.toList_some, Option.toList_none, List.cons_append, List.nil_append, am_s0, am_s1, am_s1r, am_s2, am_s2r, am_s3r, nI_add, am_u_ne, am_u_at, am_u_n1, am_u_n2, am_w_ne, ↓reduceIte, T1.2.2.2.2, zf0, q19, hpt, q87, ix]
  refine c_boundedR (d := d + 3) (hi := 9) hx hR hN hn (by omega) T1 (F.ag (fun j hj => g1 69 j (by omega))) (O.le (by omega)) (fun e he J2 g2 D v => ?_) (fun t2 ht2 J2 g2 T2 F2 O2 => ?_)
  · have D' := st J2 (nI v) e D
    have zf : ¬ nI e.1 = 0 := nI_ne0 (by have := D.1; omega) (by have := D.1; omega)
    simp only [am_lv_of, Option.toList_some, List.cons_append, List.nil_append, rX13_tellOne_164, rX13_tellOne_165, rX13_tellOne_166, rX13_tellOne_167, ro_69_1 hR, ro_69_3 hR, ro_69_5 hR, ro_69_6 hR, ro_69_7 hR, ro_69_8 hR, ro_69_9 hR, ro_69_21 hR, ro_69_22 hR, ro_69_23 hR, ro_69_24 hR, ro_69_25 hR, ro_69_26 hR, ro_69_27 hR, ro_69_28 hR, ro_69_29 hR, ro_69_30 hR, ro_69_31 hR, ro_69_32 hR, ro_69_33 hR, ro_69_34 hR, ro_69_35 hR, ro_69_36 hR, ro_69_38 hR, ro_69_39 hR, ro_69_40 hR, ro_69_41 hR, ro_69_42 hR, ro_69_44 hR, ro_69_45 hR, ro_69_46 hR, ro_69_48 hR, ro_69_49 hR, ro_69_51 hR, ro_69_52 hR, ro_69_55 hR, ro_69_56 hR, ro_69_57 hR, ro_69_58 hR, ro_69_59 hR, ro_69_61 hR, ro_69_62 hR, ro_69_63 hR, ro_69_64 hR, ro_69_65 hR, ro_69_66 hR, sh_69, sh_70, sh_71, sh_72, sh_73, sh_74, sh_75, sh_76, sh_77, sh_78, sh_79, sh_80, sh_81, sh_82, sh_83, sh_84, sh_85, sh_86, sh_87, sh_88, sh_89, sh_90, sh_91, sh_92, sh_93, sh_94, sh_95, sh_96, sh_97, sh_98, sh_99, sh_100, sh_101, sh_102, sh_103, sh_104, sh_105, sh_106, sh_107, sh_108, sh_109, sh_110, sh_111, sh_112, sh_113, sh_114, sh_115, hl, hvw9, Nat.reduceLT, Nat.reduceAdd, Nat.reduceMul, ne_eq, Nat.reduceEqDiff, not_false_eq_true, or_true, true_or, or_false, false_or, and_true, true_and, and_self, Nat.reduceLeDiff, am_ci, am_cr, am_cn0, Option.toList_some, Option.toList_none, List.cons_append, List.nil_append, am_s0, am_s1, am_s1r, am_s2, am_s2r, am_s3r, nI_add, am_u_ne, am_u_at, am_u_n1, am_u_n2, am_w_ne, hn, i14, c_mustD hR hN D', Option.toList_none, rX13_tellOne_170, rX13_tellOne_171, rX13_tellOne_174, ↓reduceIte, D.2.1, zf, not_false_eq_true, rX13_tellOne_303]
    exact hE e (by unfold childP; rw [hC, if_neg (by omega), ec, ht, erB_inr, he]; rfl) _ ((G1.trans (bd_rd g2)).u (rd7 (Or.inr rfl) (by omega) (by omega))) D'
  obtain ⟨hk2, t5, rfl⟩ := tkE_inr ht2
  have G2 : am_ag (rdF pt) I J2 := G1.trans (bd_rd g2)
  simp only [am_lv_of, Option.toList_some, List.cons_append, List.nil_append, rX13_tellOne_164, rX13_tellOne_165, rX13_tellOne_166, rX13_tellOne_167, ro_69_1 hR, ro_69_3 hR, ro_69_5 hR, ro_69_6 hR, ro_69_7 hR, ro_69_8 hR, ro_69_9 hR, ro_69_21 hR, ro_69_22 hR, ro_69_23 hR, ro_69_24 hR, ro_69_25 hR, ro_69_26 hR, ro_69_27 hR, ro_69_28 hR, ro_69_29 hR, ro_69_30 hR, ro_69_31 hR, ro_69_32 hR, ro_69_33 hR, ro_69_34 hR, ro_69_35 hR, ro_69_36 hR, ro_69_38 hR, ro_69_39 hR, ro_69_40 hR, ro_69_41 hR, ro_69_42 hR, ro_69_44 hR, ro_69_45 hR, ro_69_46 hR, ro_69_48 hR, ro_69_49 hR, ro_69_51 hR, ro_69_52 hR, ro_69_55 hR, ro_69_56 hR, ro_69_57 hR, ro_69_58 hR, ro_69_59 hR, ro_69_61 hR, ro_69_62 hR, ro_69_63 hR, ro_69_64 hR, ro_69_65 hR, ro_69_66 hR, sh_69, sh_70, sh_71, sh_72, sh_73, sh_74, sh_75, sh_76, sh_77, sh_78, sh_79, sh_80, sh_81, sh_82, sh_83, sh_84, sh_85, sh_86, sh_87, sh_88, sh_89, sh_90, sh_91, sh_92, sh_93, sh_94, sh_95, sh_96, sh_97, sh_98, sh_99, sh_100, sh_101, sh_102, sh_103, sh_104, sh_105, sh_106, sh_107, sh_108, sh_109, sh_110, sh_111, sh_112, sh_113, sh_114, sh_115, hl, hvw9, Nat.reduceLT, Nat.reduceAdd, Nat.reduceMul, ne_eq, Nat.reduceEqDiff, not_false_eq_true, or_true, true_or, or_false, false_or, and_true, true_and, and_self, Nat.reduceLeDiff, am_ci, am_cr, am_cn0, Option.toList_some, Option.toList_none, List.cons_append, List.nil_append, am_s0, am_s1, am_s1r, am_s2, am_s2r, am_s3r, nI_add, am_u_ne, am_u_at, am_u_n1, am_u_n2, am_w_ne, hn, i14]
  have T3 : rsT (am_u J2 88 (7 * pt + len) (nI (kV x (s_t s + 1)))) L x (s_t s + 1 + 1) := T2.fr (fun k j hk => am_u_n1 (by omega))
  refine c_mustR (d := d + 3) (c := 59) (r := 4) hR hN hn T3 (by omega) rfl (by omega) rfl (fun e he J4 g4 D => ?_) (fun t3 ht3 J4 g4 T4 => ?_)
  · have zf : ¬ nI e.1 = 0 := nI_ne0 (by have := D.1; omega) (by have := D.1; omega)
    simp only [am_lv_of, Option.toList_none, List.nil_append, rX13_tellOne_170, rX13_tellOne_171, rX13_tellOne_174, ro_69_1 hR, ro_69_3 hR, ro_69_5 hR, ro_69_6 hR, ro_69_7 hR, ro_69_8 hR, ro_69_9 hR, ro_69_21 hR, ro_69_22 hR, ro_69_23 hR, ro_69_24 hR, ro_69_25 hR, ro_69_26 hR, ro_69_27 hR, ro_69_28 hR, ro_69_29 hR, ro_69_30 hR, ro_69_31 hR, ro_69_32 hR, ro_69_33 hR, ro_69_34 hR, ro_69_35 hR, ro_69_36 hR, ro_69_38 hR, ro_69_39 hR, ro_69_40 hR, ro_69_41 hR, ro_69_42 hR, ro_69_44 hR, ro_69_45 hR, ro_69_46 hR, ro_69_48 hR, ro_69_49 hR, ro_69_51 hR, ro_69_52 hR, ro_69_55 hR, ro_69_56 hR, ro_69_57 hR, ro_69_58 hR, ro_69_59 hR, ro_69_61 hR, ro_69_62 hR, ro_69_63 hR, ro_69_64 hR, ro_69_65 hR, ro_69_66 hR, sh_69, sh_70, sh_71, sh_72, sh_73, sh_74, sh_75, sh_76, sh_77, sh_78, sh_79, sh_80, sh_81, sh_82, sh_83, sh_84, sh_85, sh_86, sh_87, sh_88, sh_89, sh_90, sh_91, sh_92, sh_93, sh_94, sh_95, sh_96, sh_97, sh_98, sh_99, sh_100, sh_101, sh_102, sh_103, sh_104, sh_105, sh_106, sh_107, sh_108, sh_109, sh_110, sh_111, sh_112, sh_113, sh_114, sh_115, hl, hvw9, Nat.reduceLT, Nat.reduceAdd, Nat.reduceMul, ne_eq, Nat.reduceEqDiff, not_false_eq_true, or_true, true_or, or_false, false_or, and_true, true_and, and_self, Nat.reduceLeDiff, am_ci, am_cr, am_cn0, Option.toList_some, Option.toList_none, List.cons_append, List.nil_append, am_s0, am_s1, am_s1r, am_s2, am_s2r, am_s3r, nI_add, am_u_ne, am_u_at, am_u_n1, am_u_n2, am_w_ne, ↓reduceIte, D.2.1, zf, not_false_eq_true, rX13_tellOne_303]
    exact hE e (by unfold childP; rw [hC, if_neg (by omega), ec, ht, erB_inr, ht2, erB_inr, he]; rfl) _ ((G2.u (rd7 (Or.inr rfl) (by omega) (by omega))).trans (dd_rd g4)) D
  obtain ⟨hk3, t6, rfl⟩ := tkE_inr ht3
  have kl2 := kP_lt (x := x) (t := s_t s + 1 + 1) (by omega)
  have G4 : am_ag (fun k j => bdP k j ∨ (k = 88 ∧ j = 7 * pt + len)) I J4 := (((g1.mono (fun k j z => by unfold bdP; omega)).trans (g2.mono (fun k j z => Or.inl z))).u (Or.inr ⟨rfl, rfl⟩)).trans (g4.mono (fun k j z => by unfold bdP; omega))
  have r19 : J4 69 19 = nI pt := by rw [G4 69 19 (by unfold bdP; omega)]; exact h19
  have r87 : J4 87 pt = nI len := by rw [G4 87 pt (by unfold bdP; omega)]; exact c1
  have r88 : J4 88 (7 * pt + len) = nI (kV x (s_t s + 1)) := by rw [g4 88 _ (by omega)]; exact am_u_at
  simp only [am_lv_of, Option.toList_none, List.nil_append, rX13_tellOne_170, rX13_tellOne_171, rX13_tellOne_174, rX13_tellOne_177, rX13_tellOne_178, rX13_tellOne_181, rX13_tellOne_182, rX13_tellOne_185, rX13_tellOne_186, rX13_tellOne_187, rX13_tellOne_188, rX13_tellOne_189, rX13_tellOne_190, ro_69_1 hR, ro_69_3 hR, ro_69_5 hR, ro_69_6 hR, ro_69_7 hR, ro_69_8 hR, ro_69_9 hR, ro_69_21 hR, ro_69_22 hR, ro_69_23 hR, ro_69_24 hR, ro_69_25 hR, ro_69_26 hR, ro_69_27 hR, ro_69_28 hR, ro_69_29 hR, ro_69_30 hR, ro_69_31 hR, ro_69_32 hR, ro_69_33 hR, ro_69_34 hR, ro_69_35 hR, ro_69_36 hR, ro_69_38 hR, ro_69_39 hR, ro_69_40 hR, ro_69_41 hR, ro_69_42 hR, ro_69_44 hR, ro_69_45 hR, ro_69_46 hR, ro_69_48 hR, ro_69_49 hR, ro_69_51 hR, ro_69_52 hR, ro_69_55 hR, ro_69_56 hR, ro_69_57 hR, ro_69_58 hR, ro_69_59 hR, ro_69_61 hR, ro_69_62 hR, ro_69_63 hR, ro_69_64 hR, ro_69_65 hR, ro_69_66 hR, sh_69, sh_70, sh_71, sh_72, sh_73, sh_74, sh_75, sh_76, sh_77, sh_78, sh_79, sh_80, sh_81, sh_82, sh_83, sh_84, sh_85, sh_86, sh_87, sh_88, sh_89, sh_90, sh_91, sh_92, sh_93, sh_94, sh_95, sh_96, sh_97, sh_98, sh_99, sh_100, sh_101, sh_102, sh_103, sh_104, sh_105, sh_106, sh_107, sh_108, sh_109, sh_110, sh_111, sh_112, sh_113, sh_114, sh_115, hl, hvw9, Nat.reduceLT, Nat.reduceAdd, Nat.reduceMul, ne_eq, Nat.reduceEqDiff, not_false_eq_true, or_true, true_or, or_false, false_or, and_true, true_and, and_self, Nat.reduceLeDiff, am_ci, am_cr, am_cn0, Option.toList_some, Option.toList_none, List.cons_append, List.nil_append, am_s0, am_s1, am_s1r, am_s2, am_s2r, am_s3r, nI_add, am_u_ne, am_u_at, am_u_n1, am_u_n2, am_w_ne, ↓reduceIte, hn, hpt, T4.2.2.2.2, z0, not_true_eq_false, r19, r87, rX13_tellOne_303]
  have G5 : am_ag (fun k j => bdP k j ∨ (k = 88 ∧ j = 7 * pt + len) ∨ (k = 87 ∧ j = pt)) I (am_u J4 87 pt (nI (len + 1))) := (G4.mono (fun k j z => z.elim Or.inl (fun y => Or.inr (Or.inl y)))).u (Or.inr (Or.inr ⟨rfl, rfl⟩))
  have e87 : am_u J4 87 pt (nI (len + 1)) 87 pt = nI (len + 1) := am_u_at
  have o5 : ∀ k j, k ≠ 87 → am_u J4 87 pt (nI (len + 1)) k j = J4 k j := fun k j h => am_u_n1 h
  have GR : am_ag (rdF pt) I (am_u J4 87 pt (nI (len + 1))) := ((G2.u (rd7 (Or.inr rfl) (by omega) (by omega))).trans (st_rd g4)).u (rdA (by omega))
  generalize am_u J4 87 pt (nI (len + 1)) = J5 at *
  refine hS (s_t s + 1 + 1 + 1, nt x (s_f s) (decide (9 < kV x (s_t s + 1))) 5 (s_t s + 1), s_n s, s_P s, s_S s, s_C s ++ [kV x (s_t s + 1)], s_m s, s_d s, s_l s) (by unfold childP; rw [hC, if_neg (by omega), ec, ht, erB_inr, ht2, erB_inr, ht3]; rfl) J5 GR (RS_mk (T4.fr (fun k j hk => o5 k j (by omega))) (F2.ag (fun j hj => by rw [o5 69 j (by omega), g4 69 j (by omega), am_u_n1 (by omega)])) (O2.le (by omega)) (H.ag (fun k j hk => G5 k j (by unfold bdP; omega))) ⟨HD.1, fun z => HD.2 (nt_z z)⟩ (by rw [G5 69 19 (by unfold bdP; omega)]; exact h19) (by rw [G5 69 12 (by unfold bdP; omega)]; exact h12) (tp.ag (fun k j k1 k2 => G5 k j (by unfold bdP; omega))) (ts.ag (fun z => nt_z z) (fun k j k1 k2 => G5 k j (by unfold bdP; omega))) ?_ ⟨?_, ?_⟩ (tl.ag (by omega) (fun k j hk => G5 k j (by unfold bdP; omega))))
  · have le : (s_C s ++ [kV x (s_t s + 1)]).length = len + 1 := by rw [List.length_append, hC]; rfl
    refine ⟨by rw [le]; exact e87, by rw [le]; omega, fun i v hv => ?_⟩
    by_cases hi : i < len
    · rw [List.getElem?_append_left (by omega)] at hv
      rw [G5 88 _ (by unfold bdP; omega)]
      exact c3 i v hv
    · have hi2 := (List.getElem?_eq_some_iff.mp hv).1
      have hi3 : i = (s_C s).length := by omega
      subst hi3
      rw [List.getElem?_append_right (Nat.le_refl _), Nat.sub_self] at hv
      cases hv
      rw [hC, o5 88 _ (by omega)]
      exact r88
  · rw [G5 89 pt (by unfold bdP; omega)]; exact hm
  · rw [G5 90 pt (by unfold bdP; omega)]; exact hd
end FL
