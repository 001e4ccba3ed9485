--! 98
/-! TEXTS: the reference reads an E, brackets -/
section FD
variable {X : am_X} {d n : Nat} {I : Nat → Nat → Int32} {L : Nat → Nat → Int64} {R : Nat → Nat → Option Nat} {Q : Option Value → am_M → Prop} {x : txt}
theorem lA_dead {pt : Nat} {e : Nat × Nat} {w : Nat} (hR : am_OR R) (hN : 116 ≤ n) (hn : n ≤ 1000) (D : ddR I x e) (h47 : I 69 47 = nI w) (hw : w < 64) (hQ : ∀ I', am_ag (erP pt) I I' → ddR I' x e → Q none (n, I', L, R)) : am_E X (d + 3) mX13_expression 60 lsE [] (n, I, L, R) Q := by
  have hl := am_lt hN
  have hvw9 := am_lw hN
  have z0 : (nI 0 = 0) = True := eq_true rfl
  have zf : ¬ nI e.1 ≤ 0 := nI_nle (by have := D.1; omega) (by have := D.1; omega)
  have g : am_ag (erP pt) I (am_u (am_u I 100 w (nI 6)) 69 47 (nI (w + 1))) := by
    refine am_ag.u (am_ag.u am_ag.refl ?_) ?_
    · unfold erP; omega
    · unfold erP; omega
  have D2 : ddR (am_u (am_u I 100 w (nI 6)) 69 47 (nI (w + 1))) x e := D.ag (fun j hj => by rw [am_u_n2 (by omega), am_u_n1 (by omega)])
  have q13 : am_u (am_u I 100 w (nI 6)) 69 47 (nI (w + 1)) 69 13 = nI e.1 := D2.2.1
  unfold lsE
  simp only [am_lv_of, rX13_expression_60, rX13_expression_61, rX13_expression_64, rX13_expression_65, rX13_expression_68, rX13_expression_70, rX13_expression_71, rX13_expression_72, rX13_expression_73, rX13_expression_76, rX13_expression_77, rX13_expression_78, rX13_expression_81, ro_69_1 hR, ro_69_3 hR, ro_69_5 hR, ro_69_6 hR, ro_69_7 hR, ro_69_8 hR, ro_69_9 hR, ro_69_21 hR, ro_69_22 hR, ro_69_23 hR, ro_69_24 hR, ro_69_25 hR, ro_69_26 hR, ro_69_27 hR, ro_69_28 hR, ro_69_29 hR, ro_69_30 hR, ro_69_31 hR, ro_69_32 hR, ro_69_33 hR, ro_69_34 hR, ro_69_35 hR, ro_69_36 hR, ro_69_38 hR, ro_69_39 hR, ro_69_40 hR, ro_69_41 hR, ro_69_42 hR, ro_69_44 hR, ro_69_45 hR, ro_69_46 hR, ro_69_48 hR, ro_69_49 hR, ro_69_51 hR, ro_69_52 hR, ro_69_55 hR, ro_69_56 hR, ro_69_57 hR, ro_69_58 hR, ro_69_59 hR, ro_69_61 hR, ro_69_62 hR, ro_69_63 hR, ro_69_64 hR, ro_69_65 hR, ro_69_66 hR, sh_69, sh_70, sh_71, sh_72, sh_73, sh_74, sh_75, sh_76, sh_77, sh_78, sh_79, sh_80, sh_81, sh_82, sh_83, sh_84, sh_85, sh_86, sh_87, sh_88, sh_89, sh_90, sh_91, sh_92, sh_93, sh_94, sh_95, sh_96, sh_97, sh_98, sh_99, sh_100, sh_101, sh_102, sh_103, sh_104, sh_105, sh_106, sh_107, sh_108, sh_109, sh_110, sh_111, sh_112, sh_113, sh_114, sh_115, hl, hvw9, Nat.reduceLT, Nat.reduceAdd, Nat.reduceMul, ne_eq, Nat.reduceEqDiff, not_false_eq_true, or_true, true_or, or_false, false_or, and_true, true_and, and_self, Nat.reduceLeDiff, am_ci, am_cr, am_cn0, Option.toList_some, Option.toList_none, List.cons_append, List.nil_append, am_s0, am_s1, am_s1r, am_s2, am_s2r, am_s3r, nI_add, am_u_ne, am_u_at, am_u_n1, am_u_n2, am_w_ne, hn, h47, hw]
  generalize am_u (am_u I 100 w (nI 6)) 69 47 (nI (w + 1)) = J at g D2 q13 ⊢
  simp only [am_lv_of, rX13_expression_23, rX13_expression_24, rX13_expression_26, rX13_expression_29, rX13_expression_84, rX13_expression_85, ro_69_1 hR, ro_69_3 hR, ro_69_5 hR, ro_69_6 hR, ro_69_7 hR, ro_69_8 hR, ro_69_9 hR, ro_69_21 hR, ro_69_22 hR, ro_69_23 hR, ro_69_24 hR, ro_69_25 hR, ro_69_26 hR, ro_69_27 hR, ro_69_28 hR, ro_69_29 hR, ro_69_30 hR, ro_69_31 hR, ro_69_32 hR, ro_69_33 hR, ro_69_34 hR, ro_69_35 hR, ro_69_36 hR, ro_69_38 hR, ro_69_39 hR, ro_69_40 hR, ro_69_41 hR, ro_69_42 hR, ro_69_44 hR, ro_69_45 hR, ro_69_46 hR, ro_69_48 hR, ro_69_49 hR, ro_69_51 hR, ro_69_52 hR, ro_69_55 hR, ro_69_56 hR, ro_69_57 hR, ro_69_58 hR, ro_69_59 hR, ro_69_61 hR, ro_69_62 hR, ro_69_63 hR, ro_69_64 hR, ro_69_65 hR, ro_69_66 hR, sh_69, sh_70, sh_71, sh_72, sh_73, sh_74, sh_75, sh_76, sh_77, sh_78, sh_79, sh_80, sh_81, sh_82, sh_83, sh_84, sh_85, sh_86, sh_87, sh_88, sh_89, sh_90, sh_91, sh_92, sh_93, sh_94, sh_95, sh_96, sh_97, sh_98, sh_99, sh_100, sh_101, sh_102, sh_103, sh_104, sh_105, sh_106, sh_107, sh_108, sh_109, sh_110, sh_111, sh_112, sh_113, sh_114, sh_115, hl, hvw9, Nat.reduceLT, Nat.reduceAdd, Nat.reduceMul, ne_eq, Nat.reduceEqDiff, not_false_eq_true, or_true, true_or, or_false, false_or, and_true, true_and, and_self, Nat.reduceLeDiff, am_ci, am_cr, am_cn0, Option.toList_some, Option.toList_none, List.cons_append, List.nil_append, am_s0, am_s1, am_s1r, am_s2, am_s2r, am_s3r, nI_add, am_u_ne, am_u_at, am_u_n1, am_u_n2, am_w_ne, ↓reduceIte, c_isD hR hN D2, z0, c_unitD hR hN D2, Option.toList_none, rX13_expression_88, rX13_expression_89, rX13_expression_92, rX13_expression_95, q13, zf]
  exact hQ J g D2
theorem c_unR {pt lv : Nat} (hR : am_OR R) (hN : 116 ≤ n) (hn : n ≤ 1000) (hlv : lv ≤ 6) (hSm : ∀ l, lv = l + 1 → uRC X n L R x pt (d + 3) (3 * l + 2) (sumP x (unitP x l)) hrd (fun w => okS w ∧ w ≠ 6) 2 l) : uRC X n L R x pt (d + 3) (3 * lv) (unitP x lv) (fun _ => True) (fun _ => False) 0 lv := by
  have hl := am_lt hN
  have hvw9 := am_lw hN
  have z0 : (nI 0 = 0) = True := eq_true rfl
  have z00 : nI 0 ≤ 0 := by decide
  have zt : ¬ bI true = 0 := by decide
  have zf : (bI false = 0) = True := eq_true (by decide)
  intro t c W J Q T _ hop hlen hE hS
  obtain ⟨T1, h12, h47, hp, hw, h43, hc, hpt⟩ := id T
  have t4 := T1.2.2.1
  have i6 : ∀ {Q'}, am_E X (d + 2) mX13_is 0 [some (.ref 69), some (.int (nI 6))] [] (n, J, L, R) Q' ↔ Q' (some (.int (bI (decide (kK x t = 40))))) (n, J, L, R) := c_isR (c := 40) (r := 6) hR hN T1 (by omega) rfl rfl
  have lsE' : lsE = [some (.ref 69), some (.int (nI 0)), some (.int (nI 1))] := rfl
  rw [lsE']
  by_cases k40 : kK x t = 40
  · have w64 : W.length < 64 := by omega
    have hbr : unitP x lv t = match lv with
        | 0 => .inl (2, t)
        | l + 1 => erB (stE t) fun t1 => erB (sumP x (unitP x l) t1) fun a => erB (tkE x 41 a.1) fun t2 => .inr (t2, a.2) := by
      cases lv with
      | zero => show unit0 x t _ = _; unfold unit0; rw [if_neg (by omega), if_neg (by omega), if_pos k40]
      | succ l => show unit0 x t _ = _; unfold unit0; rw [if_neg (by omega), if_neg (by omega), if_pos k40]
    cases lv with
    | zero =>
      have o6 : (nI (nopn W) = nI 6) = True := eq_true (by rw [hop])
      have gA : am_ag (erP pt) J (am_u (am_u (am_u J 69 13 (nI 2)) 69 14 (nI (kP x t))) 69 12 (nI (nopn W + 1))) := by
        refine am_ag.u (am_ag.u (am_ag.u am_ag.refl ?_) ?_) ?_
        · unfold erP; omega
        · unfold erP; omega
        · unfold erP; omega
      have DA : ddR (am_u (am_u (am_u J 69 13 (nI 2)) 69 14 (nI (kP x t))) 69 12 (nI (nopn W + 1))) x (2, t) := (fl_D (k := 2) (by omega) T1).ag (fun j hj => am_u_n2 (by omega))
      have q47 : am_u (am_u (am_u J 69 13 (nI 2)) 69 14 (nI (kP x t))) 69 12 (nI (nopn W + 1)) 69 47 = nI W.length := by rw [am_u_n2 (by omega), am_u_n2 (by omega), am_u_n2 (by omega)]; exact h47
      have q11 : am_u (am_u (am_u J 69 13 (nI 2)) 69 14 (nI (kP x t))) 69 12 (nI (nopn W + 1)) 69 11 = nI t := by rw [am_u_n2 (by omega), am_u_n2 (by omega), am_u_n2 (by omega)]; exact T1.2.1
      simp only [am_lv_of, rX13_expression_23, rX13_expression_24, rX13_expression_26, rX13_expression_29, rX13_expression_32, rX13_expression_33, rX13_expression_36, rX13_expression_38, rX13_expression_41, rX13_expression_42, rX13_expression_43, rX13_expression_46, rX13_expression_47, rX13_expression_48, rX13_expression_51, rX13_expression_52, rX13_expression_53, rX13_expression_56, rX13_expression_57, ro_69_1 hR, ro_69_3 hR, ro_69_5 hR, ro_69_6 hR, ro_69_7 hR, ro_69_8 hR, ro_69_9 hR, ro_69_21 hR, ro_69_22 hR, ro_69_23 hR, ro_69_24 hR, ro_69_25 hR, ro_69_26 hR, ro_69_27 hR, ro_69_28 hR, ro_69_29 hR, ro_69_30 hR, ro_69_31 hR, ro_69_32 hR, ro_69_33 hR, ro_69_34 hR, ro_69_35 hR, ro_69_36 hR, ro_69_38 hR, ro_69_39 hR, ro_69_40 hR, ro_69_41 hR, ro_69_42 hR, ro_69_44 hR, ro_69_45 hR, ro_69_46 hR, ro_69_48 hR, ro_69_49 hR, ro_69_51 hR, ro_69_52 hR, ro_69_55 hR, ro_69_56 hR, ro_69_57 hR, ro_69_58 hR, ro_69_59 hR, ro_69_61 hR, ro_69_62 hR, ro_69_63 hR, ro_69_64 hR, ro_69_65 hR, ro_69_66 hR, sh_69, sh_70, sh_71, sh_72, sh_73, sh_74, sh_75, sh_76, sh_77, sh_78, sh_79, sh_80, sh_81, sh_82, sh_83, sh_84, sh_85, sh_86, sh_87, sh_88, sh_89, sh_90, sh_91, sh_92, sh_93, sh_94, sh_95, sh_96, sh_97, sh_98, sh_99, sh_100, sh_101, sh_102, sh_103, sh_104, sh_105, sh_106, sh_107, sh_108, sh_109, sh_110, sh_111, sh_112, sh_113, sh_114, sh_115, hl, hvw9, Nat.reduceLT, Nat.reduceAdd, Nat.reduceMul, ne_eq, Nat.reduceEqDiff, not_false_eq_true, or_true, true_or, or_false, false_or, and_true, true_and, and_self, Nat.reduceLeDiff, am_ci, am_cr, am_cn0, Option.toList_some, Option.toList_none, List.cons_append, List.nil_append, am_s0, am_s1, am_s1r, am_s2, am_s2r, am_s3r, nI_add, am_u_ne, am_u_at, am_u_n1, am_u_n2, am_w_ne, ↓reduceIte, hn, i6, decide_eq_true k40, zt, h12, o6, not_true_eq_false, c_failR hR hN hn T1, Option.toList_none]
      refine c_goesOnD (d := d + 1) hR hN hn DA (fun t' ht' _ => ?_) (fun J2 g2 D2 => ?_)
      · rw [q11] at ht'
        by_cases e : t' ≤ 401
        · exact e
        · have := (nI_eq (by omega) (by omega)).mp ht'
          omega
      · simp only [Option.toList_none, List.nil_append]
        rw [← lsE']
        exact lA_dead hR hN hn D2 (by rw [g2 69 47 (by omega)]; exact q47) w64 (fun J3 g3 D3 => hE (2, t) hbr J3 ((gA.trans (g2.mono (fun k j z => by unfold erP; omega))).trans g3) D3)
    | succ l =>
      have hbr : unitP x (l + 1) t = erB (stE t) fun t1 => erB (sumP x (unitP x l) t1) fun a => erB (tkE x 41 a.1) fun t2 => .inr (t2, a.2) := hbr
      rw [hbr] at hE hS
      have o6 : ¬ nI (nopn W) = nI 6 := nI_ne (by omega) (by omega) (by omega)
      have gA : am_ag (erP pt) J (am_u J 69 12 (nI (nopn W + 1))) := am_ag.refl.u (by unfold erP; omega)
      have TA : rsT (am_u J 69 12 (nI (nopn W + 1))) L x t := T1.fr (fun k j hk => by
        by_cases e : k = 69
        · subst e; exact am_u_n2 (by omega)
        · exact am_u_n1 e)
      simp only [am_lv_of, rX13_expression_23, rX13_expression_24, rX13_expression_26, rX13_expression_29, rX13_expression_32, rX13_expression_33, rX13_expression_36, rX13_expression_38, rX13_expression_46, rX13_expression_47, rX13_expression_48, rX13_expression_51, rX13_expression_52, rX13_expression_53, rX13_expression_56, rX13_expression_57, ro_69_1 hR, ro_69_3 hR, ro_69_5 hR, ro_69_6 hR, ro_69_7 hR, ro_69_8 hR, ro_69_9 hR, ro_69_21 hR, ro_69_22 hR, ro_69_23 hR, ro_69_24 hR, ro_69_25 hR, ro_69_26 hR, ro_69_27 hR, ro_69_28 hR, ro_69_29 hR, ro_69_30 hR, ro_69_31 hR, ro_69_32 hR, ro_69_33 hR, ro_69_34 hR, ro_69_35 hR, ro_69_36 hR, ro_69_38 hR, ro_69_39 hR, ro_69_40 hR, ro_69_41 hR, ro_69_42 hR, ro_69_44 hR, ro_69_45 hR, ro_69_46 hR, ro_69_48 hR, ro_69_49 hR, ro_69_51 hR, ro_69_52 hR, ro_69_55 hR, ro_69_56 hR, ro_69_57 hR, ro_69_58 hR, ro_69_59 hR, ro_69_61 hR, ro_69_62 hR, ro_69_63 hR, ro_69_64 hR, ro_69_65 hR, ro_69_66 hR, sh_69, sh_70, sh_71, sh_72, sh_73, sh_74, sh_75, sh_76, sh_77, sh_78, sh_79, sh_80, sh_81, sh_82, sh_83, sh_84, sh_85, sh_86, sh_87, sh_88, sh_89, sh_90, sh_91, sh_92, sh_93, sh_94, sh_95, sh_96, sh_97, sh_98, sh_99, sh_100, sh_101, sh_102, sh_103, sh_104, sh_105, sh_106, sh_107, sh_108, sh_109, sh_110, sh_111, sh_112, sh_113, sh_114, sh_115, hl, hvw9, Nat.reduceLT, Nat.reduceAdd, Nat.reduceMul, ne_eq, Nat.reduceEqDiff, not_false_eq_true, or_true, true_or, or_false, false_or, and_true, true_and, and_self, Nat.reduceLeDiff, am_ci, am_cr, am_cn0, Option.toList_some, Option.toList_none, List.cons_append, List.nil_append, am_s0, am_s1, am_s1r, am_s2, am_s2r, am_s3r, nI_add, am_u_ne, am_u_at, am_u_n1, am_u_n2, am_w_ne, ↓reduceIte, hn, i6, decide_eq_true k40, zt, h12, o6, not_false_eq_true]
      refine c_goesOnR (d := d + 1) hR hN hn TA (by omega) (fun e he J2 g2 D => ?_) (fun t' ht J2 g2 T2 => ?_)
      · simp only [Option.toList_none, List.nil_append]
        rw [← lsE']
        rw [he] at hE
        exact lA_dead hR hN hn D (by rw [g2 69 47 (by omega), am_u_n2 (by omega)]; exact h47) w64 (fun J3 g3 D3 => hE e rfl J3 ((gA.trans (g2.mono (fun k j z => by unfold erP; omega))).trans g3) D3)
      · obtain ⟨q1, rfl⟩ := stE_inr ht
        rw [ht, erB_inr] at hE hS
        have q47 : J2 69 47 = nI W.length := by rw [g2 69 47 (by omega), am_u_n2 (by omega)]; exact h47
        have q12 : J2 69 12 = nI (nopn W + 1) := by rw [g2 69 12 (by omega), am_u_at]
        have q43 : J2 69 43 = nI c := by rw [g2 69 43 (by omega), am_u_n2 (by omega)]; exact h43
        have hp2 : pil J2 100 (W.map nI) := pil_ag hp (fun j => by rw [g2 100 j (by omega), am_u_n1 (by omega)])
        have G2 : am_ag (erP pt) J J2 := gA.trans (g2.mono (fun k j z => by unfold erP; omega))
        simp only [am_lv_of, Option.toList_none, List.nil_append, rX13_expression_60, rX13_expression_61, rX13_expression_64, rX13_expression_65, rX13_expression_68, rX13_expression_70, rX13_expression_71, rX13_expression_72, rX13_expression_73, rX13_expression_76, rX13_expression_77, rX13_expression_78, rX13_expression_81, ro_69_1 hR, ro_69_3 hR, ro_69_5 hR, ro_69_6 hR, ro_69_7 hR, ro_69_8 hR, ro_69_9 hR, ro_69_21 hR, ro_69_22 hR, ro_69_23 hR, ro_69_24 hR, ro_69_25 hR, ro_69_26 hR, ro_69_27 hR, ro_69_28 hR, ro_69_29 hR, ro_69_30 hR, ro_69_31 hR, ro_69_32 hR, ro_69_33 hR, ro_69_34 hR, ro_69_35 hR, ro_69_36 hR, ro_69_38 hR, ro_69_39 hR, ro_69_40 hR, ro_69_41 hR, ro_69_42 hR, ro_69_44 hR, ro_69_45 hR, ro_69_46 hR, ro_69_48 hR, ro_69_49 hR, ro_69_51 hR, ro_69_52 hR, ro_69_55 hR, ro_69_56 hR, ro_69_57 hR, ro_69_58 hR, ro_69_59 hR, ro_69_61 hR, ro_69_62 hR, ro_69_63 hR, ro_69_64 hR, ro_69_65 hR, ro_69_66 hR, sh_69, sh_70, sh_71, sh_72, sh_73, sh_74, sh_75, sh_76, sh_77, sh_78, sh_79, sh_80, sh_81, sh_82, sh_83, sh_84, sh_85, sh_86, sh_87, sh_88, sh_89, sh_90, sh_91, sh_92, sh_93, sh_94, sh_95, sh_96, sh_97, sh_98, sh_99, sh_100, sh_101, sh_102, sh_103, sh_104, sh_105, sh_106, sh_107, sh_108, sh_109, sh_110, sh_111, sh_112, sh_113, sh_114, sh_115, hl, hvw9, Nat.reduceLT, Nat.reduceAdd, Nat.reduceMul, ne_eq, Nat.reduceEqDiff, not_false_eq_true, or_true, true_or, or_false, false_or, and_true, true_and, and_self, Nat.reduceLeDiff, am_ci, am_cr, am_cn0, Option.toList_some, Option.toList_none, List.cons_append, List.nil_append, am_s0, am_s1, am_s1r, am_s2, am_s2r, am_s3r, nI_add, am_u_ne, am_u_at, am_u_n1, am_u_n2, am_w_ne, hn, q47, w64]
        have G3 : am_ag (erP pt) J (am_u (am_u J2 100 W.length (nI 6)) 69 47 (nI (W.length + 1))) := by
          refine am_ag.u (am_ag.u G2 ?_) ?_
          · unfold erP; omega
          · unfold erP; omega
        have c98 : ∀ k j, k = 98 ∨ k = 99 → am_u (am_u J2 100 W.length (nI 6)) 69 47 (nI (W.length + 1)) k j = J k j := fun k j hk => by rw [am_u_n1 (by omega), am_u_n1 (by omega), g2 k j (by omega), am_u_n1 (by omega)]
        have S3 : stR (am_u (am_u J2 100 W.length (nI 6)) 69 47 (nI (W.length + 1))) L x pt (t + 1) (6 :: W) c := by
          refine ⟨T2.fr (fun k j hk => ?_), ?_, am_u_at, ?_, fun w hw' => ?_, ?_, ?_, hpt⟩
          · by_cases e : k = 69
            · subst e; rw [am_u_n2 (by omega), am_u_n1 (by omega)]
            · rw [am_u_n1 e, am_u_n1 (by omega)]
          · rw [nopn, if_pos rfl, am_u_n2 (by omega), am_u_n1 (by omega), q12]
            exact congrArg nI (by omega)
          · have := hp2.push (x := nI 6)
            rw [List.length_map] at this
            exact pil_ag this (fun j => am_u_n1 (by omega))
          · rcases List.mem_cons.mp hw' with rfl | hw'
            · exact Or.inl rfl
            · exact hw w hw'
          · rw [am_u_n2 (by omega), am_u_n1 (by omega)]; exact q43
          · rw [nops, if_pos rfl]; omega
        generalize am_u (am_u J2 100 W.length (nI 6)) 69 47 (nI (W.length + 1)) = J3 at G3 S3 c98 ⊢
        rw [← lsE']
        refine hSm l rfl (t + 1) c (6 :: W) J3 _ S3 (Or.inr ⟨W, rfl⟩) (by rw [nopn, if_pos rfl]; omega) (by rw [List.length_cons]; omega) (fun e he J4 g4 D => ?_) (fun t1 p hq J4 S e h1 h2 h3 g4 T5 qs qo => ?_)
        · rw [he] at hE
          exact hE e rfl J4 (G3.trans g4) D
        · rw [hq, erB_inr] at hE hS
          subst h1
          have hE : ∀ e_1, (erB (tkE x 41 t1) fun t2 => (.inr (t2, e ++ pops S) : ER (Nat × pfx))) = .inl e_1 → ∀ J', am_ag (erP pt) J J' → ddR J' x e_1 → Q none (n, J', L, R) := hE
          have hS : ∀ t' p, (erB (tkE x 41 t1) fun t2 => (.inr (t2, e ++ pops S) : ER (Nat × pfx))) = .inr (t', p) → ∀ J' S e, p = e ++ pops S → (∀ w, w ∈ S → False) → S.length ≤ 0 → am_ag (erP pt) J J' → stR J' L x pt t' (S ++ W) (c + e.length) → rf_seg J' c e → (∀ k j, k = 98 ∨ k = 99 → j < c → J' k j = J k j) → am_E X (d + 3) mX13_expression 96 lsE [] (n, J', L, R) Q := hS
          obtain ⟨U1, u12, u47, up, uw, u43, uc, -⟩ := id T5
          have t41 := U1.2.2.1
          have nS := nops_op S (fun w hw => (h2 w hw).2)
          rw [nops_app, nS.1, nops, if_pos rfl] at uc
          rw [nopn_app, nS.2, nopn, if_pos rfl] at u12
          obtain ⟨sg1, sg2, sg3⟩ := sumP_ok (unitP_good l) _ _ _ hq
          have i7 : ∀ {Q'}, am_E X (d + 2) mX13_is 0 [some (.ref 69), some (.int (nI 7))] [] (n, J4, L, R) Q' ↔ Q' (some (.int (bI (decide (kK x t1 = 41))))) (n, J4, L, R) := c_isR (c := 41) (r := 7) hR hN U1 (by omega) rfl rfl
          have oo : ¬ nI (0 + (1 + nopn W)) ≤ nI 0 := nI_ge (by omega) (by omega)
          rw [lsE']
          by_cases k41 : kK x t1 = 41
          · rw [tkE_y k41] at hE hS
            have b0 : nI 0 = bI false := by decide
            simp only [am_lv_of, rX13_expression_96, rX13_expression_97, rX13_expression_99, rX13_expression_102, rX13_expression_105, rX13_expression_106, rX13_expression_109, rX13_expression_110, rX13_expression_113, rX13_expression_114, rX13_expression_115, ro_69_1 hR, ro_69_3 hR, ro_69_5 hR, ro_69_6 hR, ro_69_7 hR, ro_69_8 hR, ro_69_9 hR, ro_69_21 hR, ro_69_22 hR, ro_69_23 hR, ro_69_24 hR, ro_69_25 hR, ro_69_26 hR, ro_69_27 hR, ro_69_28 hR, ro_69_29 hR, ro_69_30 hR, ro_69_31 hR, ro_69_32 hR, ro_69_33 hR, ro_69_34 hR, ro_69_35 hR, ro_69_36 hR, ro_69_38 hR, ro_69_39 hR, ro_69_40 hR, ro_69_41 hR, ro_69_42 hR, ro_69_44 hR, ro_69_45 hR, ro_69_46 hR, ro_69_48 hR, ro_69_49 hR, ro_69_51 hR, ro_69_52 hR, ro_69_55 hR, ro_69_56 hR, ro_69_57 hR, ro_69_58 hR, ro_69_59 hR, ro_69_61 hR, ro_69_62 hR, ro_69_63 hR, ro_69_64 hR, ro_69_65 hR, ro_69_66 hR, sh_69, sh_70, sh_71, sh_72, sh_73, sh_74, sh_75, sh_76, sh_77, sh_78, sh_79, sh_80, sh_81, sh_82, sh_83, sh_84, sh_85, sh_86, sh_87, sh_88, sh_89, sh_90, sh_91, sh_92, sh_93, sh_94, sh_95, sh_96, sh_97, sh_98, sh_99, sh_100, sh_101, sh_102, sh_103, sh_104, sh_105, sh_106, sh_107, sh_108, sh_109, sh_110, sh_111, sh_112, sh_113, sh_114, sh_115, hl, hvw9, Nat.reduceLT, Nat.reduceAdd, Nat.reduceMul, ne_eq, Nat.reduceEqDiff, not_false_eq_true, or_true, true_or, or_false, false_or, and_true, true_and, and_self, Nat.reduceLeDiff, am_ci, am_cr, am_cn0, Option.toList_some, Option.toList_none, List.cons_append, List.nil_append, am_s0, am_s1, am_s1r, am_s2, am_s2r, am_s3r, nI_add, am_u_ne, am_u_at, am_u_n1, am_u_n2, am_w_ne, ↓reduceIte, i7, decide_eq_true k41, zt, u12, oo]
            refine l_comesOut (d := d + 1) (b := false) (W0 := 6 :: W) hpt hR hN hn (Or.inr ⟨6, W, rfl, Or.inl rfl⟩) S (c + e.length) J4 none (fun w hw => ⟨(h2 w hw).1, (h2 w hw).2, fun z => by cases z⟩) (by rw [List.length_append, List.length_cons]; omega) u47 up u43 (by omega) (fun J5 g5 v47 v43 vs vo => ?_)
            have v47 : J5 69 47 = nI (W.length + 1) := v47
            have v12 : J5 69 12 = nI (0 + (1 + nopn W)) := by rw [g5 69 12 (by unfold cuO; omega)]; exact u12
            have s1 : nI (W.length + 1) - nI 1 = nI W.length := pk_sub (by omega)
            have s2 : nI (0 + (1 + nopn W)) - nI 1 = nI (nopn W) := by rw [pk_sub (by omega)]; exact congrArg nI (by omega)
            have U5 : rsT J5 L x t1 := U1.fr (fun k j hk => g5 k j (by unfold cuO; omega))
            simp only [am_lv_of, Option.toList_none, List.nil_append, rX13_expression_118, rX13_expression_119, rX13_expression_120, rX13_expression_123, rX13_expression_124, rX13_expression_125, rX13_expression_128, rX13_expression_129, rX13_expression_130, rX13_expression_133, rX13_expression_134, rX13_expression_135, rX13_expression_138, rX13_expression_139, ro_69_1 hR, ro_69_3 hR, ro_69_5 hR, ro_69_6 hR, ro_69_7 hR, ro_69_8 hR, ro_69_9 hR, ro_69_21 hR, ro_69_22 hR, ro_69_23 hR, ro_69_24 hR, ro_69_25 hR, ro_69_26 hR, ro_69_27 hR, ro_69_28 hR, ro_69_29 hR, ro_69_30 hR, ro_69_31 hR, ro_69_32 hR, ro_69_33 hR, ro_69_34 hR, ro_69_35 hR, ro_69_36 hR, ro_69_38 hR, ro_69_39 hR, ro_69_40 hR, ro_69_41 hR, ro_69_42 hR, ro_69_44 hR, ro_69_45 hR, ro_69_46 hR, ro_69_48 hR, ro_69_49 hR, ro_69_51 hR, ro_69_52 hR, ro_69_55 hR, ro_69_56 hR, ro_69_57 hR, ro_69_58 hR, ro_69_59 hR, ro_69_61 hR, ro_69_62 hR, ro_69_63 hR, ro_69_64 hR, ro_69_65 hR, ro_69_66 hR, sh_69, sh_70, sh_71, sh_72, sh_73, sh_74, sh_75, sh_76, sh_77, sh_78, sh_79, sh_80, sh_81, sh_82, sh_83, sh_84, sh_85, sh_86, sh_87, sh_88, sh_89, sh_90, sh_91, sh_92, sh_93, sh_94, sh_95, sh_96, sh_97, sh_98, sh_99, sh_100, sh_101, sh_102, sh_103, sh_104, sh_105, sh_106, sh_107, sh_108, sh_109, sh_110, sh_111, sh_112, sh_113, sh_114, sh_115, hl, hvw9, Nat.reduceLT, Nat.reduceAdd, Nat.reduceMul, ne_eq, Nat.reduceEqDiff, not_false_eq_true, or_true, true_or, or_false, false_or, and_true, true_and, and_self, Nat.reduceLeDiff, am_ci, am_cr, am_cn0, Option.toList_some, Option.toList_none, List.cons_append, List.nil_append, am_s0, am_s1, am_s1r, am_s2, am_s2r, am_s3r, nI_add, am_u_ne, am_u_at, am_u_n1, am_u_n2, am_w_ne, hn, v47, v12, s1, s2]
            have G6 : am_ag (erP pt) J (am_u (am_u J5 69 47 (nI W.length)) 69 12 (nI (nopn W))) := by
              refine am_ag.u (am_ag.u ((G3.trans g4).trans (co_er g5)) ?_) ?_
              · unfold erP; omega
              · unfold erP; omega
            have U6 : rsT (am_u (am_u J5 69 47 (nI W.length)) 69 12 (nI (nopn W))) L x t1 := U5.fr (fun k j hk => by
              by_cases e : k = 69
              · subst e; rw [am_u_n2 (by omega), am_u_n2 (by omega)]
              · rw [am_u_n1 e, am_u_n1 e])
            have w47 : am_u (am_u J5 69 47 (nI W.length)) 69 12 (nI (nopn W)) 69 47 = nI W.length := by rw [am_u_n2 (by omega), am_u_at]
            have w43 : am_u (am_u J5 69 47 (nI W.length)) 69 12 (nI (nopn W)) 69 43 = nI (c + e.length + S.length) := by rw [am_u_n2 (by omega), am_u_n2 (by omega)]; exact v43
            have wp : pil (am_u (am_u J5 69 47 (nI W.length)) 69 12 (nI (nopn W))) 100 (W.map nI) := by
              have : ∀ (S : List Nat), pil J4 100 ((S ++ 6 :: W).map nI) → pil J4 100 (W.map nI) := by
                intro S
                induction S with
                | nil => intro h; exact pil_tail h
                | cons a S ih => intro h; exact ih (pil_tail h)
              exact pil_ag (this S up) (fun j => by rw [am_u_n1 (by omega), am_u_n1 (by omega), g5 100 j (by unfold cuO; omega)])
            have w98 : ∀ k j, k = 98 ∨ k = 99 → am_u (am_u J5 69 47 (nI W.length)) 69 12 (nI (nopn W)) k j = J5 k j := fun k j hk => by rw [am_u_n1 (by omega), am_u_n1 (by omega)]
            have w12 : am_u (am_u J5 69 47 (nI W.length)) 69 12 (nI (nopn W)) 69 12 = nI (nopn W) := am_u_at
            generalize am_u (am_u J5 69 47 (nI W.length)) 69 12 (nI (nopn W)) = J6 at G6 U6 w47 w43 wp w98 w12 ⊢
            refine c_goesOnR (d := d + 1) hR hN hn U6 (by omega) (fun e' he J7 g7 D => ?_) (fun t' ht J7 g7 T7 => ?_)
            · simp only [am_lv_of, Option.toList_none, List.nil_append, rX13_expression_142]
              rw [he] at hE
              refine lB_dead (o := nopn W) (W := W) (c := c + e.length + S.length) hR hN hn D ⟨by rw [g7 69 47 (by omega)]; exact w47, pil_ag wp (fun j => g7 100 j (by omega)), hw, by omega, by rw [g7 69 43 (by omega)]; exact w43, by omega, hpt⟩ (by rw [g7 69 12 (by omega)]; exact w12) (fun J8 g8 D8 => hE e' rfl J8 ((G6.trans (g7.mono (fun k j z => by unfold erP; omega))).trans g8) D8)
            · obtain ⟨q2, rfl⟩ := stE_inr ht
              simp only [am_lv_of, Option.toList_none, List.nil_append, rX13_expression_142]
              rw [ht, erB_inr] at hS
              have hlp : (e ++ pops S).length = e.length + S.length := by rw [List.length_append, pops_len]
              refine hS (t1 + 1) (e ++ pops S) rfl J7 [] (e ++ pops S) (by simp [pops]) (fun w hw => by cases hw) (by simp) (G6.trans (g7.mono (fun k j z => by unfold erP; omega))) ⟨T7, ?_, ?_, ?_, hw, ?_, ?_, hpt⟩ ?_ (fun k j hk hj => ?_)
              · rw [g7 69 12 (by omega)]; exact w12
              · rw [g7 69 47 (by omega)]; exact w47
              · exact pil_ag wp (fun j => g7 100 j (by omega))
              · rw [g7 69 43 (by omega), w43, hlp]
                exact congrArg nI (by omega)
              · rw [hlp]
                show 420 * pt ≤ c + (e.length + S.length) ∧ c + (e.length + S.length) + nops W ≤ 420 * pt + (t1 + 1)
                omega
              · have k7 : ∀ k j, k = 98 ∨ k = 99 → J7 k j = J5 k j := fun k j hk => by rw [g7 k j (by omega), w98 k j hk]
                refine rf_seg_app (rf_seg_g qs (fun k j hk h1 h2 => ?_)) (rf_seg_g vs (fun k j hk _ _ => k7 k j hk))
                rw [k7 k j hk, vo k j hk (by omega)]
              · rw [g7 k j (by omega), w98 k j hk, vo k j hk (by omega), qo k j hk hj, c98 k j hk]
          · rw [tkE_n k41] at hE
            have nm : ¬ kK x t1 = 42 ∧ ¬ kK x t1 = 47 := by
              unfold mulOp at sg2
              split at sg2
              · cases sg2
              · split at sg2
                · cases sg2
                · next a b => exact ⟨a, b⟩
            have na : ¬ kK x t1 = 43 ∧ ¬ kK x t1 = 45 := by
              unfold addOp at sg3
              split at sg3
              · cases sg3
              · split at sg3
                · cases sg3
                · next a b => exact ⟨a, b⟩
            have i8 : ∀ {Q'}, am_E X (d + 2) mX13_is 0 [some (.ref 69), some (.int (nI 8))] [] (n, J4, L, R) Q' ↔ Q' (some (.int (bI (decide (kK x t1 = 43))))) (n, J4, L, R) := c_isR (c := 43) (r := 8) hR hN U1 (by omega) rfl rfl
            have i9 : ∀ {Q'}, am_E X (d + 2) mX13_is 0 [some (.ref 69), some (.int (nI 9))] [] (n, J4, L, R) Q' ↔ Q' (some (.int (bI (decide (kK x t1 = 45))))) (n, J4, L, R) := c_isR (c := 45) (r := 9) hR hN U1 (by omega) rfl rfl
            have i10 : ∀ {Q'}, am_E X (d + 2) mX13_is 0 [some (.ref 69), some (.int (nI 10))] [] (n, J4, L, R) Q' ↔ Q' (some (.int (bI (decide (kK x t1 = 42))))) (n, J4, L, R) := c_isR (c := 42) (r := 10) hR hN U1 (by omega) rfl rfl
            have i15 : ∀ {Q'}, am_E X (d + 2) mX13_is 0 [some (.ref 69), some (.int (nI 15))] [] (n, J4, L, R) Q' ↔ Q' (some (.int (bI (decide (kK x t1 = 47))))) (n, J4, L, R) := c_isR (c := 47) (r := 15) hR hN U1 (by omega) rfl rfl
            simp only [am_lv_of, rX13_expression_96, rX13_expression_97, rX13_expression_99, rX13_expression_102, rX13_expression_145, rX13_expression_146, rX13_expression_148, rX13_expression_151, rX13_expression_154, rX13_expression_155, rX13_expression_157, rX13_expression_160, rX13_expression_163, rX13_expression_164, rX13_expression_166, rX13_expression_169, rX13_expression_172, rX13_expression_173, rX13_expression_175, rX13_expression_178, rX13_expression_185, rX13_expression_186, rX13_expression_187, rX13_expression_188, rX13_expression_191, rX13_expression_192, rX13_expression_195, rX13_expression_196, rX13_expression_199, rX13_expression_200, rX13_expression_201, ro_69_1 hR, ro_69_3 hR, ro_69_5 hR, ro_69_6 hR, ro_69_7 hR, ro_69_8 hR, ro_69_9 hR, ro_69_21 hR, ro_69_22 hR, ro_69_23 hR, ro_69_24 hR, ro_69_25 hR, ro_69_26 hR, ro_69_27 hR, ro_69_28 hR, ro_69_29 hR, ro_69_30 hR, ro_69_31 hR, ro_69_32 hR, ro_69_33 hR, ro_69_34 hR, ro_69_35 hR, ro_69_36 hR, ro_69_38 hR, ro_69_39 hR, ro_69_40 hR, ro_69_41 hR, ro_69_42 hR, ro_69_44 hR, ro_69_45 hR, ro_69_46 hR, ro_69_48 hR, ro_69_49 hR, ro_69_51 hR, ro_69_52 hR, ro_69_55 hR, ro_69_56 hR, ro_69_57 hR, ro_69_58 hR, ro_69_59 hR, ro_69_61 hR, ro_69_62 hR, ro_69_63 hR, ro_69_64 hR, ro_69_65 hR, ro_69_66 hR, sh_69, sh_70, sh_71, sh_72, sh_73, sh_74, sh_75, sh_76, sh_77, sh_78, sh_79, sh_80, sh_81, sh_82, sh_83, sh_84, sh_85, sh_86, sh_87, sh_88, sh_89, sh_90, sh_91, sh_92, sh_93, sh_94, sh_95, sh_96, sh_97, sh_98, sh_99, sh_100, sh_101, sh_102, sh_103, sh_104, sh_105, sh_106, sh_107, sh_108, sh_109, sh_110, sh_111, sh_112, sh_113, sh_114, sh_115, hl, hvw9, Nat.reduceLT, Nat.reduceAdd, Nat.reduceMul, ne_eq, Nat.reduceEqDiff, not_false_eq_true, or_true, true_or, or_false, false_or, and_true, true_and, and_self, Nat.reduceLeDiff, am_ci, am_cr, am_cn0, Option.toList_some, Option.toList_none, List.cons_append, List.nil_append, am_s0, am_s1, am_s1r, am_s2, am_s2r, am_s3r, nI_add, am_u_ne, am_u_at, am_u_n1, am_u_n2, am_w_ne, ↓reduceIte, i7, i8, i9, i10, i15, decide_eq_false k41, decide_eq_false nm.1, decide_eq_false nm.2, decide_eq_false na.1, decide_eq_false na.2, zf, z0, not_true_eq_false, u12, oo, c_failR hR hN hn U1, Option.toList_none]
            have G5 : am_ag (erP pt) J (am_u (am_u J4 69 13 (nI 1)) 69 14 (nI (kP x t1))) := by
              refine am_ag.u (am_ag.u (G3.trans g4) ?_) ?_
              · unfold erP; omega
              · unfold erP; omega
            refine l_out (d := d) (W := S ++ 6 :: W) (c := c + e.length) hR hN hn ⟨?_, ?_, fun w hw' => uw w hw', ?_, ?_, ?_, hpt⟩ (fun S' W0 J6 _ _ _ g6 _ _ _ => hE (1, t1) rfl J6 (G5.trans (co_er g6)) ((fl_D (k := 1) (by omega) U1).ag (fun j hj => g6 69 j (by unfold cuO; omega))))
            · rw [am_u_n2 (by omega), am_u_n2 (by omega)]; exact u47
            · exact pil_ag up (fun j => by rw [am_u_n1 (by omega), am_u_n1 (by omega)])
            · rw [List.length_append, List.length_cons]; omega
            · rw [am_u_n2 (by omega), am_u_n2 (by omega)]; exact u43
            · rw [nops_app, nS.1, nops, if_pos rfl]; omega
  · have hu : ∃ br, unitP x lv t = unit0 x t br := by
      cases lv with
      | zero => exact ⟨_, rfl⟩
      | succ l => exact ⟨_, rfl⟩
    obtain ⟨br, hu⟩ := hu
    simp only [am_lv_of, rX13_expression_23, rX13_expression_24, rX13_expression_26, rX13_expression_29, rX13_expression_84, rX13_expression_85, ro_69_1 hR, ro_69_3 hR, ro_69_5 hR, ro_69_6 hR, ro_69_7 hR, ro_69_8 hR, ro_69_9 hR, ro_69_21 hR, ro_69_22 hR, ro_69_23 hR, ro_69_24 hR, ro_69_25 hR, ro_69_26 hR, ro_69_27 hR, ro_69_28 hR, ro_69_29 hR, ro_69_30 hR, ro_69_31 hR, ro_69_32 hR, ro_69_33 hR, ro_69_34 hR, ro_69_35 hR, ro_69_36 hR, ro_69_38 hR, ro_69_39 hR, ro_69_40 hR, ro_69_41 hR, ro_69_42 hR, ro_69_44 hR, ro_69_45 hR, ro_69_46 hR, ro_69_48 hR, ro_69_49 hR, ro_69_51 hR, ro_69_52 hR, ro_69_55 hR, ro_69_56 hR, ro_69_57 hR, ro_69_58 hR, ro_69_59 hR, ro_69_61 hR, ro_69_62 hR, ro_69_63 hR, ro_69_64 hR, ro_69_65 hR, ro_69_66 hR, sh_69, sh_70, sh_71, sh_72, sh_73, sh_74, sh_75, sh_76, sh_77, sh_78, sh_79, sh_80, sh_81, sh_82, sh_83, sh_84, sh_85, sh_86, sh_87, sh_88, sh_89, sh_90, sh_91, sh_92, sh_93, sh_94, sh_95, sh_96, sh_97, sh_98, sh_99, sh_100, sh_101, sh_102, sh_103, sh_104, sh_105, sh_106, sh_107, sh_108, sh_109, sh_110, sh_111, sh_112, sh_113, sh_114, sh_115, hl, hvw9, Nat.reduceLT, Nat.reduceAdd, Nat.reduceMul, ne_eq, Nat.reduceEqDiff, not_false_eq_true, or_true, true_or, or_false, false_or, and_true, true_and, and_self, Nat.reduceLeDiff, am_ci, am_cr, am_cn0, Option.toList_some, Option.toList_none, List.cons_append, List.nil_append, am_s0, am_s1, am_s1r, am_s2, am_s2r, am_s3r, nI_add, am_u_ne, am_u_at, am_u_n1, am_u_n2, am_w_ne, ↓reduceIte, i6, decide_eq_false k40, zf]
    refine c_unitR (d := d) (pt := pt) hR hN hn T1 h43 (by omega) hpt (fun e he _ J' g D => ?_) (fun q hq J' g T' q43 q98 q99 qo => ?_)
    · have z1 : ¬ nI e.1 ≤ 0 := nI_nle (by have := D.1; omega) (by have := D.1; omega)
      simp only [am_lv_of, Option.toList_none, List.nil_append, rX13_expression_88, rX13_expression_89, rX13_expression_92, rX13_expression_95, ro_69_1 hR, ro_69_3 hR, ro_69_5 hR, ro_69_6 hR, ro_69_7 hR, ro_69_8 hR, ro_69_9 hR, ro_69_21 hR, ro_69_22 hR, ro_69_23 hR, ro_69_24 hR, ro_69_25 hR, ro_69_26 hR, ro_69_27 hR, ro_69_28 hR, ro_69_29 hR, ro_69_30 hR, ro_69_31 hR, ro_69_32 hR, ro_69_33 hR, ro_69_34 hR, ro_69_35 hR, ro_69_36 hR, ro_69_38 hR, ro_69_39 hR, ro_69_40 hR, ro_69_41 hR, ro_69_42 hR, ro_69_44 hR, ro_69_45 hR, ro_69_46 hR, ro_69_48 hR, ro_69_49 hR, ro_69_51 hR, ro_69_52 hR, ro_69_55 hR, ro_69_56 hR, ro_69_57 hR, ro_69_58 hR, ro_69_59 hR, ro_69_61 hR, ro_69_62 hR, ro_69_63 hR, ro_69_64 hR, ro_69_65 hR, ro_69_66 hR, sh_69, sh_70, sh_71, sh_72, sh_73, sh_74, sh_75, sh_76, sh_77, sh_78, sh_79, sh_80, sh_81, sh_82, sh_83, sh_84, sh_85, sh_86, sh_87, sh_88, sh_89, sh_90, sh_91, sh_92, sh_93, sh_94, sh_95, sh_96, sh_97, sh_98, sh_99, sh_100, sh_101, sh_102, sh_103, sh_104, sh_105, sh_106, sh_107, sh_108, sh_109, sh_110, sh_111, sh_112, sh_113, sh_114, sh_115, hl, hvw9, Nat.reduceLT, Nat.reduceAdd, Nat.reduceMul, ne_eq, Nat.reduceEqDiff, not_false_eq_true, or_true, true_or, or_false, false_or, and_true, true_and, and_self, Nat.reduceLeDiff, am_ci, am_cr, am_cn0, Option.toList_some, Option.toList_none, List.cons_append, List.nil_append, am_s0, am_s1, am_s1r, am_s2, am_s2r, am_s3r, nI_add, am_u_ne, am_u_at, am_u_n1, am_u_n2, am_w_ne, ↓reduceIte, D.2.1, z1]
      exact hE e (hu.trans (he br k40)) J' g D
    · simp only [am_lv_of, Option.toList_none, List.nil_append, rX13_expression_88, rX13_expression_89, rX13_expression_92, ro_69_1 hR, ro_69_3 hR, ro_69_5 hR, ro_69_6 hR, ro_69_7 hR, ro_69_8 hR, ro_69_9 hR, ro_69_21 hR, ro_69_22 hR, ro_69_23 hR, ro_69_24 hR, ro_69_25 hR, ro_69_26 hR, ro_69_27 hR, ro_69_28 hR, ro_69_29 hR, ro_69_30 hR, ro_69_31 hR, ro_69_32 hR, ro_69_33 hR, ro_69_34 hR, ro_69_35 hR, ro_69_36 hR, ro_69_38 hR, ro_69_39 hR, ro_69_40 hR, ro_69_41 hR, ro_69_42 hR, ro_69_44 hR, ro_69_45 hR, ro_69_46 hR, ro_69_48 hR, ro_69_49 hR, ro_69_51 hR, ro_69_52 hR, ro_69_55 hR, ro_69_56 hR, ro_69_57 hR, ro_69_58 hR, ro_69_59 hR, ro_69_61 hR, ro_69_62 hR, ro_69_63 hR, ro_69_64 hR, ro_69_65 hR, ro_69_66 hR, sh_69, sh_70, sh_71, sh_72, sh_73, sh_74, sh_75, sh_76, sh_77, sh_78, sh_79, sh_80, sh_81, sh_82, sh_83, sh_84, sh_85, sh_86, sh_87, sh_88, sh_89, sh_90, sh_91, sh_92, sh_93, sh_94, sh_95, sh_96, sh_97, sh_98, sh_99, sh_100, sh_101, sh_102, sh_103, sh_104, sh_105, sh_106, sh_107, sh_108, sh_109, sh_110, sh_111, sh_112, sh_113, sh_114, sh_115, hl, hvw9, Nat.reduceLT, Nat.reduceAdd, Nat.reduceMul, ne_eq, Nat.reduceEqDiff, not_false_eq_true, or_true, true_or, or_false, false_or, and_true, true_and, and_self, Nat.reduceLeDiff, am_ci, am_cr, am_cn0, Option.toList_some, Option.toList_none, List.cons_append, List.nil_append, am_s0, am_s1, am_s1r, am_s2, am_s2r, am_s3r, nI_add, am_u_ne, am_u_at, am_u_n1, am_u_n2, am_w_ne, ↓reduceIte, T'.2.2.2.2, z00]
      rw [← lsE']
      refine hS (t + 1) [q] (hu.trans (hq br)) J' [] [q] (by simp [pops]) (fun w hw => by cases hw) (by simp) (g.mono (fun k j z => by unfold erP; omega)) ⟨T', ?_, ?_, ?_, hw, q43, ?_, hpt⟩ (rf_seg_1 q98 q99) (fun k j hk hj => qo k j hk (by omega))
      · rw [g 69 12 (by omega)]; exact h12
      · rw [g 69 47 (by omega)]; exact h47
      · exact pil_ag hp (fun j => g 100 j (by omega))
      · show 420 * pt ≤ c + 1 ∧ c + 1 + nops W ≤ 420 * pt + (t + 1)
        omega
theorem c_unsR {pt : Nat} (hR : am_OR R) (hN : 116 ≤ n) (hn : n ≤ 1000) : ∀ lv, lv ≤ 6 → uRC X n L R x pt (d + 3) (3 * lv) (unitP x lv) (fun _ => True) (fun _ => False) 0 lv := by
  intro lv
  induction lv with
  | zero => intro h; exact c_unR hR hN hn h (fun l hl => absurd hl (by omega))
  | succ lv ih =>
    intro h
    refine c_unR hR hN hn h (fun l hl => ?_)
    injection hl with hl
    subst hl
    exact c_smR hR hN hn (unitP_good lv) (c_prR hR hN hn (ih (by omega)))
/-- an E -/
theorem c_exprR {pt t c : Nat} (hR : am_OR R) (hN : 116 ≤ n) (hn : n ≤ 1000) (hpt : pt < 2) (T : rsT I L x t) (h12 : I 69 12 = nI 0) (h43 : I 69 43 = nI c) (hc : 420 * pt ≤ c ∧ c ≤ 420 * pt + t)
    (hE : ∀ e, exP x t = .inl e → ∀ J', am_ag (erP pt) I J' → ddR J' x e → Q none (n, J', L, R))
    (hS : ∀ t' p, exP x t = .inr (t', p) → ∀ J', am_ag (erP pt) I J' → rsT J' L x t' → J' 69 12 = nI 0 → J' 69 43 = nI (c + p.length) → rf_seg J' c p → (∀ k j, k = 98 ∨ k = 99 → j < c → J' k j = I k j) → Q none (n, J', L, R)) : am_E X (d + 3) mX13_expression 0 [some (.ref 69), none, none] [] (n, I, L, R) Q := by
  have hl := am_lt hN
  have hvw9 := am_lw hN
  have z0 : (nI 0 = 0) = True := eq_true rfl
  have z1 : ¬ nI 1 = 0 := by decide
  have zf : (bI false = 0) = True := eq_true (by decide)
  have lsE' : lsE = [some (.ref 69), some (.int (nI 0)), some (.int (nI 1))] := rfl
  have g0 : am_ag (erP pt) I (am_u I 69 47 (nI 0)) := am_ag.refl.u (by unfold erP; omega)
  have T0 : rsT (am_u I 69 47 (nI 0)) L x t := T.fr (fun k j hk => by
    by_cases e : k = 69
    · subst e; exact am_u_n2 (by omega)
    · exact am_u_n1 e)
  have f0 : am_u I 69 47 (nI 0) 69 13 = nI 0 := T0.2.2.2.2
  simp only [am_lv_of, rX13_expression_0, rX13_expression_1, rX13_expression_2, rX13_expression_5, rX13_expression_6, rX13_expression_9, rX13_expression_10, rX13_expression_11, rX13_expression_12, rX13_expression_13, rX13_expression_16, rX13_expression_17, rX13_expression_20, ro_69_1 hR, ro_69_3 hR, ro_69_5 hR, ro_69_6 hR, ro_69_7 hR, ro_69_8 hR, ro_69_9 hR, ro_69_21 hR, ro_69_22 hR, ro_69_23 hR, ro_69_24 hR, ro_69_25 hR, ro_69_26 hR, ro_69_27 hR, ro_69_28 hR, ro_69_29 hR, ro_69_30 hR, ro_69_31 hR, ro_69_32 hR, ro_69_33 hR, ro_69_34 hR, ro_69_35 hR, ro_69_36 hR, ro_69_38 hR, ro_69_39 hR, ro_69_40 hR, ro_69_41 hR, ro_69_42 hR, ro_69_44 hR, ro_69_45 hR, ro_69_46 hR, ro_69_48 hR, ro_69_49 hR, ro_69_51 hR, ro_69_52 hR, ro_69_55 hR, ro_69_56 hR, ro_69_57 hR, ro_69_58 hR, ro_69_59 hR, ro_69_61 hR, ro_69_62 hR, ro_69_63 hR, ro_69_64 hR, ro_69_65 hR, ro_69_66 hR, sh_69, sh_70, sh_71, sh_72, sh_73, sh_74, sh_75, sh_76, sh_77, sh_78, sh_79, sh_80, sh_81, sh_82, sh_83, sh_84, sh_85, sh_86, sh_87, sh_88, sh_89, sh_90, sh_91, sh_92, sh_93, sh_94, sh_95, sh_96, sh_97, sh_98, sh_99, sh_100, sh_101, sh_102, sh_103, sh_104, sh_105, sh_106, sh_107, sh_108, sh_109, sh_110, sh_111, sh_112, sh_113, sh_114, sh_115, hl, hvw9, Nat.reduceLT, Nat.reduceAdd, Nat.reduceMul, ne_eq, Nat.reduceEqDiff, not_false_eq_true, or_true, true_or, or_false, false_or, and_true, true_and, and_self, Nat.reduceLeDiff, am_ci, am_cr, am_cn0, Option.toList_some, Option.toList_none, List.cons_append, List.nil_append, am_s0, am_s1, am_s1r, am_s2, am_s2r, am_s3r, nI_add, am_u_ne, am_u_at, am_u_n1, am_u_n2, am_w_ne, ↓reduceIte, hn, h12, z1, z0, T.2.2.2.2, not_true_eq_false]
  rw [← lsE']
  refine c_smR (d := d) (pt := pt) (lv := 6) hR hN hn (unitP_good 6) (c_prR hR hN hn (c_unsR hR hN hn 6 (by omega))) t c [] _ _ ⟨T0, by rw [am_u_n2 (by omega)]; exact h12, am_u_at, (fun j y hy => by cases hy), (fun w hw => by cases hw), (by rw [am_u_n2 (by omega)]; exact h43), (by show 420 * pt ≤ c ∧ c + 0 ≤ 420 * pt + t; omega), hpt⟩ (Or.inl rfl) rfl (by decide) (fun e he J' g D => hE e he J' (g0.trans g) D) (fun t' p hp J' S e h1 h2 h3 g T' qs qo => ?_)
  rw [List.append_nil] at T'
  obtain ⟨U1, u12, u47, up, uw, u43, uc, -⟩ := id T'
  have t41 := U1.2.2.1
  have nS := nops_op S (fun w hw => (h2 w hw).2)
  rw [nS.2] at u12
  rw [nS.1] at uc
  obtain ⟨sg1, sg2, sg3⟩ := sumP_ok (unitP_good 6) _ _ _ hp
  have nm : ¬ kK x t' = 42 ∧ ¬ kK x t' = 47 := by
    unfold mulOp at sg2
    split at sg2
    · cases sg2
    · split at sg2
      · cases sg2
      · next a b => exact ⟨a, b⟩
  have na : ¬ kK x t' = 43 ∧ ¬ kK x t' = 45 := by
    unfold addOp at sg3
    split at sg3
    · cases sg3
    · split at sg3
      · cases sg3
      · next a b => exact ⟨a, b⟩
  have i7 : ∀ {Q'}, am_E X (d + 2) mX13_is 0 [some (.ref 69), some (.int (nI 7))] [] (n, J', L, R) Q' ↔ Q' (some (.int (bI (decide (kK x t' = 41))))) (n, J', L, R) := c_isR (c := 41) (r := 7) hR hN U1 (by omega) rfl rfl
  have i8 : ∀ {Q'}, am_E X (d + 2) mX13_is 0 [some (.ref 69), some (.int (nI 8))] [] (n, J', L, R) Q' ↔ Q' (some (.int (bI (decide (kK x t' = 43))))) (n, J', L, R) := c_isR (c := 43) (r := 8) hR hN U1 (by omega) rfl rfl
  have i9 : ∀ {Q'}, am_E X (d + 2) mX13_is 0 [some (.ref 69), some (.int (nI 9))] [] (n, J', L, R) Q' ↔ Q' (some (.int (bI (decide (kK x t' = 45))))) (n, J', L, R) := c_isR (c := 45) (r := 9) hR hN U1 (by omega) rfl rfl
  have i10 : ∀ {Q'}, am_E X (d + 2) mX13_is 0 [some (.ref 69), some (.int (nI 10))] [] (n, J', L, R) Q' ↔ Q' (some (.int (bI (decide (kK x t' = 42))))) (n, J', L, R) := c_isR (c := 42) (r := 10) hR hN U1 (by omega) rfl rfl
  have i15 : ∀ {Q'}, am_E X (d + 2) mX13_is 0 [some (.ref 69), some (.int (nI 15))] [] (n, J', L, R) Q' ↔ Q' (some (.int (bI (decide (kK x t' = 47))))) (n, J', L, R) := c_isR (c := 47) (r := 15) hR hN U1 (by omega) rfl rfl
  have zt : ¬ bI true = 0 := by decide
  have oo : nI 0 ≤ nI 0 := by decide
  have at204 : ∀ l2, am_E X (d + 3) mX13_expression 204 [some (.ref 69), some (.int (nI 0)), l2] [] (n, J', L, R) Q := fun l2 => by
    refine l_out (d := d) (W := S) (c := c + e.length) hR hN hn ⟨u47, up, uw, by omega, u43, by rw [nS.1]; omega, hpt⟩ (fun S' W0 J6 e1 e2 e3 g6 q43 q6s q6o => ?_)
    have hW0 : W0 = [] := by
      rcases e3 with z | ⟨W1, z⟩
      · exact z
      · exact absurd rfl ((h2 6 (by rw [e1, z]; simp)).2)
    subst hW0
    rw [List.append_nil] at e1
    subst e1
    have hlp : p.length = e.length + S.length := by rw [h1, List.length_append, pops_len]
    refine hS t' p hp J6 ((g0.trans g).trans (co_er g6)) (U1.fr (fun k j hk => g6 k j (by unfold cuO; omega))) (by rw [g6 69 12 (by unfold cuO; omega)]; exact u12) (by rw [q43, hlp]; exact congrArg nI (by omega)) ?_ (fun k j hk hj => ?_)
    · rw [h1]
      exact rf_seg_app (rf_seg_g qs (fun k j hk _ hj => q6o k j hk (by omega))) q6s
    · rw [q6o k j hk (by omega), qo k j hk hj, am_u_n1 (by omega)]
  rw [lsE']
  by_cases k41 : kK x t' = 41
  · simp only [am_lv_of, rX13_expression_96, rX13_expression_97, rX13_expression_99, rX13_expression_102, rX13_expression_105, rX13_expression_106, rX13_expression_109, rX13_expression_110, rX13_expression_145, rX13_expression_146, rX13_expression_148, rX13_expression_151, rX13_expression_154, rX13_expression_155, rX13_expression_157, rX13_expression_160, rX13_expression_163, rX13_expression_164, rX13_expression_166, rX13_expression_169, rX13_expression_172, rX13_expression_173, rX13_expression_175, rX13_expression_178, rX13_expression_185, rX13_expression_186, rX13_expression_187, rX13_expression_188, rX13_expression_191, rX13_expression_192, rX13_expression_195, rX13_expression_196, ro_69_1 hR, ro_69_3 hR, ro_69_5 hR, ro_69_6 hR, ro_69_7 hR, ro_69_8 hR, ro_69_9 hR, ro_69_21 hR, ro_69_22 hR, ro_69_23 hR, ro_69_24 hR, ro_69_25 hR, ro_69_26 hR, ro_69_27 hR, ro_69_28 hR, ro_69_29 hR, ro_69_30 hR, ro_69_31 hR, ro_69_32 hR, ro_69_33 hR, ro_69_34 hR, ro_69_35 hR, ro_69_36 hR, ro_69_38 hR, ro_69_39 hR, ro_69_40 hR, ro_69_41 hR, ro_69_42 hR, ro_69_44 hR, ro_69_45 hR, ro_69_46 hR, ro_69_48 hR, ro_69_49 hR, ro_69_51 hR, ro_69_52 hR, ro_69_55 hR, ro_69_56 hR, ro_69_57 hR, ro_69_58 hR, ro_69_59 hR, ro_69_61 hR, ro_69_62 hR, ro_69_63 hR, ro_69_64 hR, ro_69_65 hR, ro_69_66 hR, sh_69, sh_70, sh_71, sh_72, sh_73, sh_74, sh_75, sh_76, sh_77, sh_78, sh_79, sh_80, sh_81, sh_82, sh_83, sh_84, sh_85, sh_86, sh_87, sh_88, sh_89, sh_90, sh_91, sh_92, sh_93, sh_94, sh_95, sh_96, sh_97, sh_98, sh_99, sh_100, sh_101, sh_102, sh_103, sh_104, sh_105, sh_106, sh_107, sh_108, sh_109, sh_110, sh_111, sh_112, sh_113, sh_114, sh_115, hl, hvw9, Nat.reduceLT, Nat.reduceAdd, Nat.reduceMul, ne_eq, Nat.reduceEqDiff, not_false_eq_true, or_true, true_or, or_false, false_or, and_true, true_and, and_self, Nat.reduceLeDiff, am_ci, am_cr, am_cn0, Option.toList_some, Option.toList_none, List.cons_append, List.nil_append, am_s0, am_s1, am_s1r, am_s2, am_s2r, am_s3r, nI_add, am_u_ne, am_u_at, am_u_n1, am_u_n2, am_w_ne, ↓reduceIte, i7, i8, i9, i10, i15, decide_eq_true k41, decide_eq_false nm.1, decide_eq_false nm.2, decide_eq_false na.1, decide_eq_false na.2, zf, zt, z0, not_true_eq_false, u12, oo]
    exact at204 _
  · simp only [am_lv_of, rX13_expression_96, rX13_expression_97, rX13_expression_99, rX13_expression_102, rX13_expression_145, rX13_expression_146, rX13_expression_148, rX13_expression_151, rX13_expression_154, rX13_expression_155, rX13_expression_157, rX13_expression_160, rX13_expression_163, rX13_expression_164, rX13_expression_166, rX13_expression_169, rX13_expression_172, rX13_expression_173, rX13_expression_175, rX13_expression_178, rX13_expression_185, rX13_expression_186, rX13_expression_187, rX13_expression_188, rX13_expression_191, rX13_expression_192, rX13_expression_195, rX13_expression_196, ro_69_1 hR, ro_69_3 hR, ro_69_5 hR, ro_69_6 hR, ro_69_7 hR, ro_69_8 hR, ro_69_9 hR, ro_69_21 hR, ro_69_22 hR, ro_69_23 hR, ro_69_24 hR, ro_69_25 hR, ro_69_26 hR, ro_69_27 hR, ro_69_28 hR, ro_69_29 hR, ro_69_30 hR, ro_69_31 hR, ro_69_32 hR, ro_69_33 hR, ro_69_34 hR, ro_69_35 hR, ro_69_36 hR, ro_69_38 hR, ro_69_39 hR, ro_69_40 hR, ro_69_41 hR, ro_69_42 hR, ro_69_44 hR, ro_69_45 hR, ro_69_46 hR, ro_69_48 hR, ro_69_49 hR, ro_69_51 hR, ro_69_52 hR, ro_69_55 hR, ro_69_56 hR, ro_69_57 hR, ro_69_58 hR, ro_69_59 hR, ro_69_61 hR, ro_69_62 hR, ro_69_63 hR, ro_69_64 hR, ro_69_65 hR, ro_69_66 hR, sh_69, sh_70, sh_71, sh_72, sh_73, sh_74, sh_75, sh_76, sh_77, sh_78, sh_79, sh_80, sh_81, sh_82, sh_83, sh_84, sh_85, sh_86, sh_87, sh_88, sh_89, sh_90, sh_91, sh_92, sh_93, sh_94, sh_95, sh_96, sh_97, sh_98, sh_99, sh_100, sh_101, sh_102, sh_103, sh_104, sh_105, sh_106, sh_107, sh_108, sh_109, sh_110, sh_111, sh_112, sh_113, sh_114, sh_115, hl, hvw9, Nat.reduceLT, Nat.reduceAdd, Nat.reduceMul, ne_eq, Nat.reduceEqDiff, not_false_eq_true, or_true, true_or, or_false, false_or, and_true, true_and, and_self, Nat.reduceLeDiff, am_ci, am_cr, am_cn0, Option.toList_some, Option.toList_none, List.cons_append, List.nil_append, am_s0, am_s1, am_s1r, am_s2, am_s2r, am_s3r, nI_add, am_u_ne, am_u_at, am_u_n1, am_u_n2, am_w_ne, ↓reduceIte, i7, i8, i9, i10, i15, decide_eq_false k41, decide_eq_false nm.1, decide_eq_false nm.2, decide_eq_false na.1, decide_eq_false na.2, zf, z0, not_true_eq_false, u12, oo]
    exact at204 _
end FD
