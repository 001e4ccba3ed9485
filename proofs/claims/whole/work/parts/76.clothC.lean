--! 75
/-! PROMISES 32, 33, 34: cloth, sure, look -/
section CC
variable {X : am_X} {d n : Nat} {I : Nat → Nat → Int32} {L : Nat → Nat → Int64} {R : Nat → Nat → Option Nat} {Q : Option Value → am_M → Prop} {σ : rfP} {τ : tol}
def icP (k j : Nat) : Prop := k = 104 ∧ j < 5
theorem ic_sc2 {I' : Nat → Nat → Int32} (h : am_ag icP I I') : am_ag sc2 I I' := h.mono (fun k j z => by unfold icP at z; unfold sc2; omega)
theorem l_isCl0 {l1 l2 l3 l5 : Option Value} (hR : am_OR R) (hN : 116 ≤ n) (hn : n ≤ 1000) (n3 : am_nl l3) : ∀ (m i : Nat) (J : Nat → Nat → Int32), i + m = 5 → am_ag icP I J → (∀ j, j < i → J 104 j = I 103 j) → (∀ I', am_ag icP I I' → (∀ j, j < 5 → I' 104 j = I 103 j) → am_E X d mX13_isCloth 29 [some (.ref 69), l1, l2, l3, some (.int (nI 5)), l5] [] (n, I', L, R) Q) → am_E X d mX13_isCloth 3 [some (.ref 69), l1, l2, l3, some (.int (nI i)), l5] [] (n, J, L, R) Q := by
  have hl := am_lt hN
  have hvw9 := am_lw hN
  intro m
  induction m with
  | zero =>
    intro i J hi hJ hc hQ
    have hi : i = 5 := by omega
    subst hi
    have h1 : nI 5 ≤ nI 5 := by decide
    simp only [am_lv_of, rX13_isCloth_3, rX13_isCloth_5, rX13_isCloth_6, ↓reduceIte, h1]
    exact hQ J hJ hc
  | succ m ih =>
    intro i J hi hJ hc hQ
    have h1 : ¬ nI 5 ≤ nI i := nI_ge (by omega) (by omega)
    have i1 : i < 68 := by omega
    rw [rX13_isCloth_3]
    simp only [am_lv_of, rX13_isCloth_5, rX13_isCloth_6, rX13_isCloth_9, rX13_isCloth_10, rX13_isCloth_13, rX13_isCloth_15, rX13_isCloth_16, rX13_isCloth_19, rX13_isCloth_21, rX13_isCloth_22, rX13_isCloth_23, rX13_isCloth_26, ro_69_1 hR, ro_69_3 hR, ro_69_5 hR, ro_69_6 hR, ro_69_7 hR, ro_69_8 hR, ro_69_9 hR, ro_69_21 hR, ro_69_22 hR, ro_69_23 hR, ro_69_24 hR, ro_69_25 hR, ro_69_26 hR, ro_69_27 hR, ro_69_28 hR, ro_69_29 hR, ro_69_30 hR, ro_69_31 hR, ro_69_32 hR, ro_69_33 hR, ro_69_34 hR, ro_69_35 hR, ro_69_36 hR, ro_69_38 hR, ro_69_39 hR, ro_69_40 hR, ro_69_41 hR, ro_69_42 hR, ro_69_44 hR, ro_69_45 hR, ro_69_46 hR, ro_69_48 hR, ro_69_49 hR, ro_69_51 hR, ro_69_52 hR, ro_69_55 hR, ro_69_56 hR, ro_69_57 hR, ro_69_58 hR, ro_69_59 hR, ro_69_61 hR, ro_69_62 hR, ro_69_63 hR, ro_69_64 hR, ro_69_65 hR, ro_69_66 hR, sh_69, sh_70, sh_71, sh_72, sh_73, sh_74, sh_75, sh_76, sh_77, sh_78, sh_79, sh_80, sh_81, sh_82, sh_83, sh_84, sh_85, sh_86, sh_87, sh_88, sh_89, sh_90, sh_91, sh_92, sh_93, sh_94, sh_95, sh_96, sh_97, sh_98, sh_99, sh_100, sh_101, sh_102, sh_103, sh_104, sh_105, sh_106, sh_107, sh_108, sh_109, sh_110, sh_111, sh_112, sh_113, sh_114, sh_115, hl, hvw9, Nat.reduceLT, Nat.reduceAdd, Nat.reduceMul, ne_eq, Nat.reduceEqDiff, not_false_eq_true, or_true, true_or, or_false, false_or, and_true, true_and, and_self, Nat.reduceLeDiff, am_ci, am_cr, am_cn0, Option.toList_some, Option.toList_none, List.cons_append, List.nil_append, am_s0, am_s1, am_s1r, am_s2, am_s2r, am_s3r, nI_add, am_u_ne, am_u_at, am_u_n1, am_u_n2, am_w_ne, ↓reduceIte, hn, h1, i1, n3]
    refine ih (i + 1) _ (by omega) (hJ.u ⟨rfl, by omega⟩) (fun j hj => ?_) hQ
    by_cases e : j = i
    · rw [e, am_u_at, hJ 103 i (by unfold icP; omega)]
    · rw [am_u_n2 e]; exact hc j (by omega)
theorem l_isCl {way k ln w0 : Nat} (hR : am_OR R) (hN : 116 ≤ n) (hn : n ≤ 1000) (ho : ok_S σ) (H : rf_S I σ) (hk2 : k ≤ 20) (ht : tlR I τ k) (hln : ln ≤ 5) (hway : way < 7 ^ 5) (hQ : ∀ I', am_ag icP I I' → (∀ w', goW σ τ k ln 0 w0 way = some w' → ∀ p, p < 5 → I' 104 p = nI (xw w' p)) → Q (some (.int (bI (goW σ τ k ln 0 w0 way).isSome))) (n, I', L, R)) : ∀ (rem made w : Nat) (J : Nat → Nat → Int32) (l5 : Option Value), made + rem = ln → okP σ w → goW σ τ k ln 0 w0 way = goW σ τ k rem made w way → am_ag icP I J → (∀ p, p < 5 → J 104 p = nI (xw w p)) → am_nl l5 → am_E X (d + 2) mX13_isCloth 32 [some (.ref 69), some (.int (nI way)), some (.int (nI k)), some (.int (nI ln)), some (.int (nI made)), l5] [] (n, J, L, R) Q := by
  have hl := am_lt hN
  have hvw9 := am_lw hN
  have S7 := ho.2.1
  have P5 := ho.1
  intro rem
  induction rem with
  | zero =>
    intro made w J l5 hm hw hgo hJ hx n5
    have hm : made = ln := by omega
    subst hm
    have h1 : nI made ≤ nI made := nI_le (Nat.le_refl _) (by omega)
    have eo : goW σ τ k made 0 w0 way = some w := hgo
    have := hQ J hJ (fun w' hw' p hp => by rw [eo] at hw'; cases hw'; exact hx p hp)
    rw [eo] at this
    simp only [am_lv_of, rX13_isCloth_32, rX13_isCloth_34, rX13_isCloth_35, rX13_isCloth_120, rX13_isCloth_121, rX13_isCloth_121_0, rX13_isCloth_121_1, ro_69_1 hR, ro_69_3 hR, ro_69_5 hR, ro_69_6 hR, ro_69_7 hR, ro_69_8 hR, ro_69_9 hR, ro_69_21 hR, ro_69_22 hR, ro_69_23 hR, ro_69_24 hR, ro_69_25 hR, ro_69_26 hR, ro_69_27 hR, ro_69_28 hR, ro_69_29 hR, ro_69_30 hR, ro_69_31 hR, ro_69_32 hR, ro_69_33 hR, ro_69_34 hR, ro_69_35 hR, ro_69_36 hR, ro_69_38 hR, ro_69_39 hR, ro_69_40 hR, ro_69_41 hR, ro_69_42 hR, ro_69_44 hR, ro_69_45 hR, ro_69_46 hR, ro_69_48 hR, ro_69_49 hR, ro_69_51 hR, ro_69_52 hR, ro_69_55 hR, ro_69_56 hR, ro_69_57 hR, ro_69_58 hR, ro_69_59 hR, ro_69_61 hR, ro_69_62 hR, ro_69_63 hR, ro_69_64 hR, ro_69_65 hR, ro_69_66 hR, sh_69, sh_70, sh_71, sh_72, sh_73, sh_74, sh_75, sh_76, sh_77, sh_78, sh_79, sh_80, sh_81, sh_82, sh_83, sh_84, sh_85, sh_86, sh_87, sh_88, sh_89, sh_90, sh_91, sh_92, sh_93, sh_94, sh_95, sh_96, sh_97, sh_98, sh_99, sh_100, sh_101, sh_102, sh_103, sh_104, sh_105, sh_106, sh_107, sh_108, sh_109, sh_110, sh_111, sh_112, sh_113, sh_114, sh_115, hl, hvw9, Nat.reduceLT, Nat.reduceAdd, Nat.reduceMul, ne_eq, Nat.reduceEqDiff, not_false_eq_true, or_true, true_or, or_false, false_or, and_true, true_and, and_self, Nat.reduceLeDiff, am_ci, am_cr, am_cn0, Option.toList_some, Option.toList_none, List.cons_append, List.nil_append, am_s0, am_s1, am_s1r, am_s2, am_s2r, am_s3r, nI_add, am_u_ne, am_u_at, am_u_n1, am_u_n2, am_w_ne, ↓reduceIte, h1]
    simpa [bI] using this
  | succ rem ih =>
    intro made w J l5 hm hw hgo hJ hx n5
    have h1 : ¬ nI ln ≤ nI made := nI_ge (by omega) (by omega)
    have HJ := H.ag (ic_sc2 hJ)
    obtain ⟨f1, f2, -, -, -, -, -, -, f9, -⟩ := id HJ
    have p7 : 0 < 7 ^ rem := Nat.pow_pos (by omega)
    have p7' := pow7 (k := rem) (by omega)
    have hw5 : way < 16807 := hway
    have dle : way / 7 ^ rem ≤ way := Nat.div_le_self _ _
    have e1 : nI ln - nI 1 = nI (ln - 1) := pk_sub (by omega)
    have e2 : nI (ln - 1) - nI made = nI rem := by rw [pk_sub (by omega)]; exact congrArg nI (by omega)
    have z1 : ¬ nI (7 ^ rem) = 0 := nI_ne0 p7 (by omega)
    have z7 : ¬ nI 7 = 0 := by decide
    have d1 : nI way / nI (7 ^ rem) = nI (way / 7 ^ rem) := pk_div (by omega) p7 (by omega)
    have r1 : nI (way / 7 ^ rem) - nI (way / 7 ^ rem) / nI 7 * nI 7 = nI (way / 7 ^ rem % 7) := pk_rem (by omega) (by omega) (by omega)
    have s7 : way / 7 ^ rem % 7 < 7 := Nat.mod_lt _ (by omega)
    rw [goW] at hgo
    rw [rX13_isCloth_32]
    simp only [am_lv_of, rX13_isCloth_34, rX13_isCloth_35, rX13_isCloth_38, rX13_isCloth_39, rX13_isCloth_40, rX13_isCloth_41, rX13_isCloth_42, rX13_isCloth_44, rX13_isCloth_45, rX13_isCloth_48, rX13_isCloth_49, rX13_isCloth_51, rX13_isCloth_52, rX13_isCloth_54, rX13_isCloth_55, rX13_isCloth_57, ro_69_1 hR, ro_69_3 hR, ro_69_5 hR, ro_69_6 hR, ro_69_7 hR, ro_69_8 hR, ro_69_9 hR, ro_69_21 hR, ro_69_22 hR, ro_69_23 hR, ro_69_24 hR, ro_69_25 hR, ro_69_26 hR, ro_69_27 hR, ro_69_28 hR, ro_69_29 hR, ro_69_30 hR, ro_69_31 hR, ro_69_32 hR, ro_69_33 hR, ro_69_34 hR, ro_69_35 hR, ro_69_36 hR, ro_69_38 hR, ro_69_39 hR, ro_69_40 hR, ro_69_41 hR, ro_69_42 hR, ro_69_44 hR, ro_69_45 hR, ro_69_46 hR, ro_69_48 hR, ro_69_49 hR, ro_69_51 hR, ro_69_52 hR, ro_69_55 hR, ro_69_56 hR, ro_69_57 hR, ro_69_58 hR, ro_69_59 hR, ro_69_61 hR, ro_69_62 hR, ro_69_63 hR, ro_69_64 hR, ro_69_65 hR, ro_69_66 hR, sh_69, sh_70, sh_71, sh_72, sh_73, sh_74, sh_75, sh_76, sh_77, sh_78, sh_79, sh_80, sh_81, sh_82, sh_83, sh_84, sh_85, sh_86, sh_87, sh_88, sh_89, sh_90, sh_91, sh_92, sh_93, sh_94, sh_95, sh_96, sh_97, sh_98, sh_99, sh_100, sh_101, sh_102, sh_103, sh_104, sh_105, sh_106, sh_107, sh_108, sh_109, sh_110, sh_111, sh_112, sh_113, sh_114, sh_115, hl, hvw9, Nat.reduceLT, Nat.reduceAdd, Nat.reduceMul, ne_eq, Nat.reduceEqDiff, not_false_eq_true, or_true, true_or, or_false, false_or, and_true, true_and, and_self, Nat.reduceLeDiff, am_ci, am_cr, am_cn0, Option.toList_some, Option.toList_none, List.cons_append, List.nil_append, am_s0, am_s1, am_s1r, am_s2, am_s2r, am_s3r, nI_add, am_u_ne, am_u_at, am_u_n1, am_u_n2, am_w_ne, ↓reduceIte, h1, e1, e2, c_sevens (show rem < 2 ^ 30 by omega), z1, z7, d1, r1, n5, c_isString hR hN HJ, isN_nI (show p_S σ ≤ 1000 by omega) (show way / 7 ^ rem % 7 ≤ 1000 by omega), rX13_isCloth_60, bI_ne]
    generalize way / 7 ^ rem % 7 = s at hgo s7 ⊢
    have no : ∀ {J' : Nat → Nat → Int32}, am_ag icP I J' → ¬ (s < p_S σ ∧ stW σ w s = true ∧ fitW τ k (cMv σ w s) (made + 1) = true) → Q (some (.int (nI 0))) (n, J', L, R) := fun hJ' hno => by
      rw [if_neg hno] at hgo
      have := hQ _ hJ' (fun w' hw' => by rw [hgo] at hw'; cases hw')
      rw [hgo] at this
      simpa [bI] using this
    by_cases hs : s < p_S σ
    · have est := st_xw (σ := σ) ho hs hw.2.1 hx
      simp only [am_lv_of, decide_eq_true hs, Bool.true_eq_false, ↓reduceIte, rX13_isCloth_63, rX13_isCloth_64, rX13_isCloth_66, ro_69_1 hR, ro_69_3 hR, ro_69_5 hR, ro_69_6 hR, ro_69_7 hR, ro_69_8 hR, ro_69_9 hR, ro_69_21 hR, ro_69_22 hR, ro_69_23 hR, ro_69_24 hR, ro_69_25 hR, ro_69_26 hR, ro_69_27 hR, ro_69_28 hR, ro_69_29 hR, ro_69_30 hR, ro_69_31 hR, ro_69_32 hR, ro_69_33 hR, ro_69_34 hR, ro_69_35 hR, ro_69_36 hR, ro_69_38 hR, ro_69_39 hR, ro_69_40 hR, ro_69_41 hR, ro_69_42 hR, ro_69_44 hR, ro_69_45 hR, ro_69_46 hR, ro_69_48 hR, ro_69_49 hR, ro_69_51 hR, ro_69_52 hR, ro_69_55 hR, ro_69_56 hR, ro_69_57 hR, ro_69_58 hR, ro_69_59 hR, ro_69_61 hR, ro_69_62 hR, ro_69_63 hR, ro_69_64 hR, ro_69_65 hR, ro_69_66 hR, sh_69, sh_70, sh_71, sh_72, sh_73, sh_74, sh_75, sh_76, sh_77, sh_78, sh_79, sh_80, sh_81, sh_82, sh_83, sh_84, sh_85, sh_86, sh_87, sh_88, sh_89, sh_90, sh_91, sh_92, sh_93, sh_94, sh_95, sh_96, sh_97, sh_98, sh_99, sh_100, sh_101, sh_102, sh_103, sh_104, sh_105, sh_106, sh_107, sh_108, sh_109, sh_110, sh_111, sh_112, sh_113, sh_114, sh_115, hl, hvw9, Nat.reduceLT, Nat.reduceAdd, Nat.reduceMul, ne_eq, Nat.reduceEqDiff, not_false_eq_true, or_true, true_or, or_false, false_or, and_true, true_and, and_self, Nat.reduceLeDiff, am_ci, am_cr, am_cn0, Option.toList_some, Option.toList_none, List.cons_append, List.nil_append, am_s0, am_s1, am_s1r, am_s2, am_s2r, am_s3r, nI_add, am_u_ne, am_u_at, am_u_n1, am_u_n2, am_w_ne, c_staysWithin hR hN HJ hs, rX13_isCloth_69, bI_ne, est]
      by_cases hst : stW σ w s = true
      · obtain ⟨m1, m2⟩ := mv_xw hw ho hs hst hx
        obtain ⟨y1, y2, -⟩ := f9 s hs
        have i7 : 7 * p_lv σ + s < 14 := by omega
        have i68 : p_ow σ s < 68 := by omega
        simp only [am_lv_of, hst, Bool.true_eq_false, not_false_eq_true, ↓reduceIte, rX13_isCloth_74, rX13_isCloth_75, rX13_isCloth_78, rX13_isCloth_79, rX13_isCloth_82, rX13_isCloth_84, rX13_isCloth_85, rX13_isCloth_88, rX13_isCloth_89, rX13_isCloth_91, rX13_isCloth_92, rX13_isCloth_93, rX13_isCloth_94, rX13_isCloth_96, rX13_isCloth_99, rX13_isCloth_100, rX13_isCloth_101, rX13_isCloth_102, rX13_isCloth_104, rX13_isCloth_105, rX13_isCloth_106, ro_69_1 hR, ro_69_3 hR, ro_69_5 hR, ro_69_6 hR, ro_69_7 hR, ro_69_8 hR, ro_69_9 hR, ro_69_21 hR, ro_69_22 hR, ro_69_23 hR, ro_69_24 hR, ro_69_25 hR, ro_69_26 hR, ro_69_27 hR, ro_69_28 hR, ro_69_29 hR, ro_69_30 hR, ro_69_31 hR, ro_69_32 hR, ro_69_33 hR, ro_69_34 hR, ro_69_35 hR, ro_69_36 hR, ro_69_38 hR, ro_69_39 hR, ro_69_40 hR, ro_69_41 hR, ro_69_42 hR, ro_69_44 hR, ro_69_45 hR, ro_69_46 hR, ro_69_48 hR, ro_69_49 hR, ro_69_51 hR, ro_69_52 hR, ro_69_55 hR, ro_69_56 hR, ro_69_57 hR, ro_69_58 hR, ro_69_59 hR, ro_69_61 hR, ro_69_62 hR, ro_69_63 hR, ro_69_64 hR, ro_69_65 hR, ro_69_66 hR, sh_69, sh_70, sh_71, sh_72, sh_73, sh_74, sh_75, sh_76, sh_77, sh_78, sh_79, sh_80, sh_81, sh_82, sh_83, sh_84, sh_85, sh_86, sh_87, sh_88, sh_89, sh_90, sh_91, sh_92, sh_93, sh_94, sh_95, sh_96, sh_97, sh_98, sh_99, sh_100, sh_101, sh_102, sh_103, sh_104, sh_105, sh_106, sh_107, sh_108, sh_109, sh_110, sh_111, sh_112, sh_113, sh_114, sh_115, hl, hvw9, Nat.reduceLT, Nat.reduceAdd, Nat.reduceMul, ne_eq, Nat.reduceEqDiff, not_false_eq_true, or_true, true_or, or_false, false_or, and_true, true_and, and_self, Nat.reduceLeDiff, am_ci, am_cr, am_cn0, Option.toList_some, Option.toList_none, List.cons_append, List.nil_append, am_s0, am_s1, am_s1r, am_s2, am_s2r, am_s3r, nI_add, am_u_ne, am_u_at, am_u_n1, am_u_n2, am_w_ne, hn, f1, pk_mul, i7, y1, i68, c_goesTo hR hN HJ hs, m1]
        have hJ2 : am_ag icP I (am_u J 104 (p_ow σ s) (nI (xw (cMv σ w s) (p_ow σ s)))) := hJ.u ⟨rfl, by omega⟩
        have hx2 : ∀ p, p < 5 → am_u J 104 (p_ow σ s) (nI (xw (cMv σ w s) (p_ow σ s))) 104 p = nI (xw (cMv σ w s) p) := fun p hp => by
          by_cases e : p = p_ow σ s
          · rw [e, am_u_at]
          · rw [am_u_n2 e, m2 p hp e]; exact hx p hp
        have ht2 : tlR (am_u J 104 (p_ow σ s) (nI (xw (cMv σ w s) (p_ow σ s)))) τ k := fun j hj => by
          rw [hJ2 110 j (by unfold icP; omega), hJ2 111 j (by unfold icP; omega), hJ2 112 j (by unfold icP; omega)]; exact ht j hj
        generalize am_u J 104 (p_ow σ s) (nI (xw (cMv σ w s) (p_ow σ s))) = J2 at hJ2 hx2 ht2 ⊢
        rw [c_isSeen hR hN hx2 hk2 ht2 (by omega)]
        simp only [am_lv_of, Option.toList_some, List.cons_append, List.nil_append, rX13_isCloth_109, bI_ne]
        by_cases hf : fitW τ k (cMv σ w s) (made + 1) = true
        · rw [if_pos ⟨hs, hst, hf⟩] at hgo
          simp only [am_lv_of, hf, Bool.true_eq_false, not_false_eq_true, ↓reduceIte, rX13_isCloth_114, rX13_isCloth_117, hl, hvw9, Nat.reduceLT, Nat.reduceAdd, Nat.reduceMul, ne_eq, Nat.reduceEqDiff, not_false_eq_true, or_true, true_or, or_false, false_or, and_true, true_and, and_self, Nat.reduceLeDiff, am_ci, am_cr, am_cn0, Option.toList_some, Option.toList_none, List.cons_append, List.nil_append, am_s0, am_s1, am_s1r, am_s2, am_s2r, am_s3r, nI_add, am_u_ne, am_u_at, am_u_n1, am_u_n2, am_w_ne]
          exact ih (made + 1) (cMv σ w s) J2 _ (by omega) (hw.mv ho hs hst) hgo hJ2 hx2 am_ci
        · have hf' : fitW τ k (cMv σ w s) (made + 1) = false := by simpa using hf
          simp only [am_lv_of, hf', not_true_eq_false, ↓reduceIte, rX13_isCloth_112, rX13_isCloth_113, rX13_isCloth_113_0, rX13_isCloth_113_1, hl, hvw9, Nat.reduceLT, Nat.reduceAdd, Nat.reduceMul, ne_eq, Nat.reduceEqDiff, not_false_eq_true, or_true, true_or, or_false, false_or, and_true, true_and, and_self, Nat.reduceLeDiff, am_ci, am_cr, am_cn0, Option.toList_some, Option.toList_none, List.cons_append, List.nil_append, am_s0, am_s1, am_s1r, am_s2, am_s2r, am_s3r, nI_add, am_u_ne, am_u_at, am_u_n1, am_u_n2, am_w_ne]
          exact no hJ2 (fun z => hf z.2.2)
      · have hst' : stW σ w s = false := by simpa using hst
        simp only [am_lv_of, hst', not_true_eq_false, ↓reduceIte, rX13_isCloth_72, rX13_isCloth_73, rX13_isCloth_73_0, rX13_isCloth_73_1, hl, hvw9, Nat.reduceLT, Nat.reduceAdd, Nat.reduceMul, ne_eq, Nat.reduceEqDiff, not_false_eq_true, or_true, true_or, or_false, false_or, and_true, true_and, and_self, Nat.reduceLeDiff, am_ci, am_cr, am_cn0, Option.toList_some, Option.toList_none, List.cons_append, List.nil_append, am_s0, am_s1, am_s1r, am_s2, am_s2r, am_s3r, nI_add, am_u_ne, am_u_at, am_u_n1, am_u_n2, am_w_ne]
        exact no hJ (fun z => hst z.2.1)
    · simp only [am_lv_of, decide_eq_false hs, ↓reduceIte, rX13_isCloth_72, rX13_isCloth_73, rX13_isCloth_73_0, rX13_isCloth_73_1, hl, hvw9, Nat.reduceLT, Nat.reduceAdd, Nat.reduceMul, ne_eq, Nat.reduceEqDiff, not_false_eq_true, or_true, true_or, or_false, false_or, and_true, true_and, and_self, Nat.reduceLeDiff, am_ci, am_cr, am_cn0, Option.toList_some, Option.toList_none, List.cons_append, List.nil_append, am_s0, am_s1, am_s1r, am_s2, am_s2r, am_s3r, nI_add, am_u_ne, am_u_at, am_u_n1, am_u_n2, am_w_ne]
      exact no hJ (fun z => hs z.1)
theorem c_isCloth {way k ln w0 : Nat} (hR : am_OR R) (hN : 116 ≤ n) (hn : n ≤ 1000) (ho : ok_S σ) (H : rf_S I σ) (hk2 : k ≤ 20) (ht : tlR I τ k) (hln : ln ≤ 5) (hway : way < 7 ^ 5) (hw0 : okP σ w0) (hx : ∀ p, p < 5 → I 103 p = nI (xw w0 p)) (hQ : ∀ I', am_ag icP I I' → (∀ w', goW σ τ k ln 0 w0 way = some w' → ∀ p, p < 5 → I' 104 p = nI (xw w' p)) → Q (some (.int (bI (goW σ τ k ln 0 w0 way).isSome))) (n, I', L, R)) : am_E X (d + 2) mX13_isCloth 0 [some (.ref 69), some (.int (nI way)), some (.int (nI k)), some (.int (nI ln)), none, none] [] (n, I, L, R) Q := by
  have hl := am_lt hN
  have hvw9 := am_lw hN
  simp only [am_lv_of, rX13_isCloth_0, rX13_isCloth_1, hl, hvw9, Nat.reduceLT, Nat.reduceAdd, Nat.reduceMul, ne_eq, Nat.reduceEqDiff, not_false_eq_true, or_true, true_or, or_false, false_or, and_true, true_and, and_self, Nat.reduceLeDiff, am_ci, am_cr, am_cn0, Option.toList_some, Option.toList_none, List.cons_append, List.nil_append, am_s0, am_s1, am_s1r, am_s2, am_s2r, am_s3r, nI_add, am_u_ne, am_u_at, am_u_n1, am_u_n2, am_w_ne]
  refine l_isCl0 hR hN hn am_ci 5 0 I (by omega) am_ag.refl (fun j hj => absurd hj (Nat.not_lt_zero _)) (fun I1 g1 e1 => ?_)
  simp only [am_lv_of, rX13_isCloth_29, rX13_isCloth_30, hl, hvw9, Nat.reduceLT, Nat.reduceAdd, Nat.reduceMul, ne_eq, Nat.reduceEqDiff, not_false_eq_true, or_true, true_or, or_false, false_or, and_true, true_and, and_self, Nat.reduceLeDiff, am_ci, am_cr, am_cn0, Option.toList_some, Option.toList_none, List.cons_append, List.nil_append, am_s0, am_s1, am_s1r, am_s2, am_s2r, am_s3r, nI_add, am_u_ne, am_u_at, am_u_n1, am_u_n2, am_w_ne]
  refine l_isCl (w0 := w0) (I := I) hR hN hn ho H hk2 ht hln hway hQ ln 0 w0 I1 none (by omega) hw0 rfl g1 (fun p hp => by rw [e1 p hp]; exact hx p hp) am_cn0
def askB (a b : Int32) (T : Nat) : Bool := (decide (nI 0 ≤ a) && decide (a ≤ nI T)) && (decide (nI 0 ≤ b) && decide (b ≤ nI 5))
theorem c_asksC {a b : Int32} {T : Nat} (hN : 116 ≤ n) (hT : I 57 10 = nI T) : am_E X d mX2_asks 0 [some (.ref 57), some (.int a), some (.int b)] [] (n, I, L, R) Q ↔ Q (some (.int (bI (askB a b T)))) (n, I, L, R) := by
  have hl := am_lt hN
  have hvw9 := am_lw hN
  unfold askB
  by_cases a1 : a < 0
  · have a1' : ¬ nI 0 ≤ a := Int32.not_le.mpr a1
    simp only [am_lv_of, rX2_asks_0, rX2_asks_1, rX2_asks_4, rX2_asks_5, rX2_asks_6, rX2_asks_9, rX2_asks_12, rX2_asks_13, rX2_asks_16, rX2_asks_17, rX2_asks_18, rX2_asks_21, rX2_asks_22, rX2_asks_25, rX2_asks_26, rX2_asks_26_0, rX2_asks_26_1, sh_57, hl, hvw9, Nat.reduceLT, Nat.reduceAdd, Nat.reduceMul, ne_eq, Nat.reduceEqDiff, not_false_eq_true, or_true, true_or, or_false, false_or, and_true, true_and, and_self, Nat.reduceLeDiff, am_ci, am_cr, am_cn0, Option.toList_some, Option.toList_none, List.cons_append, List.nil_append, am_s0, am_s1, am_s1r, am_s2, am_s2r, am_s3r, nI_add, am_u_ne, am_u_at, am_u_n1, am_u_n2, am_w_ne, ↓reduceIte, a1, decide_eq_false a1', Bool.false_and, bI, Bool.false_eq_true, if_false]
  · have a1' : nI 0 ≤ a := Int32.not_lt.mp a1
    by_cases a2 : a ≤ nI T
    · have a2' : ¬ nI T < a := Int32.not_lt.mpr a2
      by_cases b1 : b < 0
      · have b1' : ¬ nI 0 ≤ b := Int32.not_le.mpr b1
        simp only [am_lv_of, rX2_asks_0, rX2_asks_1, rX2_asks_4, rX2_asks_5, rX2_asks_6, rX2_asks_9, rX2_asks_12, rX2_asks_13, rX2_asks_16, rX2_asks_17, rX2_asks_18, rX2_asks_21, rX2_asks_22, rX2_asks_25, rX2_asks_26, rX2_asks_26_0, rX2_asks_26_1, sh_57, hl, hvw9, Nat.reduceLT, Nat.reduceAdd, Nat.reduceMul, ne_eq, Nat.reduceEqDiff, not_false_eq_true, or_true, true_or, or_false, false_or, and_true, true_and, and_self, Nat.reduceLeDiff, am_ci, am_cr, am_cn0, Option.toList_some, Option.toList_none, List.cons_append, List.nil_append, am_s0, am_s1, am_s1r, am_s2, am_s2r, am_s3r, nI_add, am_u_ne, am_u_at, am_u_n1, am_u_n2, am_w_ne, ↓reduceIte, hT, a1, a2', b1, decide_eq_true a1', decide_eq_true a2, decide_eq_false b1', Bool.false_and, Bool.and_false, bI, Bool.false_eq_true, if_false]
      · have b1' : nI 0 ≤ b := Int32.not_lt.mp b1
        by_cases b2 : b ≤ nI 5
        · have b2' : ¬ nI 5 < b := Int32.not_lt.mpr b2
          simp only [am_lv_of, rX2_asks_0, rX2_asks_1, rX2_asks_4, rX2_asks_5, rX2_asks_6, rX2_asks_9, rX2_asks_12, rX2_asks_13, rX2_asks_16, rX2_asks_17, rX2_asks_18, rX2_asks_21, rX2_asks_22, rX2_asks_25, rX2_asks_26, rX2_asks_26_0, rX2_asks_26_1, sh_57, hl, hvw9, Nat.reduceLT, Nat.reduceAdd, Nat.reduceMul, ne_eq, Nat.reduceEqDiff, not_false_eq_true, or_true, true_or, or_false, false_or, and_true, true_and, and_self, Nat.reduceLeDiff, am_ci, am_cr, am_cn0, Option.toList_some, Option.toList_none, List.cons_append, List.nil_append, am_s0, am_s1, am_s1r, am_s2, am_s2r, am_s3r, nI_add, am_u_ne, am_u_at, am_u_n1, am_u_n2, am_w_ne, ↓reduceIte, hT, a1, a2', b1, b2', decide_eq_true a1', decide_eq_true a2, decide_eq_true b1', decide_eq_true b2, Bool.and_true, bI, if_true]
        · have b2' : nI 5 < b := Int32.not_le.mp b2
          simp only [am_lv_of, rX2_asks_0, rX2_asks_1, rX2_asks_4, rX2_asks_5, rX2_asks_6, rX2_asks_9, rX2_asks_12, rX2_asks_13, rX2_asks_16, rX2_asks_17, rX2_asks_18, rX2_asks_21, rX2_asks_22, rX2_asks_25, rX2_asks_26, rX2_asks_26_0, rX2_asks_26_1, sh_57, hl, hvw9, Nat.reduceLT, Nat.reduceAdd, Nat.reduceMul, ne_eq, Nat.reduceEqDiff, not_false_eq_true, or_true, true_or, or_false, false_or, and_true, true_and, and_self, Nat.reduceLeDiff, am_ci, am_cr, am_cn0, Option.toList_some, Option.toList_none, List.cons_append, List.nil_append, am_s0, am_s1, am_s1r, am_s2, am_s2r, am_s3r, nI_add, am_u_ne, am_u_at, am_u_n1, am_u_n2, am_w_ne, ↓reduceIte, hT, a1, a2', b1, b2', decide_eq_true a1', decide_eq_true a2, decide_eq_true b1', decide_eq_false b2, Bool.and_false, bI, Bool.false_eq_true, if_false]
    · have a2' : nI T < a := Int32.not_le.mp a2
      simp only [am_lv_of, rX2_asks_0, rX2_asks_1, rX2_asks_4, rX2_asks_5, rX2_asks_6, rX2_asks_9, rX2_asks_12, rX2_asks_13, rX2_asks_16, rX2_asks_17, rX2_asks_18, rX2_asks_21, rX2_asks_22, rX2_asks_25, rX2_asks_26, rX2_asks_26_0, rX2_asks_26_1, sh_57, hl, hvw9, Nat.reduceLT, Nat.reduceAdd, Nat.reduceMul, ne_eq, Nat.reduceEqDiff, not_false_eq_true, or_true, true_or, or_false, false_or, and_true, true_and, and_self, Nat.reduceLeDiff, am_ci, am_cr, am_cn0, Option.toList_some, Option.toList_none, List.cons_append, List.nil_append, am_s0, am_s1, am_s1r, am_s2, am_s2r, am_s3r, nI_add, am_u_ne, am_u_at, am_u_n1, am_u_n2, am_w_ne, ↓reduceIte, hT, a1, a2', decide_eq_true a1', decide_eq_false a2, Bool.and_false, Bool.false_and, bI, Bool.false_eq_true, if_false]
theorem c_isAsked {a b : Int32} {T : Nat} (hN : 116 ≤ n) (hT : I 69 60 = nI T) : am_E X (d + 1) mX13_isAsked 0 [some (.ref 69), some (.int a), some (.int b)] [] (n, I, L, R) Q ↔ Q (some (.int (bI (askB a b T)))) (n, I, L, R) := by
  have hl := am_lt hN
  have hvw9 := am_lw hN
  unfold askB
  simp only [am_lv_of, rX13_isAsked_0, rX13_isAsked_1, rX13_isAsked_2, rX13_isAsked_3, rX13_isAsked_6, sh_69, hl, hvw9, Nat.reduceLT, Nat.reduceAdd, Nat.reduceMul, ne_eq, Nat.reduceEqDiff, not_false_eq_true, or_true, true_or, or_false, false_or, and_true, true_and, and_self, Nat.reduceLeDiff, am_ci, am_cr, am_cn0, Option.toList_some, Option.toList_none, List.cons_append, List.nil_append, am_s0, am_s1, am_s1r, am_s2, am_s2r, am_s3r, nI_add, am_u_ne, am_u_at, am_u_n1, am_u_n2, am_w_ne, hT, c_in, rX13_isAsked_9, bI_ne]
  cases h1 : (decide (nI 0 ≤ a) && decide (a ≤ nI T)) with
  | false => simp only [am_lv_of, ↓reduceIte, rX13_isAsked_25, rX13_isAsked_26, rX13_isAsked_26_0, rX13_isAsked_26_1, hl, hvw9, Nat.reduceLT, Nat.reduceAdd, Nat.reduceMul, ne_eq, Nat.reduceEqDiff, not_false_eq_true, or_true, true_or, or_false, false_or, and_true, true_and, and_self, Nat.reduceLeDiff, am_ci, am_cr, am_cn0, Option.toList_some, Option.toList_none, List.cons_append, List.nil_append, am_s0, am_s1, am_s1r, am_s2, am_s2r, am_s3r, nI_add, am_u_ne, am_u_at, am_u_n1, am_u_n2, am_w_ne, Bool.false_and, bI, Bool.false_eq_true, if_false]
  | true =>
    simp only [am_lv_of, ↓reduceIte, Bool.true_eq_false, rX13_isAsked_12, rX13_isAsked_13, rX13_isAsked_14, rX13_isAsked_15, hl, hvw9, Nat.reduceLT, Nat.reduceAdd, Nat.reduceMul, ne_eq, Nat.reduceEqDiff, not_false_eq_true, or_true, true_or, or_false, false_or, and_true, true_and, and_self, Nat.reduceLeDiff, am_ci, am_cr, am_cn0, Option.toList_some, Option.toList_none, List.cons_append, List.nil_append, am_s0, am_s1, am_s1r, am_s2, am_s2r, am_s3r, nI_add, am_u_ne, am_u_at, am_u_n1, am_u_n2, am_w_ne, c_in, rX13_isAsked_18, bI_ne]
    cases h2 : (decide (nI 0 ≤ b) && decide (b ≤ nI 5)) with
    | false => simp only [am_lv_of, ↓reduceIte, rX13_isAsked_25, rX13_isAsked_26, rX13_isAsked_26_0, rX13_isAsked_26_1, hl, hvw9, Nat.reduceLT, Nat.reduceAdd, Nat.reduceMul, ne_eq, Nat.reduceEqDiff, not_false_eq_true, or_true, true_or, or_false, false_or, and_true, true_and, and_self, Nat.reduceLeDiff, am_ci, am_cr, am_cn0, Option.toList_some, Option.toList_none, List.cons_append, List.nil_append, am_s0, am_s1, am_s1r, am_s2, am_s2r, am_s3r, nI_add, am_u_ne, am_u_at, am_u_n1, am_u_n2, am_w_ne, Bool.and_false, bI, Bool.false_eq_true, if_false]
    | true => simp only [am_lv_of, ↓reduceIte, Bool.true_eq_false, rX13_isAsked_21, rX13_isAsked_22, rX13_isAsked_25, rX13_isAsked_26, rX13_isAsked_26_0, rX13_isAsked_26_1, hl, hvw9, Nat.reduceLT, Nat.reduceAdd, Nat.reduceMul, ne_eq, Nat.reduceEqDiff, not_false_eq_true, or_true, true_or, or_false, false_or, and_true, true_and, and_self, Nat.reduceLeDiff, am_ci, am_cr, am_cn0, Option.toList_some, Option.toList_none, List.cons_append, List.nil_append, am_s0, am_s1, am_s1r, am_s2, am_s2r, am_s3r, nI_add, am_u_ne, am_u_at, am_u_n1, am_u_n2, am_w_ne, Bool.and_true, bI, if_true]
theorem askB_ok {a b : Int32} {T : Nat} (hT : T ≤ 20) (h : askB a b T = true) : ∃ k ln, k ≤ T ∧ ln ≤ 5 ∧ a = nI k ∧ b = nI ln := by
  unfold askB at h
  rw [Bool.and_eq_true] at h
  obtain ⟨k, -, k2, rfl⟩ := (in01 (by omega) (by omega)).mp h.1
  obtain ⟨ln, -, l2, rfl⟩ := (in01 (by omega) (by omega)).mp h.2
  exact ⟨k, ln, k2, l2, rfl, rfl⟩
theorem l_clothR {k ln w0 : Nat} (hR : am_OR R) (hN : 116 ≤ n) (hn : n ≤ 1000) (ho : ok_S σ) (H : rf_S I σ) (hk2 : k ≤ 20) (ht : tlR I τ k) (hln : ln ≤ 5) (hw0 : okP σ w0) (hx : ∀ p, p < 5 → I 103 p = nI (xw w0 p)) (hQ : ∀ I', am_ag icP I I' → Q (some (.int (nI (cnF (fun way => (goW σ τ k ln 0 w0 way).isSome) (7 ^ ln))))) (n, I', L, R)) : ∀ (m t : Nat) (J : Nat → Nat → Int32), t + m = 7 ^ ln → am_ag icP I J → am_E X (d + 3) mX13_cloth 16 [some (.ref 69), some (.int (nI k)), some (.int (nI ln)), some (.int (nI (cnF (fun way => (goW σ τ k ln 0 w0 way).isSome) t))), some (.int (nI t))] [] (n, J, L, R) Q := by
  have hl := am_lt hN
  have hvw9 := am_lw hN
  have p7 := pow7 hln
  intro m
  induction m with
  | zero =>
    intro t J ht0 hJ
    have ht0 : t = 7 ^ ln := by omega
    subst ht0
    have h1 : nI (7 ^ ln) ≤ nI (7 ^ ln) := nI_le (Nat.le_refl _) (by omega)
    simp only [am_lv_of, rX13_cloth_16, rX13_cloth_18, rX13_cloth_19, rX13_cloth_22, rX13_cloth_45, rX13_cloth_46, ro_69_1 hR, ro_69_3 hR, ro_69_5 hR, ro_69_6 hR, ro_69_7 hR, ro_69_8 hR, ro_69_9 hR, ro_69_21 hR, ro_69_22 hR, ro_69_23 hR, ro_69_24 hR, ro_69_25 hR, ro_69_26 hR, ro_69_27 hR, ro_69_28 hR, ro_69_29 hR, ro_69_30 hR, ro_69_31 hR, ro_69_32 hR, ro_69_33 hR, ro_69_34 hR, ro_69_35 hR, ro_69_36 hR, ro_69_38 hR, ro_69_39 hR, ro_69_40 hR, ro_69_41 hR, ro_69_42 hR, ro_69_44 hR, ro_69_45 hR, ro_69_46 hR, ro_69_48 hR, ro_69_49 hR, ro_69_51 hR, ro_69_52 hR, ro_69_55 hR, ro_69_56 hR, ro_69_57 hR, ro_69_58 hR, ro_69_59 hR, ro_69_61 hR, ro_69_62 hR, ro_69_63 hR, ro_69_64 hR, ro_69_65 hR, ro_69_66 hR, sh_69, sh_70, sh_71, sh_72, sh_73, sh_74, sh_75, sh_76, sh_77, sh_78, sh_79, sh_80, sh_81, sh_82, sh_83, sh_84, sh_85, sh_86, sh_87, sh_88, sh_89, sh_90, sh_91, sh_92, sh_93, sh_94, sh_95, sh_96, sh_97, sh_98, sh_99, sh_100, sh_101, sh_102, sh_103, sh_104, sh_105, sh_106, sh_107, sh_108, sh_109, sh_110, sh_111, sh_112, sh_113, sh_114, sh_115, hl, hvw9, Nat.reduceLT, Nat.reduceAdd, Nat.reduceMul, ne_eq, Nat.reduceEqDiff, not_false_eq_true, or_true, true_or, or_false, false_or, and_true, true_and, and_self, Nat.reduceLeDiff, am_ci, am_cr, am_cn0, Option.toList_some, Option.toList_none, List.cons_append, List.nil_append, am_s0, am_s1, am_s1r, am_s2, am_s2r, am_s3r, nI_add, am_u_ne, am_u_at, am_u_n1, am_u_n2, am_w_ne, ↓reduceIte, c_sevens (show ln < 2 ^ 30 by omega), h1]
    exact hQ J hJ
  | succ m ih =>
    intro t J ht0 hJ
    have h1 : ¬ nI (7 ^ ln) ≤ nI t := nI_ge (by omega) (by omega)
    rw [rX13_cloth_16]
    simp only [am_lv_of, rX13_cloth_18, rX13_cloth_19, rX13_cloth_22, rX13_cloth_25, rX13_cloth_26, rX13_cloth_28, rX13_cloth_29, rX13_cloth_30, ro_69_1 hR, ro_69_3 hR, ro_69_5 hR, ro_69_6 hR, ro_69_7 hR, ro_69_8 hR, ro_69_9 hR, ro_69_21 hR, ro_69_22 hR, ro_69_23 hR, ro_69_24 hR, ro_69_25 hR, ro_69_26 hR, ro_69_27 hR, ro_69_28 hR, ro_69_29 hR, ro_69_30 hR, ro_69_31 hR, ro_69_32 hR, ro_69_33 hR, ro_69_34 hR, ro_69_35 hR, ro_69_36 hR, ro_69_38 hR, ro_69_39 hR, ro_69_40 hR, ro_69_41 hR, ro_69_42 hR, ro_69_44 hR, ro_69_45 hR, ro_69_46 hR, ro_69_48 hR, ro_69_49 hR, ro_69_51 hR, ro_69_52 hR, ro_69_55 hR, ro_69_56 hR, ro_69_57 hR, ro_69_58 hR, ro_69_59 hR, ro_69_61 hR, ro_69_62 hR, ro_69_63 hR, ro_69_64 hR, ro_69_65 hR, ro_69_66 hR, sh_69, sh_70, sh_71, sh_72, sh_73, sh_74, sh_75, sh_76, sh_77, sh_78, sh_79, sh_80, sh_81, sh_82, sh_83, sh_84, sh_85, sh_86, sh_87, sh_88, sh_89, sh_90, sh_91, sh_92, sh_93, sh_94, sh_95, sh_96, sh_97, sh_98, sh_99, sh_100, sh_101, sh_102, sh_103, sh_104, sh_105, sh_106, sh_107, sh_108, sh_109, sh_110, sh_111, sh_112, sh_113, sh_114, sh_115, hl, hvw9, Nat.reduceLT, Nat.reduceAdd, Nat.reduceMul, ne_eq, Nat.reduceEqDiff, not_false_eq_true, or_true, true_or, or_false, false_or, and_true, true_and, and_self, Nat.reduceLeDiff, am_ci, am_cr, am_cn0, Option.toList_some, Option.toList_none, List.cons_append, List.nil_append, am_s0, am_s1, am_s1r, am_s2, am_s2r, am_s3r, nI_add, am_u_ne, am_u_at, am_u_n1, am_u_n2, am_w_ne, ↓reduceIte, c_sevens (show ln < 2 ^ 30 by omega), h1]
    refine c_isCloth (τ := τ) (w0 := w0) hR hN hn ho (H.ag (ic_sc2 hJ)) hk2 (fun j hj => ?_) hln (show t < 16807 by omega) hw0 (fun p hp => by rw [hJ 103 p (by unfold icP; omega)]; exact hx p hp) (fun J1 g1 _ => ?_)
    · rw [hJ 110 j (by unfold icP; omega), hJ 111 j (by unfold icP; omega), hJ 112 j (by unfold icP; omega)]; exact ht j hj
    · have ih' := ih (t + 1) J1 (by omega) (hJ.trans g1)
      rw [cnF] at ih'
      simp only [am_lv_of, Option.toList_some, List.cons_append, List.nil_append, rX13_cloth_33, bI_ne]
      cases hb : (goW σ τ k ln 0 w0 t).isSome with
      | false =>
        simp only [hb, Bool.false_eq_true, if_false, Nat.add_zero] at ih'
        simp only [am_lv_of, ↓reduceIte, rX13_cloth_39, rX13_cloth_42, hl, hvw9, Nat.reduceLT, Nat.reduceAdd, Nat.reduceMul, ne_eq, Nat.reduceEqDiff, not_false_eq_true, or_true, true_or, or_false, false_or, and_true, true_and, and_self, Nat.reduceLeDiff, am_ci, am_cr, am_cn0, Option.toList_some, Option.toList_none, List.cons_append, List.nil_append, am_s0, am_s1, am_s1r, am_s2, am_s2r, am_s3r, nI_add, am_u_ne, am_u_at, am_u_n1, am_u_n2, am_w_ne]
        exact ih'
      | true =>
        simp only [hb, if_true] at ih'
        simp only [am_lv_of, ↓reduceIte, Bool.true_eq_false, rX13_cloth_36, rX13_cloth_39, rX13_cloth_42, hl, hvw9, Nat.reduceLT, Nat.reduceAdd, Nat.reduceMul, ne_eq, Nat.reduceEqDiff, not_false_eq_true, or_true, true_or, or_false, false_or, and_true, true_and, and_self, Nat.reduceLeDiff, am_ci, am_cr, am_cn0, Option.toList_some, Option.toList_none, List.cons_append, List.nil_append, am_s0, am_s1, am_s1r, am_s2, am_s2r, am_s3r, nI_add, am_u_ne, am_u_at, am_u_n1, am_u_n2, am_w_ne]
        exact ih'
/-- what a question about the cloth begins with -/
theorem told_ok {T : Nat} {P : Nat} (hP : P ≤ 5) (h : ∀ i, i < T → ∃ p, p < P ∧ I 58 i = nI p ∧ I 110 i = nI p ∧ I 59 i = I 111 i ∧ I 60 i = I 112 i) {k : Nat} (hk : k ≤ T) : ∃ τ : tol, tlC I τ k ∧ tlR I τ k := by
  refine ⟨(fun j => (I 58 j).toNatClampNeg, I 59, I 60), fun j hj => ?_, fun j hj => ?_⟩
  · obtain ⟨p, p1, p2, p3, p4, p5⟩ := h j (by omega)
    show I 58 j = nI (I 58 j).toNatClampNeg ∧ (I 58 j).toNatClampNeg < 5 ∧ I 59 j = I 59 j ∧ I 60 j = I 60 j
    rw [p2, nI_clamp (by omega)]
    exact ⟨rfl, by omega, rfl, rfl⟩
  · obtain ⟨p, p1, p2, p3, p4, p5⟩ := h j (by omega)
    show I 110 j = nI (I 58 j).toNatClampNeg ∧ (I 58 j).toNatClampNeg < 5 ∧ I 111 j = I 59 j ∧ I 112 j = I 60 j
    rw [p2, p3, nI_clamp (by omega)]
    exact ⟨rfl, by omega, p4.symm, p5.symm⟩
theorem wk_scr {I' : Nat → Nat → Int32} (h : am_ag wkP I I') : am_ag scrP I I' := h.mono (fun k j z => by unfold wkP clP at z; unfold scrP; omega)
theorem tlR_wk {I' : Nat → Nat → Int32} {k : Nat} (h : tlR I τ k) (g : am_ag wkP I I') : tlR I' τ k := fun j hj => by
  rw [g 110 j (by unfold wkP clP; omega), g 111 j (by unfold wkP clP; omega), g 112 j (by unfold wkP clP; omega)]; exact h j hj
theorem s_cloth {a b : Int32} (H : REL (n, I, L, R)) : sim X (d + 30) mX12_cloth mX13_cloth [some (.ref 0), some (.int a), some (.int b)] [some (.ref 69), some (.int a), some (.int b), none, none] (n, I, L, R) := by
  obtain ⟨σ, H⟩ := H
  have hR := H.1.1
  have hN := H.1.N
  have hn := H.1.n
  have hl := am_lt hN
  have hvw9 := am_lw hN
  obtain ⟨S1, S2, S3, S4, S5, S6, S7, ws, S8, S9⟩ := id (show relS I σ from H.2.2.1)
  obtain ⟨o1, o2, o3, o4⟩ := id S3
  obtain ⟨b1, b2, b3, b4, bz, b5, b6, b7⟩ := id S2
  obtain ⟨f1, f2, f3, f4, f5, f6, f7, f8, f9, f10⟩ := id S1
  obtain ⟨w, K, cw, cp, c16, c15, c17, c18, c19, c20, c28, c29, cK, c30, cK12, cpl, cpr, cs, cv⟩ := id (show crs I 34 (p_P σ) (p_S σ) (I 103) from H.2.2.2.2.1)
  unfold sim
  obtain ⟨T, T1, T2, T3, T4⟩ : relJ I (p_P σ) := H.2.2.2.2.2.2.2
  by_cases hask : askB a b T = true
  · obtain ⟨k, ln, k1, l1, rfl, rfl⟩ := askB_ok T1 hask
    obtain ⟨τ, tc, tr⟩ := told_ok o1 T4 k1
    simp only [am_lv_of, rX12_cloth_0, rX12_cloth_1, rX12_cloth_4, rX12_cloth_5, rX12_cloth_6, rX12_cloth_9, rX12_cloth_12, rX12_cloth_13, rX12_cloth_14, rX12_cloth_15, rX12_cloth_18, rX12_cloth_19, rX12_cloth_22, rX12_cloth_25, rX12_cloth_26, rX12_cloth_27, ro_0_0 hR, ro_0_3 hR, ro_0_4 hR, ro_0_5 hR, ro_0_6 hR, ro_0_7 hR, ro_0_8 hR, ro_0_9 hR, ro_0_10 hR, ro_0_11 hR, ro_2_6 hR, ro_2_7 hR, ro_2_8 hR, ro_2_9 hR, ro_2_10 hR, ro_2_11 hR, ro_2_12 hR, ro_2_13 hR, ro_9_0 hR, ro_9_1 hR, ro_9_2 hR, ro_14_0 hR, ro_14_1 hR, ro_14_2 hR, ro_14_7 hR, ro_15_0 hR, ro_15_1 hR, ro_15_2 hR, ro_15_3 hR, ro_20_6 hR, ro_20_7 hR, ro_20_8 hR, ro_20_9 hR, ro_20_10 hR, ro_20_11 hR, ro_20_12 hR, ro_20_13 hR, ro_27_0 hR, ro_27_1 hR, ro_27_2 hR, ro_32_0 hR, ro_32_1 hR, ro_34_10 hR, ro_34_11 hR, ro_34_12 hR, ro_34_13 hR, ro_39_0 hR, ro_39_1 hR, ro_42_0 hR, ro_42_1 hR, ro_47_0 hR, ro_47_1 hR, ro_47_2 hR, ro_47_3 hR, ro_55_0 hR, ro_55_1 hR, ro_55_2 hR, ro_57_0 hR, ro_57_1 hR, ro_57_2 hR, ro_57_3 hR, ro_57_4 hR, ro_57_5 hR, ro_57_8 hR, sh_0, sh_1, sh_2, sh_3, sh_4, sh_5, sh_6, sh_7, sh_8, sh_9, sh_10, sh_11, sh_12, sh_13, sh_14, sh_15, sh_16, sh_17, sh_18, sh_19, sh_20, sh_21, sh_22, sh_23, sh_24, sh_25, sh_26, sh_27, sh_28, sh_29, sh_30, sh_31, sh_32, sh_33, sh_34, sh_35, sh_36, sh_37, sh_38, sh_39, sh_40, sh_41, sh_42, sh_43, sh_44, sh_45, sh_46, sh_47, sh_48, sh_49, sh_50, sh_51, sh_52, sh_53, sh_54, sh_55, sh_56, sh_57, sh_58, sh_59, sh_60, sh_61, sh_62, sh_63, sh_64, sh_65, sh_66, sh_67, sh_68, hl, hvw9, Nat.reduceLT, Nat.reduceAdd, Nat.reduceMul, ne_eq, Nat.reduceEqDiff, not_false_eq_true, or_true, true_or, or_false, false_or, and_true, true_and, and_self, Nat.reduceLeDiff, am_ci, am_cr, am_cn0, Option.toList_some, Option.toList_none, List.cons_append, List.nil_append, am_s0, am_s1, am_s1r, am_s2, am_s2r, am_s3r, nI_add, am_u_ne, am_u_at, am_u_n1, am_u_n2, am_w_ne, ↓reduceIte, c_asksC hN T2, hask, b_t, not_false_eq_true, cw]
    refine c_walk (τ := τ) hR hN hn S3 S2 l1 (by omega) tc cp.ok (fun I1 g1 c1 => ?_)
    have H1 := H.scr (wk_scr g1)
    simp only [am_lv_of, Option.toList_none, List.nil_append, rX12_cloth_30, rX12_cloth_31, rX12_cloth_34, rX12_cloth_37, ro_0_0 hR, ro_0_3 hR, ro_0_4 hR, ro_0_5 hR, ro_0_6 hR, ro_0_7 hR, ro_0_8 hR, ro_0_9 hR, ro_0_10 hR, ro_0_11 hR, ro_2_6 hR, ro_2_7 hR, ro_2_8 hR, ro_2_9 hR, ro_2_10 hR, ro_2_11 hR, ro_2_12 hR, ro_2_13 hR, ro_9_0 hR, ro_9_1 hR, ro_9_2 hR, ro_14_0 hR, ro_14_1 hR, ro_14_2 hR, ro_14_7 hR, ro_15_0 hR, ro_15_1 hR, ro_15_2 hR, ro_15_3 hR, ro_20_6 hR, ro_20_7 hR, ro_20_8 hR, ro_20_9 hR, ro_20_10 hR, ro_20_11 hR, ro_20_12 hR, ro_20_13 hR, ro_27_0 hR, ro_27_1 hR, ro_27_2 hR, ro_32_0 hR, ro_32_1 hR, ro_34_10 hR, ro_34_11 hR, ro_34_12 hR, ro_34_13 hR, ro_39_0 hR, ro_39_1 hR, ro_42_0 hR, ro_42_1 hR, ro_47_0 hR, ro_47_1 hR, ro_47_2 hR, ro_47_3 hR, ro_55_0 hR, ro_55_1 hR, ro_55_2 hR, ro_57_0 hR, ro_57_1 hR, ro_57_2 hR, ro_57_3 hR, ro_57_4 hR, ro_57_5 hR, ro_57_8 hR, sh_0, sh_1, sh_2, sh_3, sh_4, sh_5, sh_6, sh_7, sh_8, sh_9, sh_10, sh_11, sh_12, sh_13, sh_14, sh_15, sh_16, sh_17, sh_18, sh_19, sh_20, sh_21, sh_22, sh_23, sh_24, sh_25, sh_26, sh_27, sh_28, sh_29, sh_30, sh_31, sh_32, sh_33, sh_34, sh_35, sh_36, sh_37, sh_38, sh_39, sh_40, sh_41, sh_42, sh_43, sh_44, sh_45, sh_46, sh_47, sh_48, sh_49, sh_50, sh_51, sh_52, sh_53, sh_54, sh_55, sh_56, sh_57, sh_58, sh_59, sh_60, sh_61, sh_62, sh_63, sh_64, sh_65, sh_66, sh_67, sh_68, hl, hvw9, Nat.reduceLT, Nat.reduceAdd, Nat.reduceMul, ne_eq, Nat.reduceEqDiff, not_false_eq_true, or_true, true_or, or_false, false_or, and_true, true_and, and_self, Nat.reduceLeDiff, am_ci, am_cr, am_cn0, Option.toList_some, Option.toList_none, List.cons_append, List.nil_append, am_s0, am_s1, am_s1r, am_s2, am_s2r, am_s3r, nI_add, am_u_ne, am_u_at, am_u_n1, am_u_n2, am_w_ne, c1.1]
    have T3' : I1 69 60 = nI T := by rw [g1 69 60 (by unfold wkP clP; omega)]; exact T3
    simp only [am_lv_of, rX13_cloth_0, rX13_cloth_1, rX13_cloth_2, rX13_cloth_3, rX13_cloth_6, rX13_cloth_9, rX13_cloth_10, rX13_cloth_11, rX13_cloth_12, rX13_cloth_13, rX13_cloth_14, ro_69_1 hR, ro_69_3 hR, ro_69_5 hR, ro_69_6 hR, ro_69_7 hR, ro_69_8 hR, ro_69_9 hR, ro_69_21 hR, ro_69_22 hR, ro_69_23 hR, ro_69_24 hR, ro_69_25 hR, ro_69_26 hR, ro_69_27 hR, ro_69_28 hR, ro_69_29 hR, ro_69_30 hR, ro_69_31 hR, ro_69_32 hR, ro_69_33 hR, ro_69_34 hR, ro_69_35 hR, ro_69_36 hR, ro_69_38 hR, ro_69_39 hR, ro_69_40 hR, ro_69_41 hR, ro_69_42 hR, ro_69_44 hR, ro_69_45 hR, ro_69_46 hR, ro_69_48 hR, ro_69_49 hR, ro_69_51 hR, ro_69_52 hR, ro_69_55 hR, ro_69_56 hR, ro_69_57 hR, ro_69_58 hR, ro_69_59 hR, ro_69_61 hR, ro_69_62 hR, ro_69_63 hR, ro_69_64 hR, ro_69_65 hR, ro_69_66 hR, sh_69, sh_70, sh_71, sh_72, sh_73, sh_74, sh_75, sh_76, sh_77, sh_78, sh_79, sh_80, sh_81, sh_82, sh_83, sh_84, sh_85, sh_86, sh_87, sh_88, sh_89, sh_90, sh_91, sh_92, sh_93, sh_94, sh_95, sh_96, sh_97, sh_98, sh_99, sh_100, sh_101, sh_102, sh_103, sh_104, sh_105, sh_106, sh_107, sh_108, sh_109, sh_110, sh_111, sh_112, sh_113, sh_114, sh_115, hl, hvw9, Nat.reduceLT, Nat.reduceAdd, Nat.reduceMul, ne_eq, Nat.reduceEqDiff, not_false_eq_true, or_true, true_or, or_false, false_or, and_true, true_and, and_self, Nat.reduceLeDiff, am_ci, am_cr, am_cn0, Option.toList_some, Option.toList_none, List.cons_append, List.nil_append, am_s0, am_s1, am_s1r, am_s2, am_s2r, am_s3r, nI_add, am_u_ne, am_u_at, am_u_n1, am_u_n2, am_w_ne, ↓reduceIte, c_isAsked hN T3', hask, b_t, not_false_eq_true]
    refine l_clothR (τ := τ) (k := k) (ln := ln) (w0 := w) hR hN hn S3 H1.rf (by omega) (tlR_wk tr g1) l1 cp.ok (fun p hp => by rw [g1 103 p (by unfold wkP clP; omega)]; exact (cp.2.1 p hp).1) (fun I2 g2 => ⟨rfl, σ, H1.scr (sc2_scr (ic_sc2 g2))⟩) (7 ^ ln) 0 I1 (by omega) am_ag.refl
  · have hask : askB a b T = false := by simpa using hask
    simp only [am_lv_of, rX12_cloth_0, rX12_cloth_1, rX12_cloth_4, rX12_cloth_5, rX12_cloth_6, rX12_cloth_9, rX12_cloth_12, rX12_cloth_13, ro_0_0 hR, ro_0_3 hR, ro_0_4 hR, ro_0_5 hR, ro_0_6 hR, ro_0_7 hR, ro_0_8 hR, ro_0_9 hR, ro_0_10 hR, ro_0_11 hR, ro_2_6 hR, ro_2_7 hR, ro_2_8 hR, ro_2_9 hR, ro_2_10 hR, ro_2_11 hR, ro_2_12 hR, ro_2_13 hR, ro_9_0 hR, ro_9_1 hR, ro_9_2 hR, ro_14_0 hR, ro_14_1 hR, ro_14_2 hR, ro_14_7 hR, ro_15_0 hR, ro_15_1 hR, ro_15_2 hR, ro_15_3 hR, ro_20_6 hR, ro_20_7 hR, ro_20_8 hR, ro_20_9 hR, ro_20_10 hR, ro_20_11 hR, ro_20_12 hR, ro_20_13 hR, ro_27_0 hR, ro_27_1 hR, ro_27_2 hR, ro_32_0 hR, ro_32_1 hR, ro_34_10 hR, ro_34_11 hR, ro_34_12 hR, ro_34_13 hR, ro_39_0 hR, ro_39_1 hR, ro_42_0 hR, ro_42_1 hR, ro_47_0 hR, ro_47_1 hR, ro_47_2 hR, ro_47_3 hR, ro_55_0 hR, ro_55_1 hR, ro_55_2 hR, ro_57_0 hR, ro_57_1 hR, ro_57_2 hR, ro_57_3 hR, ro_57_4 hR, ro_57_5 hR, ro_57_8 hR, sh_0, sh_1, sh_2, sh_3, sh_4, sh_5, sh_6, sh_7, sh_8, sh_9, sh_10, sh_11, sh_12, sh_13, sh_14, sh_15, sh_16, sh_17, sh_18, sh_19, sh_20, sh_21, sh_22, sh_23, sh_24, sh_25, sh_26, sh_27, sh_28, sh_29, sh_30, sh_31, sh_32, sh_33, sh_34, sh_35, sh_36, sh_37, sh_38, sh_39, sh_40, sh_41, sh_42, sh_43, sh_44, sh_45, sh_46, sh_47, sh_48, sh_49, sh_50, sh_51, sh_52, sh_53, sh_54, sh_55, sh_56, sh_57, sh_58, sh_59, sh_60, sh_61, sh_62, sh_63, sh_64, sh_65, sh_66, sh_67, sh_68, hl, hvw9, Nat.reduceLT, Nat.reduceAdd, Nat.reduceMul, ne_eq, Nat.reduceEqDiff, not_false_eq_true, or_true, true_or, or_false, false_or, and_true, true_and, and_self, Nat.reduceLeDiff, am_ci, am_cr, am_cn0, Option.toList_some, Option.toList_none, List.cons_append, List.nil_append, am_s0, am_s1, am_s1r, am_s2, am_s2r, am_s3r, nI_add, am_u_ne, am_u_at, am_u_n1, am_u_n2, am_w_ne, ↓reduceIte, c_asksC hN T2, hask, b_f, not_true_eq_false]
    simp only [am_lv_of, rX13_cloth_0, rX13_cloth_1, rX13_cloth_2, rX13_cloth_3, rX13_cloth_6, rX13_cloth_9, rX13_cloth_10, ro_69_1 hR, ro_69_3 hR, ro_69_5 hR, ro_69_6 hR, ro_69_7 hR, ro_69_8 hR, ro_69_9 hR, ro_69_21 hR, ro_69_22 hR, ro_69_23 hR, ro_69_24 hR, ro_69_25 hR, ro_69_26 hR, ro_69_27 hR, ro_69_28 hR, ro_69_29 hR, ro_69_30 hR, ro_69_31 hR, ro_69_32 hR, ro_69_33 hR, ro_69_34 hR, ro_69_35 hR, ro_69_36 hR, ro_69_38 hR, ro_69_39 hR, ro_69_40 hR, ro_69_41 hR, ro_69_42 hR, ro_69_44 hR, ro_69_45 hR, ro_69_46 hR, ro_69_48 hR, ro_69_49 hR, ro_69_51 hR, ro_69_52 hR, ro_69_55 hR, ro_69_56 hR, ro_69_57 hR, ro_69_58 hR, ro_69_59 hR, ro_69_61 hR, ro_69_62 hR, ro_69_63 hR, ro_69_64 hR, ro_69_65 hR, ro_69_66 hR, sh_69, sh_70, sh_71, sh_72, sh_73, sh_74, sh_75, sh_76, sh_77, sh_78, sh_79, sh_80, sh_81, sh_82, sh_83, sh_84, sh_85, sh_86, sh_87, sh_88, sh_89, sh_90, sh_91, sh_92, sh_93, sh_94, sh_95, sh_96, sh_97, sh_98, sh_99, sh_100, sh_101, sh_102, sh_103, sh_104, sh_105, sh_106, sh_107, sh_108, sh_109, sh_110, sh_111, sh_112, sh_113, sh_114, sh_115, hl, hvw9, Nat.reduceLT, Nat.reduceAdd, Nat.reduceMul, ne_eq, Nat.reduceEqDiff, not_false_eq_true, or_true, true_or, or_false, false_or, and_true, true_and, and_self, Nat.reduceLeDiff, am_ci, am_cr, am_cn0, Option.toList_some, Option.toList_none, List.cons_append, List.nil_append, am_s0, am_s1, am_s1r, am_s2, am_s2r, am_s3r, nI_add, am_u_ne, am_u_at, am_u_n1, am_u_n2, am_w_ne, ↓reduceIte, c_isAsked hN T3, hask, b_f, not_true_eq_false]
    exact ⟨σ, H⟩
theorem comF_m2 {ok : Nat → Option Nat} {dg : Nat → Nat} (hd : ∀ t, dg t < 7) {t : Nat} (h : comF ok dg t = -2) : ∀ m, comF ok dg (t + m) = -2 := by
  intro m
  induction m with
  | zero => exact h
  | succ m ih =>
    rw [← Nat.add_assoc, comF]
    cases ok (t + m) with
    | none => exact ih
    | some w =>
      simp only [ih]
      rw [if_neg (by decide), if_neg (fun z => by have := nI_pos (n := dg (t + m)) (by have := hd (t + m); omega); rw [← z] at this; exact absurd this (by decide))]
theorem comF_form {ok : Nat → Option Nat} {dg : Nat → Nat} : ∀ t, (comF ok dg t = -1 ∧ cnF (fun way => (ok way).isSome) t = 0) ∨ (0 < cnF (fun way => (ok way).isSome) t ∧ (comF ok dg t = -2 ∨ ∃ y, y < t ∧ comF ok dg t = nI (dg y))) := by
  intro t
  induction t with
  | zero => exact Or.inl ⟨rfl, rfl⟩
  | succ t ih =>
    rw [comF, cnF]
    cases hk : ok t with
    | none =>
      simp only [Option.isSome_none, Bool.false_eq_true, if_false, Nat.add_zero]
      rcases ih with ⟨a, b⟩ | ⟨a, b | ⟨y, y1, y2⟩⟩
      · exact Or.inl ⟨a, b⟩
      · exact Or.inr ⟨a, Or.inl b⟩
      · exact Or.inr ⟨a, Or.inr ⟨y, by omega, y2⟩⟩
    | some w =>
      simp only [Option.isSome_some, if_true]
      refine Or.inr ⟨by omega, ?_⟩
      split
      · exact Or.inr ⟨t, by omega, rfl⟩
      · split
        · next h => exact Or.inr ⟨t, by omega, h⟩
        · exact Or.inl rfl
theorem dgW_lt {ln i t : Nat} : dgW ln i t < 7 := Nat.mod_lt _ (by omega)
theorem l_sureR {k ln w0 i : Nat} (hR : am_OR R) (hN : 116 ≤ n) (hn : n ≤ 1000) (ho : ok_S σ) (H : rf_S I σ) (hk2 : k ≤ 20) (ht : tlR I τ k) (hln : ln ≤ 5) (hi : i < ln) (hw0 : okP σ w0) (hx : ∀ p, p < 5 → I 103 p = nI (xw w0 p)) (hQ : ∀ I', am_ag icP I I' → Q (some (.int (if cnF (fun way => (goW σ τ k ln 0 w0 way).isSome) (7 ^ ln) = 0 then -2 else comF (goW σ τ k ln 0 w0) (dgW ln i) (7 ^ ln)))) (n, I', L, R)) : ∀ (m t : Nat) (J : Nat → Nat → Int32) (l6 : Option Value), t + m = 7 ^ ln → am_ag icP I J → comF (goW σ τ k ln 0 w0) (dgW ln i) t ≠ -2 → am_nl l6 → am_E X (d + 3) mX13_sure 28 [some (.ref 69), some (.int (nI k)), some (.int (nI ln)), some (.int (nI i)), some (.int (comF (goW σ τ k ln 0 w0) (dgW ln i) t)), some (.int (nI t)), l6] [] (n, J, L, R) Q := by
  have hl := am_lt hN
  have hvw9 := am_lw hN
  have p7 := pow7 hln
  intro m
  induction m with
  | zero =>
    intro t J l6 ht0 hJ hne n6
    have ht0 : t = 7 ^ ln := by omega
    subst ht0
    have h1 : nI (7 ^ ln) ≤ nI (7 ^ ln) := nI_le (Nat.le_refl _) (by omega)
    have hq := hQ J hJ
    rcases comF_form (ok := goW σ τ k ln 0 w0) (dg := dgW ln i) (7 ^ ln) with ⟨a, b⟩ | ⟨a, b⟩
    · rw [if_pos b] at hq
      have z : ¬ (0 : Int32) ≤ -1 := by decide
      simp only [am_lv_of, rX13_sure_28, rX13_sure_30, rX13_sure_31, rX13_sure_34, rX13_sure_92, rX13_sure_94, rX13_sure_97, rX13_sure_99, rX13_sure_102, rX13_sure_104, ro_69_1 hR, ro_69_3 hR, ro_69_5 hR, ro_69_6 hR, ro_69_7 hR, ro_69_8 hR, ro_69_9 hR, ro_69_21 hR, ro_69_22 hR, ro_69_23 hR, ro_69_24 hR, ro_69_25 hR, ro_69_26 hR, ro_69_27 hR, ro_69_28 hR, ro_69_29 hR, ro_69_30 hR, ro_69_31 hR, ro_69_32 hR, ro_69_33 hR, ro_69_34 hR, ro_69_35 hR, ro_69_36 hR, ro_69_38 hR, ro_69_39 hR, ro_69_40 hR, ro_69_41 hR, ro_69_42 hR, ro_69_44 hR, ro_69_45 hR, ro_69_46 hR, ro_69_48 hR, ro_69_49 hR, ro_69_51 hR, ro_69_52 hR, ro_69_55 hR, ro_69_56 hR, ro_69_57 hR, ro_69_58 hR, ro_69_59 hR, ro_69_61 hR, ro_69_62 hR, ro_69_63 hR, ro_69_64 hR, ro_69_65 hR, ro_69_66 hR, sh_69, sh_70, sh_71, sh_72, sh_73, sh_74, sh_75, sh_76, sh_77, sh_78, sh_79, sh_80, sh_81, sh_82, sh_83, sh_84, sh_85, sh_86, sh_87, sh_88, sh_89, sh_90, sh_91, sh_92, sh_93, sh_94, sh_95, sh_96, sh_97, sh_98, sh_99, sh_100, sh_101, sh_102, sh_103, sh_104, sh_105, sh_106, sh_107, sh_108, sh_109, sh_110, sh_111, sh_112, sh_113, sh_114, sh_115, hl, hvw9, Nat.reduceLT, Nat.reduceAdd, Nat.reduceMul, ne_eq, Nat.reduceEqDiff, not_false_eq_true, or_true, true_or, or_false, false_or, and_true, true_and, and_self, Nat.reduceLeDiff, am_ci, am_cr, am_cn0, Option.toList_some, Option.toList_none, List.cons_append, List.nil_append, am_s0, am_s1, am_s1r, am_s2, am_s2r, am_s3r, nI_add, am_u_ne, am_u_at, am_u_n1, am_u_n2, am_w_ne, ↓reduceIte, c_sevens (show ln < 2 ^ 30 by omega), h1, a, z]
      exact hq
    · rw [if_neg (by omega)] at hq
      rcases b with b | ⟨y, y1, y2⟩
      · exact absurd b hne
      · have z : (0 : Int32) ≤ comF (goW σ τ k ln 0 w0) (dgW ln i) (7 ^ ln) := by rw [y2]; exact nI_pos' (by have := dgW_lt (ln := ln) (i := i) (t := y); omega)
        simp only [am_lv_of, rX13_sure_28, rX13_sure_30, rX13_sure_31, rX13_sure_34, rX13_sure_92, rX13_sure_94, rX13_sure_97, rX13_sure_99, rX13_sure_102, rX13_sure_104, ro_69_1 hR, ro_69_3 hR, ro_69_5 hR, ro_69_6 hR, ro_69_7 hR, ro_69_8 hR, ro_69_9 hR, ro_69_21 hR, ro_69_22 hR, ro_69_23 hR, ro_69_24 hR, ro_69_25 hR, ro_69_26 hR, ro_69_27 hR, ro_69_28 hR, ro_69_29 hR, ro_69_30 hR, ro_69_31 hR, ro_69_32 hR, ro_69_33 hR, ro_69_34 hR, ro_69_35 hR, ro_69_36 hR, ro_69_38 hR, ro_69_39 hR, ro_69_40 hR, ro_69_41 hR, ro_69_42 hR, ro_69_44 hR, ro_69_45 hR, ro_69_46 hR, ro_69_48 hR, ro_69_49 hR, ro_69_51 hR, ro_69_52 hR, ro_69_55 hR, ro_69_56 hR, ro_69_57 hR, ro_69_58 hR, ro_69_59 hR, ro_69_61 hR, ro_69_62 hR, ro_69_63 hR, ro_69_64 hR, ro_69_65 hR, ro_69_66 hR, sh_69, sh_70, sh_71, sh_72, sh_73, sh_74, sh_75, sh_76, sh_77, sh_78, sh_79, sh_80, sh_81, sh_82, sh_83, sh_84, sh_85, sh_86, sh_87, sh_88, sh_89, sh_90, sh_91, sh_92, sh_93, sh_94, sh_95, sh_96, sh_97, sh_98, sh_99, sh_100, sh_101, sh_102, sh_103, sh_104, sh_105, sh_106, sh_107, sh_108, sh_109, sh_110, sh_111, sh_112, sh_113, sh_114, sh_115, hl, hvw9, Nat.reduceLT, Nat.reduceAdd, Nat.reduceMul, ne_eq, Nat.reduceEqDiff, not_false_eq_true, or_true, true_or, or_false, false_or, and_true, true_and, and_self, Nat.reduceLeDiff, am_ci, am_cr, am_cn0, Option.toList_some, Option.toList_none, List.cons_append, List.nil_append, am_s0, am_s1, am_s1r, am_s2, am_s2r, am_s3r, nI_add, am_u_ne, am_u_at, am_u_n1, am_u_n2, am_w_ne, ↓reduceIte, c_sevens (show ln < 2 ^ 30 by omega), h1, z]
        exact hq
  | succ m ih =>
    intro t J l6 ht0 hJ hne n6
    have h1 : ¬ nI (7 ^ ln) ≤ nI t := nI_ge (by omega) (by omega)
    rw [rX13_sure_28]
    simp only [am_lv_of, rX13_sure_30, rX13_sure_31, rX13_sure_34, rX13_sure_37, rX13_sure_38, rX13_sure_40, rX13_sure_41, rX13_sure_42, ro_69_1 hR, ro_69_3 hR, ro_69_5 hR, ro_69_6 hR, ro_69_7 hR, ro_69_8 hR, ro_69_9 hR, ro_69_21 hR, ro_69_22 hR, ro_69_23 hR, ro_69_24 hR, ro_69_25 hR, ro_69_26 hR, ro_69_27 hR, ro_69_28 hR, ro_69_29 hR, ro_69_30 hR, ro_69_31 hR, ro_69_32 hR, ro_69_33 hR, ro_69_34 hR, ro_69_35 hR, ro_69_36 hR, ro_69_38 hR, ro_69_39 hR, ro_69_40 hR, ro_69_41 hR, ro_69_42 hR, ro_69_44 hR, ro_69_45 hR, ro_69_46 hR, ro_69_48 hR, ro_69_49 hR, ro_69_51 hR, ro_69_52 hR, ro_69_55 hR, ro_69_56 hR, ro_69_57 hR, ro_69_58 hR, ro_69_59 hR, ro_69_61 hR, ro_69_62 hR, ro_69_63 hR, ro_69_64 hR, ro_69_65 hR, ro_69_66 hR, sh_69, sh_70, sh_71, sh_72, sh_73, sh_74, sh_75, sh_76, sh_77, sh_78, sh_79, sh_80, sh_81, sh_82, sh_83, sh_84, sh_85, sh_86, sh_87, sh_88, sh_89, sh_90, sh_91, sh_92, sh_93, sh_94, sh_95, sh_96, sh_97, sh_98, sh_99, sh_100, sh_101, sh_102, sh_103, sh_104, sh_105, sh_106, sh_107, sh_108, sh_109, sh_110, sh_111, sh_112, sh_113, sh_114, sh_115, hl, hvw9, Nat.reduceLT, Nat.reduceAdd, Nat.reduceMul, ne_eq, Nat.reduceEqDiff, not_false_eq_true, or_true, true_or, or_false, false_or, and_true, true_and, and_self, Nat.reduceLeDiff, am_ci, am_cr, am_cn0, Option.toList_some, Option.toList_none, List.cons_append, List.nil_append, am_s0, am_s1, am_s1r, am_s2, am_s2r, am_s3r, nI_add, am_u_ne, am_u_at, am_u_n1, am_u_n2, am_w_ne, ↓reduceIte, c_sevens (show ln < 2 ^ 30 by omega), h1]
    refine c_isCloth (τ := τ) (w0 := w0) hR hN hn ho (H.ag (ic_sc2 hJ)) hk2 (fun j hj => ?_) hln (show t < 16807 by omega) hw0 (fun p hp => by rw [hJ 103 p (by unfold icP; omega)]; exact hx p hp) (fun J1 g1 _ => ?_)
    · rw [hJ 110 j (by unfold icP; omega), hJ 111 j (by unfold icP; omega), hJ 112 j (by unfold icP; omega)]; exact ht j hj
    · have ih' := fun l6 hh n6 => ih (t + 1) J1 l6 (by omega) (hJ.trans g1) hh n6
      simp only [am_lv_of, Option.toList_some, List.cons_append, List.nil_append, rX13_sure_45, bI_ne]
      cases hb : goW σ τ k ln 0 w0 t with
      | none =>
        have ec : comF (goW σ τ k ln 0 w0) (dgW ln i) (t + 1) = comF (goW σ τ k ln 0 w0) (dgW ln i) t := by rw [comF, hb]
        rw [ec] at ih'
        simp only [am_lv_of, Option.isSome_none, not_true_eq_false, ↓reduceIte, rX13_sure_48, rX13_sure_86, rX13_sure_89, hl, hvw9, Nat.reduceLT, Nat.reduceAdd, Nat.reduceMul, ne_eq, Nat.reduceEqDiff, not_false_eq_true, or_true, true_or, or_false, false_or, and_true, true_and, and_self, Nat.reduceLeDiff, am_ci, am_cr, am_cn0, Option.toList_some, Option.toList_none, List.cons_append, List.nil_append, am_s0, am_s1, am_s1r, am_s2, am_s2r, am_s3r, nI_add, am_u_ne, am_u_at, am_u_n1, am_u_n2, am_w_ne]
        exact ih' l6 hne n6
      | some w =>
        have ec : comF (goW σ τ k ln 0 w0) (dgW ln i) (t + 1) = if comF (goW σ τ k ln 0 w0) (dgW ln i) t = -1 then nI (dgW ln i t) else if comF (goW σ τ k ln 0 w0) (dgW ln i) t = nI (dgW ln i t) then comF (goW σ τ k ln 0 w0) (dgW ln i) t else -2 := by rw [comF, hb]
        have q7 : 0 < 7 ^ (ln - 1 - i) := Nat.pow_pos (by omega)
        have q7' := pow7 (k := ln - 1 - i) (by omega)
        have dle : t / 7 ^ (ln - 1 - i) ≤ t := Nat.div_le_self _ _
        have e1 : nI ln - nI 1 = nI (ln - 1) := pk_sub (by omega)
        have e2 : nI (ln - 1) - nI i = nI (ln - 1 - i) := pk_sub (by omega)
        have z1 : ¬ nI (7 ^ (ln - 1 - i)) = 0 := nI_ne0 q7 (by omega)
        have z7 : ¬ nI 7 = 0 := by decide
        have d1 : nI t / nI (7 ^ (ln - 1 - i)) = nI (t / 7 ^ (ln - 1 - i)) := pk_div (by omega) q7 (by omega)
        have r1 : nI (t / 7 ^ (ln - 1 - i)) - nI (t / 7 ^ (ln - 1 - i)) / nI 7 * nI 7 = nI (dgW ln i t) := pk_rem (by omega) (by omega) (by omega)
        have dl : dgW ln i t < 7 := dgW_lt
        simp only [am_lv_of, Option.isSome_some, Bool.true_eq_false, not_false_eq_true, ↓reduceIte, rX13_sure_51, rX13_sure_53, rX13_sure_54, rX13_sure_55, rX13_sure_56, rX13_sure_57, rX13_sure_58, rX13_sure_61, rX13_sure_62, rX13_sure_64, rX13_sure_65, rX13_sure_67, ro_69_1 hR, ro_69_3 hR, ro_69_5 hR, ro_69_6 hR, ro_69_7 hR, ro_69_8 hR, ro_69_9 hR, ro_69_21 hR, ro_69_22 hR, ro_69_23 hR, ro_69_24 hR, ro_69_25 hR, ro_69_26 hR, ro_69_27 hR, ro_69_28 hR, ro_69_29 hR, ro_69_30 hR, ro_69_31 hR, ro_69_32 hR, ro_69_33 hR, ro_69_34 hR, ro_69_35 hR, ro_69_36 hR, ro_69_38 hR, ro_69_39 hR, ro_69_40 hR, ro_69_41 hR, ro_69_42 hR, ro_69_44 hR, ro_69_45 hR, ro_69_46 hR, ro_69_48 hR, ro_69_49 hR, ro_69_51 hR, ro_69_52 hR, ro_69_55 hR, ro_69_56 hR, ro_69_57 hR, ro_69_58 hR, ro_69_59 hR, ro_69_61 hR, ro_69_62 hR, ro_69_63 hR, ro_69_64 hR, ro_69_65 hR, ro_69_66 hR, sh_69, sh_70, sh_71, sh_72, sh_73, sh_74, sh_75, sh_76, sh_77, sh_78, sh_79, sh_80, sh_81, sh_82, sh_83, sh_84, sh_85, sh_86, sh_87, sh_88, sh_89, sh_90, sh_91, sh_92, sh_93, sh_94, sh_95, sh_96, sh_97, sh_98, sh_99, sh_100, sh_101, sh_102, sh_103, sh_104, sh_105, sh_106, sh_107, sh_108, sh_109, sh_110, sh_111, sh_112, sh_113, sh_114, sh_115, hl, hvw9, Nat.reduceLT, Nat.reduceAdd, Nat.reduceMul, ne_eq, Nat.reduceEqDiff, not_false_eq_true, or_true, true_or, or_false, false_or, and_true, true_and, and_self, Nat.reduceLeDiff, am_ci, am_cr, am_cn0, Option.toList_some, Option.toList_none, List.cons_append, List.nil_append, am_s0, am_s1, am_s1r, am_s2, am_s2r, am_s3r, nI_add, am_u_ne, am_u_at, am_u_n1, am_u_n2, am_w_ne, e1, e2, c_sevens (show ln - 1 - i < 2 ^ 30 by omega), z1, z7, d1, r1, n6]
        rcases comF_form (ok := goW σ τ k ln 0 w0) (dg := dgW ln i) t with ⟨a, b⟩ | ⟨a, b⟩
        · rw [if_pos a] at ec
          have z : (-1 : Int32) < 0 := by decide
          rw [ec] at ih'
          simp only [am_lv_of, rX13_sure_69, rX13_sure_82, rX13_sure_84, rX13_sure_86, rX13_sure_89, hl, hvw9, Nat.reduceLT, Nat.reduceAdd, Nat.reduceMul, ne_eq, Nat.reduceEqDiff, not_false_eq_true, or_true, true_or, or_false, false_or, and_true, true_and, and_self, Nat.reduceLeDiff, am_ci, am_cr, am_cn0, Option.toList_some, Option.toList_none, List.cons_append, List.nil_append, am_s0, am_s1, am_s1r, am_s2, am_s2r, am_s3r, nI_add, am_u_ne, am_u_at, am_u_n1, am_u_n2, am_w_ne, ↓reduceIte, a, z]
          exact ih' _ (fun z => by have := nI_pos (n := dgW ln i t) (by omega); rw [z] at this; exact absurd this (by decide)) am_ci
        · rcases b with b | ⟨y, y1, y2⟩
          · exact absurd b hne
          · have yl : dgW ln i y < 7 := dgW_lt
            have hm1 : ¬ comF (goW σ τ k ln 0 w0) (dgW ln i) t = -1 := by rw [y2]; exact nI_nm1 (by omega)
            rw [if_neg hm1] at ec
            have z : ¬ nI (dgW ln i y) < 0 := nI_pos (by omega)
            by_cases hc : nI (dgW ln i y) = nI (dgW ln i t)
            · have hc' : (nI (dgW ln i y) = nI (dgW ln i t)) = True := eq_true hc
              rw [y2, if_pos hc, hc] at ec
              rw [ec] at ih'
              simp only [am_lv_of, rX13_sure_69, rX13_sure_72, rX13_sure_74, rX13_sure_76, rX13_sure_79, rX13_sure_81, rX13_sure_82, rX13_sure_84, rX13_sure_86, rX13_sure_89, hl, hvw9, Nat.reduceLT, Nat.reduceAdd, Nat.reduceMul, ne_eq, Nat.reduceEqDiff, not_false_eq_true, or_true, true_or, or_false, false_or, and_true, true_and, and_self, Nat.reduceLeDiff, am_ci, am_cr, am_cn0, Option.toList_some, Option.toList_none, List.cons_append, List.nil_append, am_s0, am_s1, am_s1r, am_s2, am_s2r, am_s3r, nI_add, am_u_ne, am_u_at, am_u_n1, am_u_n2, am_w_ne, ↓reduceIte, y2, z, hc']
              exact ih' _ (fun z => by have := nI_pos (n := dgW ln i t) (by omega); rw [z] at this; exact absurd this (by decide)) am_ci
            · rw [y2, if_neg hc] at ec
              simp only [am_lv_of, rX13_sure_69, rX13_sure_72, rX13_sure_74, rX13_sure_76, rX13_sure_79, rX13_sure_81, hl, hvw9, Nat.reduceLT, Nat.reduceAdd, Nat.reduceMul, ne_eq, Nat.reduceEqDiff, not_false_eq_true, or_true, true_or, or_false, false_or, and_true, true_and, and_self, Nat.reduceLeDiff, am_ci, am_cr, am_cn0, Option.toList_some, Option.toList_none, List.cons_append, List.nil_append, am_s0, am_s1, am_s1r, am_s2, am_s2r, am_s3r, nI_add, am_u_ne, am_u_at, am_u_n1, am_u_n2, am_w_ne, ↓reduceIte, y2, z, hc]
              have hq := hQ J1 (hJ.trans g1)
              have em := comF_m2 (ok := goW σ τ k ln 0 w0) (dg := dgW ln i) (fun _ => dgW_lt) ec m
              rw [show t + 1 + m = 7 ^ ln by omega] at em
              rw [em] at hq
              have ez : (if cnF (fun way => (goW σ τ k ln 0 w0 way).isSome) (7 ^ ln) = 0 then (-2 : Int32) else -2) = -2 := by split <;> rfl
              rw [ez] at hq
              exact hq
theorem s_sure {a b c : Int32} (H : REL (n, I, L, R)) : sim X (d + 30) mX12_sure mX13_sure [some (.ref 0), some (.int a), some (.int b), some (.int c)] [some (.ref 69), some (.int a), some (.int b), some (.int c), none, none, none] (n, I, L, R) := by
  obtain ⟨σ, H⟩ := H
  have hR := H.1.1
  have hN := H.1.N
  have hn := H.1.n
  have hl := am_lt hN
  have hvw9 := am_lw hN
  obtain ⟨S1, S2, S3, S4, S5, S6, S7, ws, S8, S9⟩ := id (show relS I σ from H.2.2.1)
  obtain ⟨o1, o2, o3, o4⟩ := id S3
  obtain ⟨b1, b2, b3, b4, bz, b5, b6, b7⟩ := id S2
  obtain ⟨f1, f2, f3, f4, f5, f6, f7, f8, f9, f10⟩ := id S1
  obtain ⟨w, K, cw, cp, c16, c15, c17, c18, c19, c20, c28, c29, cK, c30, cK12, cpl, cpr, cs, cv⟩ := id (show crs I 34 (p_P σ) (p_S σ) (I 103) from H.2.2.2.2.1)
  unfold sim
  obtain ⟨T, T1, T2, T3, T4⟩ : relJ I (p_P σ) := H.2.2.2.2.2.2.2
  by_cases hask : askB a b T = true
  · obtain ⟨k, ln, k1, l1, rfl, rfl⟩ := askB_ok T1 hask
    have e1 : nI ln - nI 1 = nI ln - nI 1 := rfl
    have hisN := isN_of (P := ln) (by omega) c
    by_cases hi : isN ln c = true
    · obtain ⟨i, hi1, rfl⟩ := (isN_iff (by omega)).mp hi
      obtain ⟨τ, tc, tr⟩ := told_ok o1 T4 k1
      have z0 : ¬ nI i < 0 := nI_pos (by omega)
      have z1 : nI i < nI ln := nI_lt hi1 (by omega)
      have i5 : i < 5 := by omega
      simp only [am_lv_of, rX12_sure_0, rX12_sure_1, rX12_sure_4, rX12_sure_5, rX12_sure_6, rX12_sure_9, rX12_sure_12, rX12_sure_13, rX12_sure_16, rX12_sure_17, rX12_sure_18, rX12_sure_21, rX12_sure_22, rX12_sure_23, rX12_sure_24, rX12_sure_27, rX12_sure_28, rX12_sure_31, rX12_sure_34, rX12_sure_35, rX12_sure_36, ro_0_0 hR, ro_0_3 hR, ro_0_4 hR, ro_0_5 hR, ro_0_6 hR, ro_0_7 hR, ro_0_8 hR, ro_0_9 hR, ro_0_10 hR, ro_0_11 hR, ro_2_6 hR, ro_2_7 hR, ro_2_8 hR, ro_2_9 hR, ro_2_10 hR, ro_2_11 hR, ro_2_12 hR, ro_2_13 hR, ro_9_0 hR, ro_9_1 hR, ro_9_2 hR, ro_14_0 hR, ro_14_1 hR, ro_14_2 hR, ro_14_7 hR, ro_15_0 hR, ro_15_1 hR, ro_15_2 hR, ro_15_3 hR, ro_20_6 hR, ro_20_7 hR, ro_20_8 hR, ro_20_9 hR, ro_20_10 hR, ro_20_11 hR, ro_20_12 hR, ro_20_13 hR, ro_27_0 hR, ro_27_1 hR, ro_27_2 hR, ro_32_0 hR, ro_32_1 hR, ro_34_10 hR, ro_34_11 hR, ro_34_12 hR, ro_34_13 hR, ro_39_0 hR, ro_39_1 hR, ro_42_0 hR, ro_42_1 hR, ro_47_0 hR, ro_47_1 hR, ro_47_2 hR, ro_47_3 hR, ro_55_0 hR, ro_55_1 hR, ro_55_2 hR, ro_57_0 hR, ro_57_1 hR, ro_57_2 hR, ro_57_3 hR, ro_57_4 hR, ro_57_5 hR, ro_57_8 hR, sh_0, sh_1, sh_2, sh_3, sh_4, sh_5, sh_6, sh_7, sh_8, sh_9, sh_10, sh_11, sh_12, sh_13, sh_14, sh_15, sh_16, sh_17, sh_18, sh_19, sh_20, sh_21, sh_22, sh_23, sh_24, sh_25, sh_26, sh_27, sh_28, sh_29, sh_30, sh_31, sh_32, sh_33, sh_34, sh_35, sh_36, sh_37, sh_38, sh_39, sh_40, sh_41, sh_42, sh_43, sh_44, sh_45, sh_46, sh_47, sh_48, sh_49, sh_50, sh_51, sh_52, sh_53, sh_54, sh_55, sh_56, sh_57, sh_58, sh_59, sh_60, sh_61, sh_62, sh_63, sh_64, sh_65, sh_66, sh_67, sh_68, hl, hvw9, Nat.reduceLT, Nat.reduceAdd, Nat.reduceMul, ne_eq, Nat.reduceEqDiff, not_false_eq_true, or_true, true_or, or_false, false_or, and_true, true_and, and_self, Nat.reduceLeDiff, am_ci, am_cr, am_cn0, Option.toList_some, Option.toList_none, List.cons_append, List.nil_append, am_s0, am_s1, am_s1r, am_s2, am_s2r, am_s3r, nI_add, am_u_ne, am_u_at, am_u_n1, am_u_n2, am_w_ne, ↓reduceIte, c_asksC hN T2, hask, b_t, z0, z1, cw]
      refine c_walk (τ := τ) hR hN hn S3 S2 l1 (by omega) tc cp.ok (fun I1 g1 c1 => ?_)
      have H1 := H.scr (wk_scr g1)
      have T3' : I1 69 60 = nI T := by rw [g1 69 60 (by unfold wkP clP; omega)]; exact T3
      have p7 := pow7 l1
      have cl := cnF_le (f := fun way => (goW σ τ k ln 0 w way).isSome) (7 ^ ln)
      have ref : ∀ {v : Int32}, v = (if cnF (fun way => (goW σ τ k ln 0 w way).isSome) (7 ^ ln) = 0 then -2 else comF (goW σ τ k ln 0 w) (dgW ln i) (7 ^ ln)) → am_E X (d + 30) mX13_sure 0 [some (.ref 69), some (.int (nI k)), some (.int (nI ln)), some (.int (nI i)), none, none, none] [] (n, I1, L, R) (fun v' M2 => some (.int v) = v' ∧ REL M2) := by
        intro v hv
        simp only [am_lv_of, rX13_sure_0, rX13_sure_1, rX13_sure_2, rX13_sure_3, rX13_sure_6, rX13_sure_9, rX13_sure_10, rX13_sure_11, rX13_sure_12, rX13_sure_13, rX13_sure_14, rX13_sure_17, rX13_sure_20, rX13_sure_21, rX13_sure_22, rX13_sure_23, rX13_sure_25, rX13_sure_26, ro_69_1 hR, ro_69_3 hR, ro_69_5 hR, ro_69_6 hR, ro_69_7 hR, ro_69_8 hR, ro_69_9 hR, ro_69_21 hR, ro_69_22 hR, ro_69_23 hR, ro_69_24 hR, ro_69_25 hR, ro_69_26 hR, ro_69_27 hR, ro_69_28 hR, ro_69_29 hR, ro_69_30 hR, ro_69_31 hR, ro_69_32 hR, ro_69_33 hR, ro_69_34 hR, ro_69_35 hR, ro_69_36 hR, ro_69_38 hR, ro_69_39 hR, ro_69_40 hR, ro_69_41 hR, ro_69_42 hR, ro_69_44 hR, ro_69_45 hR, ro_69_46 hR, ro_69_48 hR, ro_69_49 hR, ro_69_51 hR, ro_69_52 hR, ro_69_55 hR, ro_69_56 hR, ro_69_57 hR, ro_69_58 hR, ro_69_59 hR, ro_69_61 hR, ro_69_62 hR, ro_69_63 hR, ro_69_64 hR, ro_69_65 hR, ro_69_66 hR, sh_69, sh_70, sh_71, sh_72, sh_73, sh_74, sh_75, sh_76, sh_77, sh_78, sh_79, sh_80, sh_81, sh_82, sh_83, sh_84, sh_85, sh_86, sh_87, sh_88, sh_89, sh_90, sh_91, sh_92, sh_93, sh_94, sh_95, sh_96, sh_97, sh_98, sh_99, sh_100, sh_101, sh_102, sh_103, sh_104, sh_105, sh_106, sh_107, sh_108, sh_109, sh_110, sh_111, sh_112, sh_113, sh_114, sh_115, hl, hvw9, Nat.reduceLT, Nat.reduceAdd, Nat.reduceMul, ne_eq, Nat.reduceEqDiff, not_false_eq_true, or_true, true_or, or_false, false_or, and_true, true_and, and_self, Nat.reduceLeDiff, am_ci, am_cr, am_cn0, Option.toList_some, Option.toList_none, List.cons_append, List.nil_append, am_s0, am_s1, am_s1r, am_s2, am_s2r, am_s3r, nI_add, am_u_ne, am_u_at, am_u_n1, am_u_n2, am_w_ne, ↓reduceIte, c_isAsked hN T3', hask, b_t, not_false_eq_true, c_in, hisN, hi]
        refine l_sureR (τ := τ) (k := k) (ln := ln) (w0 := w) (i := i) hR hN hn S3 H1.rf (by omega) (tlR_wk tr g1) l1 hi1 cp.ok (fun p hp => by rw [g1 103 p (by unfold wkP clP; omega)]; exact (cp.2.1 p hp).1) (fun I2 g2 => ⟨by rw [hv], σ, H1.scr (sc2_scr (ic_sc2 g2))⟩) (7 ^ ln) 0 I1 none (by omega) am_ag.refl (show (-1 : Int32) ≠ -2 by decide) am_cn0
      by_cases hz : cnF (fun way => (goW σ τ k ln 0 w way).isSome) (7 ^ ln) = 0
      · have zz : (nI (cnF (fun way => (goW σ τ k ln 0 w way).isSome) (7 ^ ln)) = 0) = True := eq_true (by rw [hz]; rfl)
        simp only [am_lv_of, Option.toList_none, List.nil_append, rX12_sure_39, rX12_sure_40, rX12_sure_43, rX12_sure_46, rX12_sure_49, rX12_sure_51, rX12_sure_54, rX12_sure_55, rX12_sure_58, rX12_sure_61, rX12_sure_62, rX12_sure_63, ro_0_0 hR, ro_0_3 hR, ro_0_4 hR, ro_0_5 hR, ro_0_6 hR, ro_0_7 hR, ro_0_8 hR, ro_0_9 hR, ro_0_10 hR, ro_0_11 hR, ro_2_6 hR, ro_2_7 hR, ro_2_8 hR, ro_2_9 hR, ro_2_10 hR, ro_2_11 hR, ro_2_12 hR, ro_2_13 hR, ro_9_0 hR, ro_9_1 hR, ro_9_2 hR, ro_14_0 hR, ro_14_1 hR, ro_14_2 hR, ro_14_7 hR, ro_15_0 hR, ro_15_1 hR, ro_15_2 hR, ro_15_3 hR, ro_20_6 hR, ro_20_7 hR, ro_20_8 hR, ro_20_9 hR, ro_20_10 hR, ro_20_11 hR, ro_20_12 hR, ro_20_13 hR, ro_27_0 hR, ro_27_1 hR, ro_27_2 hR, ro_32_0 hR, ro_32_1 hR, ro_34_10 hR, ro_34_11 hR, ro_34_12 hR, ro_34_13 hR, ro_39_0 hR, ro_39_1 hR, ro_42_0 hR, ro_42_1 hR, ro_47_0 hR, ro_47_1 hR, ro_47_2 hR, ro_47_3 hR, ro_55_0 hR, ro_55_1 hR, ro_55_2 hR, ro_57_0 hR, ro_57_1 hR, ro_57_2 hR, ro_57_3 hR, ro_57_4 hR, ro_57_5 hR, ro_57_8 hR, sh_0, sh_1, sh_2, sh_3, sh_4, sh_5, sh_6, sh_7, sh_8, sh_9, sh_10, sh_11, sh_12, sh_13, sh_14, sh_15, sh_16, sh_17, sh_18, sh_19, sh_20, sh_21, sh_22, sh_23, sh_24, sh_25, sh_26, sh_27, sh_28, sh_29, sh_30, sh_31, sh_32, sh_33, sh_34, sh_35, sh_36, sh_37, sh_38, sh_39, sh_40, sh_41, sh_42, sh_43, sh_44, sh_45, sh_46, sh_47, sh_48, sh_49, sh_50, sh_51, sh_52, sh_53, sh_54, sh_55, sh_56, sh_57, sh_58, sh_59, sh_60, sh_61, sh_62, sh_63, sh_64, sh_65, sh_66, sh_67, sh_68, hl, hvw9, Nat.reduceLT, Nat.reduceAdd, Nat.reduceMul, ne_eq, Nat.reduceEqDiff, not_false_eq_true, or_true, true_or, or_false, false_or, and_true, true_and, and_self, Nat.reduceLeDiff, am_ci, am_cr, am_cn0, Option.toList_some, Option.toList_none, List.cons_append, List.nil_append, am_s0, am_s1, am_s1r, am_s2, am_s2r, am_s3r, nI_add, am_u_ne, am_u_at, am_u_n1, am_u_n2, am_w_ne, ↓reduceIte, c1.1, zz, not_true_eq_false]
        exact ref (by rw [if_pos hz])
      · have zz : ¬ nI (cnF (fun way => (goW σ τ k ln 0 w way).isSome) (7 ^ ln)) = 0 := nI_ne0 (by omega) (by omega)
        simp only [am_lv_of, Option.toList_none, List.nil_append, rX12_sure_39, rX12_sure_40, rX12_sure_43, rX12_sure_46, rX12_sure_49, rX12_sure_51, rX12_sure_54, rX12_sure_55, rX12_sure_58, rX12_sure_61, rX12_sure_62, rX12_sure_63, ro_0_0 hR, ro_0_3 hR, ro_0_4 hR, ro_0_5 hR, ro_0_6 hR, ro_0_7 hR, ro_0_8 hR, ro_0_9 hR, ro_0_10 hR, ro_0_11 hR, ro_2_6 hR, ro_2_7 hR, ro_2_8 hR, ro_2_9 hR, ro_2_10 hR, ro_2_11 hR, ro_2_12 hR, ro_2_13 hR, ro_9_0 hR, ro_9_1 hR, ro_9_2 hR, ro_14_0 hR, ro_14_1 hR, ro_14_2 hR, ro_14_7 hR, ro_15_0 hR, ro_15_1 hR, ro_15_2 hR, ro_15_3 hR, ro_20_6 hR, ro_20_7 hR, ro_20_8 hR, ro_20_9 hR, ro_20_10 hR, ro_20_11 hR, ro_20_12 hR, ro_20_13 hR, ro_27_0 hR, ro_27_1 hR, ro_27_2 hR, ro_32_0 hR, ro_32_1 hR, ro_34_10 hR, ro_34_11 hR, ro_34_12 hR, ro_34_13 hR, ro_39_0 hR, ro_39_1 hR, ro_42_0 hR, ro_42_1 hR, ro_47_0 hR, ro_47_1 hR, ro_47_2 hR, ro_47_3 hR, ro_55_0 hR, ro_55_1 hR, ro_55_2 hR, ro_57_0 hR, ro_57_1 hR, ro_57_2 hR, ro_57_3 hR, ro_57_4 hR, ro_57_5 hR, ro_57_8 hR, sh_0, sh_1, sh_2, sh_3, sh_4, sh_5, sh_6, sh_7, sh_8, sh_9, sh_10, sh_11, sh_12, sh_13, sh_14, sh_15, sh_16, sh_17, sh_18, sh_19, sh_20, sh_21, sh_22, sh_23, sh_24, sh_25, sh_26, sh_27, sh_28, sh_29, sh_30, sh_31, sh_32, sh_33, sh_34, sh_35, sh_36, sh_37, sh_38, sh_39, sh_40, sh_41, sh_42, sh_43, sh_44, sh_45, sh_46, sh_47, sh_48, sh_49, sh_50, sh_51, sh_52, sh_53, sh_54, sh_55, sh_56, sh_57, sh_58, sh_59, sh_60, sh_61, sh_62, sh_63, sh_64, sh_65, sh_66, sh_67, sh_68, hl, hvw9, Nat.reduceLT, Nat.reduceAdd, Nat.reduceMul, ne_eq, Nat.reduceEqDiff, not_false_eq_true, or_true, true_or, or_false, false_or, and_true, true_and, and_self, Nat.reduceLeDiff, am_ci, am_cr, am_cn0, Option.toList_some, Option.toList_none, List.cons_append, List.nil_append, am_s0, am_s1, am_s1r, am_s2, am_s2r, am_s3r, nI_add, am_u_ne, am_u_at, am_u_n1, am_u_n2, am_w_ne, ↓reduceIte, c1.1, zz, not_false_eq_true, i5, c1.2.1 i hi1]
        exact ref (by rw [if_neg hz])
    · have hi : isN ln c = false := by simpa using hi
      have e : am_E X (d + 30) mX13_sure 0 [some (.ref 69), some (.int (nI k)), some (.int (nI ln)), some (.int c), none, none, none] [] (n, I, L, R) (fun v' M2 => some (.int (-1)) = v' ∧ REL M2) := by
        simp only [am_lv_of, rX13_sure_0, rX13_sure_1, rX13_sure_2, rX13_sure_3, rX13_sure_6, rX13_sure_9, rX13_sure_10, rX13_sure_11, rX13_sure_12, rX13_sure_13, rX13_sure_14, rX13_sure_17, rX13_sure_20, rX13_sure_21, ro_69_1 hR, ro_69_3 hR, ro_69_5 hR, ro_69_6 hR, ro_69_7 hR, ro_69_8 hR, ro_69_9 hR, ro_69_21 hR, ro_69_22 hR, ro_69_23 hR, ro_69_24 hR, ro_69_25 hR, ro_69_26 hR, ro_69_27 hR, ro_69_28 hR, ro_69_29 hR, ro_69_30 hR, ro_69_31 hR, ro_69_32 hR, ro_69_33 hR, ro_69_34 hR, ro_69_35 hR, ro_69_36 hR, ro_69_38 hR, ro_69_39 hR, ro_69_40 hR, ro_69_41 hR, ro_69_42 hR, ro_69_44 hR, ro_69_45 hR, ro_69_46 hR, ro_69_48 hR, ro_69_49 hR, ro_69_51 hR, ro_69_52 hR, ro_69_55 hR, ro_69_56 hR, ro_69_57 hR, ro_69_58 hR, ro_69_59 hR, ro_69_61 hR, ro_69_62 hR, ro_69_63 hR, ro_69_64 hR, ro_69_65 hR, ro_69_66 hR, sh_69, sh_70, sh_71, sh_72, sh_73, sh_74, sh_75, sh_76, sh_77, sh_78, sh_79, sh_80, sh_81, sh_82, sh_83, sh_84, sh_85, sh_86, sh_87, sh_88, sh_89, sh_90, sh_91, sh_92, sh_93, sh_94, sh_95, sh_96, sh_97, sh_98, sh_99, sh_100, sh_101, sh_102, sh_103, sh_104, sh_105, sh_106, sh_107, sh_108, sh_109, sh_110, sh_111, sh_112, sh_113, sh_114, sh_115, hl, hvw9, Nat.reduceLT, Nat.reduceAdd, Nat.reduceMul, ne_eq, Nat.reduceEqDiff, not_false_eq_true, or_true, true_or, or_false, false_or, and_true, true_and, and_self, Nat.reduceLeDiff, am_ci, am_cr, am_cn0, Option.toList_some, Option.toList_none, List.cons_append, List.nil_append, am_s0, am_s1, am_s1r, am_s2, am_s2r, am_s3r, nI_add, am_u_ne, am_u_at, am_u_n1, am_u_n2, am_w_ne, ↓reduceIte, c_isAsked hN T3, hask, b_t, c_in, hisN, hi, b_f, not_true_eq_false]
        exact ⟨σ, H⟩
      by_cases z0 : c < 0
      · simp only [am_lv_of, rX12_sure_0, rX12_sure_1, rX12_sure_4, rX12_sure_5, rX12_sure_6, rX12_sure_9, rX12_sure_12, rX12_sure_13, rX12_sure_16, rX12_sure_17, rX12_sure_18, rX12_sure_21, rX12_sure_22, ro_0_0 hR, ro_0_3 hR, ro_0_4 hR, ro_0_5 hR, ro_0_6 hR, ro_0_7 hR, ro_0_8 hR, ro_0_9 hR, ro_0_10 hR, ro_0_11 hR, ro_2_6 hR, ro_2_7 hR, ro_2_8 hR, ro_2_9 hR, ro_2_10 hR, ro_2_11 hR, ro_2_12 hR, ro_2_13 hR, ro_9_0 hR, ro_9_1 hR, ro_9_2 hR, ro_14_0 hR, ro_14_1 hR, ro_14_2 hR, ro_14_7 hR, ro_15_0 hR, ro_15_1 hR, ro_15_2 hR, ro_15_3 hR, ro_20_6 hR, ro_20_7 hR, ro_20_8 hR, ro_20_9 hR, ro_20_10 hR, ro_20_11 hR, ro_20_12 hR, ro_20_13 hR, ro_27_0 hR, ro_27_1 hR, ro_27_2 hR, ro_32_0 hR, ro_32_1 hR, ro_34_10 hR, ro_34_11 hR, ro_34_12 hR, ro_34_13 hR, ro_39_0 hR, ro_39_1 hR, ro_42_0 hR, ro_42_1 hR, ro_47_0 hR, ro_47_1 hR, ro_47_2 hR, ro_47_3 hR, ro_55_0 hR, ro_55_1 hR, ro_55_2 hR, ro_57_0 hR, ro_57_1 hR, ro_57_2 hR, ro_57_3 hR, ro_57_4 hR, ro_57_5 hR, ro_57_8 hR, sh_0, sh_1, sh_2, sh_3, sh_4, sh_5, sh_6, sh_7, sh_8, sh_9, sh_10, sh_11, sh_12, sh_13, sh_14, sh_15, sh_16, sh_17, sh_18, sh_19, sh_20, sh_21, sh_22, sh_23, sh_24, sh_25, sh_26, sh_27, sh_28, sh_29, sh_30, sh_31, sh_32, sh_33, sh_34, sh_35, sh_36, sh_37, sh_38, sh_39, sh_40, sh_41, sh_42, sh_43, sh_44, sh_45, sh_46, sh_47, sh_48, sh_49, sh_50, sh_51, sh_52, sh_53, sh_54, sh_55, sh_56, sh_57, sh_58, sh_59, sh_60, sh_61, sh_62, sh_63, sh_64, sh_65, sh_66, sh_67, sh_68, hl, hvw9, Nat.reduceLT, Nat.reduceAdd, Nat.reduceMul, ne_eq, Nat.reduceEqDiff, not_false_eq_true, or_true, true_or, or_false, false_or, and_true, true_and, and_self, Nat.reduceLeDiff, am_ci, am_cr, am_cn0, Option.toList_some, Option.toList_none, List.cons_append, List.nil_append, am_s0, am_s1, am_s1r, am_s2, am_s2r, am_s3r, nI_add, am_u_ne, am_u_at, am_u_n1, am_u_n2, am_w_ne, ↓reduceIte, c_asksC hN T2, hask, b_t, z0]
        exact e
      · have z1 : ¬ c < nI ln := fun z => by
          unfold isN at hi
          simp [Int32.not_lt.mp z0, z] at hi
        simp only [am_lv_of, rX12_sure_0, rX12_sure_1, rX12_sure_4, rX12_sure_5, rX12_sure_6, rX12_sure_9, rX12_sure_12, rX12_sure_13, rX12_sure_16, rX12_sure_17, rX12_sure_18, rX12_sure_21, rX12_sure_22, ro_0_0 hR, ro_0_3 hR, ro_0_4 hR, ro_0_5 hR, ro_0_6 hR, ro_0_7 hR, ro_0_8 hR, ro_0_9 hR, ro_0_10 hR, ro_0_11 hR, ro_2_6 hR, ro_2_7 hR, ro_2_8 hR, ro_2_9 hR, ro_2_10 hR, ro_2_11 hR, ro_2_12 hR, ro_2_13 hR, ro_9_0 hR, ro_9_1 hR, ro_9_2 hR, ro_14_0 hR, ro_14_1 hR, ro_14_2 hR, ro_14_7 hR, ro_15_0 hR, ro_15_1 hR, ro_15_2 hR, ro_15_3 hR, ro_20_6 hR, ro_20_7 hR, ro_20_8 hR, ro_20_9 hR, ro_20_10 hR, ro_20_11 hR, ro_20_12 hR, ro_20_13 hR, ro_27_0 hR, ro_27_1 hR, ro_27_2 hR, ro_32_0 hR, ro_32_1 hR, ro_34_10 hR, ro_34_11 hR, ro_34_12 hR, ro_34_13 hR, ro_39_0 hR, ro_39_1 hR, ro_42_0 hR, ro_42_1 hR, ro_47_0 hR, ro_47_1 hR, ro_47_2 hR, ro_47_3 hR, ro_55_0 hR, ro_55_1 hR, ro_55_2 hR, ro_57_0 hR, ro_57_1 hR, ro_57_2 hR, ro_57_3 hR, ro_57_4 hR, ro_57_5 hR, ro_57_8 hR, sh_0, sh_1, sh_2, sh_3, sh_4, sh_5, sh_6, sh_7, sh_8, sh_9, sh_10, sh_11, sh_12, sh_13, sh_14, sh_15, sh_16, sh_17, sh_18, sh_19, sh_20, sh_21, sh_22, sh_23, sh_24, sh_25, sh_26, sh_27, sh_28, sh_29, sh_30, sh_31, sh_32, sh_33, sh_34, sh_35, sh_36, sh_37, sh_38, sh_39, sh_40, sh_41, sh_42, sh_43, sh_44, sh_45, sh_46, sh_47, sh_48, sh_49, sh_50, sh_51, sh_52, sh_53, sh_54, sh_55, sh_56, sh_57, sh_58, sh_59, sh_60, sh_61, sh_62, sh_63, sh_64, sh_65, sh_66, sh_67, sh_68, hl, hvw9, Nat.reduceLT, Nat.reduceAdd, Nat.reduceMul, ne_eq, Nat.reduceEqDiff, not_false_eq_true, or_true, true_or, or_false, false_or, and_true, true_and, and_self, Nat.reduceLeDiff, am_ci, am_cr, am_cn0, Option.toList_some, Option.toList_none, List.cons_append, List.nil_append, am_s0, am_s1, am_s1r, am_s2, am_s2r, am_s3r, nI_add, am_u_ne, am_u_at, am_u_n1, am_u_n2, am_w_ne, ↓reduceIte, c_asksC hN T2, hask, b_t, z0, z1]
        exact e
  · have hask : askB a b T = false := by simpa using hask
    simp only [am_lv_of, rX12_sure_0, rX12_sure_1, rX12_sure_4, rX12_sure_5, rX12_sure_6, rX12_sure_9, rX12_sure_21, rX12_sure_22, ro_0_0 hR, ro_0_3 hR, ro_0_4 hR, ro_0_5 hR, ro_0_6 hR, ro_0_7 hR, ro_0_8 hR, ro_0_9 hR, ro_0_10 hR, ro_0_11 hR, ro_2_6 hR, ro_2_7 hR, ro_2_8 hR, ro_2_9 hR, ro_2_10 hR, ro_2_11 hR, ro_2_12 hR, ro_2_13 hR, ro_9_0 hR, ro_9_1 hR, ro_9_2 hR, ro_14_0 hR, ro_14_1 hR, ro_14_2 hR, ro_14_7 hR, ro_15_0 hR, ro_15_1 hR, ro_15_2 hR, ro_15_3 hR, ro_20_6 hR, ro_20_7 hR, ro_20_8 hR, ro_20_9 hR, ro_20_10 hR, ro_20_11 hR, ro_20_12 hR, ro_20_13 hR, ro_27_0 hR, ro_27_1 hR, ro_27_2 hR, ro_32_0 hR, ro_32_1 hR, ro_34_10 hR, ro_34_11 hR, ro_34_12 hR, ro_34_13 hR, ro_39_0 hR, ro_39_1 hR, ro_42_0 hR, ro_42_1 hR, ro_47_0 hR, ro_47_1 hR, ro_47_2 hR, ro_47_3 hR, ro_55_0 hR, ro_55_1 hR, ro_55_2 hR, ro_57_0 hR, ro_57_1 hR, ro_57_2 hR, ro_57_3 hR, ro_57_4 hR, ro_57_5 hR, ro_57_8 hR, sh_0, sh_1, sh_2, sh_3, sh_4, sh_5, sh_6, sh_7, sh_8, sh_9, sh_10, sh_11, sh_12, sh_13, sh_14, sh_15, sh_16, sh_17, sh_18, sh_19, sh_20, sh_21, sh_22, sh_23, sh_24, sh_25, sh_26, sh_27, sh_28, sh_29, sh_30, sh_31, sh_32, sh_33, sh_34, sh_35, sh_36, sh_37, sh_38, sh_39, sh_40, sh_41, sh_42, sh_43, sh_44, sh_45, sh_46, sh_47, sh_48, sh_49, sh_50, sh_51, sh_52, sh_53, sh_54, sh_55, sh_56, sh_57, sh_58, sh_59, sh_60, sh_61, sh_62, sh_63, sh_64, sh_65, sh_66, sh_67, sh_68, hl, hvw9, Nat.reduceLT, Nat.reduceAdd, Nat.reduceMul, ne_eq, Nat.reduceEqDiff, not_false_eq_true, or_true, true_or, or_false, false_or, and_true, true_and, and_self, Nat.reduceLeDiff, am_ci, am_cr, am_cn0, Option.toList_some, Option.toList_none, List.cons_append, List.nil_append, am_s0, am_s1, am_s1r, am_s2, am_s2r, am_s3r, nI_add, am_u_ne, am_u_at, am_u_n1, am_u_n2, am_w_ne, ↓reduceIte, c_asksC hN T2, hask, b_f]
    simp only [am_lv_of, rX13_sure_0, rX13_sure_1, rX13_sure_2, rX13_sure_3, rX13_sure_6, rX13_sure_20, rX13_sure_21, ro_69_1 hR, ro_69_3 hR, ro_69_5 hR, ro_69_6 hR, ro_69_7 hR, ro_69_8 hR, ro_69_9 hR, ro_69_21 hR, ro_69_22 hR, ro_69_23 hR, ro_69_24 hR, ro_69_25 hR, ro_69_26 hR, ro_69_27 hR, ro_69_28 hR, ro_69_29 hR, ro_69_30 hR, ro_69_31 hR, ro_69_32 hR, ro_69_33 hR, ro_69_34 hR, ro_69_35 hR, ro_69_36 hR, ro_69_38 hR, ro_69_39 hR, ro_69_40 hR, ro_69_41 hR, ro_69_42 hR, ro_69_44 hR, ro_69_45 hR, ro_69_46 hR, ro_69_48 hR, ro_69_49 hR, ro_69_51 hR, ro_69_52 hR, ro_69_55 hR, ro_69_56 hR, ro_69_57 hR, ro_69_58 hR, ro_69_59 hR, ro_69_61 hR, ro_69_62 hR, ro_69_63 hR, ro_69_64 hR, ro_69_65 hR, ro_69_66 hR, sh_69, sh_70, sh_71, sh_72, sh_73, sh_74, sh_75, sh_76, sh_77, sh_78, sh_79, sh_80, sh_81, sh_82, sh_83, sh_84, sh_85, sh_86, sh_87, sh_88, sh_89, sh_90, sh_91, sh_92, sh_93, sh_94, sh_95, sh_96, sh_97, sh_98, sh_99, sh_100, sh_101, sh_102, sh_103, sh_104, sh_105, sh_106, sh_107, sh_108, sh_109, sh_110, sh_111, sh_112, sh_113, sh_114, sh_115, hl, hvw9, Nat.reduceLT, Nat.reduceAdd, Nat.reduceMul, ne_eq, Nat.reduceEqDiff, not_false_eq_true, or_true, true_or, or_false, false_or, and_true, true_and, and_self, Nat.reduceLeDiff, am_ci, am_cr, am_cn0, Option.toList_some, Option.toList_none, List.cons_append, List.nil_append, am_s0, am_s1, am_s1r, am_s2, am_s2r, am_s3r, nI_add, am_u_ne, am_u_at, am_u_n1, am_u_n2, am_w_ne, ↓reduceIte, c_isAsked hN T3, hask, b_f]
    exact ⟨σ, H⟩
end CC
