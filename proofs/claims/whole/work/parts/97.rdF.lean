--! 97
/-! TEXTS: the class reads a string -/
section RF
variable {X : am_X} {d n : Nat} {I : Nat → Nat → Int32} {L : Nat → Nat → Int64} {R : Nat → Nat → Option Nat} {Q : Option Value → am_M → Prop} {x : txt} {s : pst}
/-- from the number of how far on -/
theorem l_strC {t0 u : Nat} {lw : Bool} {f4 : Nat × Nat} {nm : nmT} {own : Option Nat} {v3 : Nat} {r0 : ER pst} {J : Nat → Nat → Int32} {K : Nat → Nat → Int64} (hR : am_OR R) (hN : 116 ≤ n) (hn : n ≤ 1000) (H : CS I L R x s) (h7 : (s_S s).length < 7) (ht : s_t s ≤ u)
    (hJ : am_ag rdP I J) (hK : agN L K) (T : rdT J K R x u) (F : sfC J f4) (hff : f4.1 = 0 → (s_f s).1 = 0 ∧ own.isNone = false) (N : nmC J K nm (s_P s).length) (hlen : nm.length = (s_P s).length + (s_S s).length + 1) (dr : ∀ k j, 20 ≤ k → k ≤ 31 → ¬ ((k = 22 ∨ k = 23) ∧ j = (s_S s).length) → J k j = I k j) (h22 : J 22 (s_S s).length = oI own) (h23 : J 23 (s_S s).length = nI v3)
    (he : (erB (chk x [21, 21, 59] u) fun t' => .inr ((t', nt x (nt x f4 (decide (9 < kV x u)) 5 u) (decide (3 < kV x (u + 1))) 5 (u + 1), nm, s_P s, s_S s ++ [(own.getD 0, v3, if lw = true then -(nI (kV x u)) else nI (kV x u), kV x (u + 1))], s_C s, s_m s, s_d s, s_l s) : pst)) = r0)
    (hE : ∀ e, r0 = .inl e → ∀ I' L', am_ag rdP I I' → agN L L' → flt I' x e → Q (some (.int (nI 0))) (n, I', L', R)) (hS : ∀ s', r0 = .inr s' → ∀ I' L', am_ag rdP I I' → agN L L' → CS I' L' R x s' → Q (some (.int (nI 1))) (n, I', L', R)) : am_E X (d + 8) mX9_stringTold 111 [some (.ref 14), some (.int (nI (s_S s).length)), some (.int (bI lw))] [] (n, J, K, R) Q := by
  have hl := am_lt hN
  have hvw9 := am_lw hN
  have z1 : ¬ nI 1 = 0 := by decide
  have z0' : (nI 0 = 0) = True := eq_true rfl
  obtain ⟨-, -, -, -, P5, S7, C7, d0, d1, d2, d3, d4, d5, dP, dS, dC, dB⟩ := id H
  simp only [chk] at he
  simp only [am_lv_of, rX9_stringTold_111, rX9_stringTold_112, rX9_stringTold_114, ro_0_0 hR, ro_0_3 hR, ro_0_4 hR, ro_0_5 hR, ro_0_6 hR, ro_0_7 hR, ro_0_8 hR, ro_0_9 hR, ro_0_10 hR, ro_0_11 hR, ro_2_6 hR, ro_2_7 hR, ro_2_8 hR, ro_2_9 hR, ro_2_10 hR, ro_2_11 hR, ro_2_12 hR, ro_2_13 hR, ro_9_0 hR, ro_9_1 hR, ro_9_2 hR, ro_14_0 hR, ro_14_1 hR, ro_14_2 hR, ro_14_7 hR, ro_15_0 hR, ro_15_1 hR, ro_15_2 hR, ro_15_3 hR, ro_20_6 hR, ro_20_7 hR, ro_20_8 hR, ro_20_9 hR, ro_20_10 hR, ro_20_11 hR, ro_20_12 hR, ro_20_13 hR, ro_27_0 hR, ro_27_1 hR, ro_27_2 hR, ro_32_0 hR, ro_32_1 hR, ro_34_10 hR, ro_34_11 hR, ro_34_12 hR, ro_34_13 hR, ro_39_0 hR, ro_39_1 hR, ro_42_0 hR, ro_42_1 hR, ro_47_0 hR, ro_47_1 hR, ro_47_2 hR, ro_47_3 hR, ro_55_0 hR, ro_55_1 hR, ro_55_2 hR, ro_57_0 hR, ro_57_1 hR, ro_57_2 hR, ro_57_3 hR, ro_57_4 hR, ro_57_5 hR, ro_57_8 hR, sh_0, sh_1, sh_2, sh_3, sh_4, sh_5, sh_6, sh_7, sh_8, sh_9, sh_10, sh_11, sh_12, sh_13, sh_14, sh_15, sh_16, sh_17, sh_18, sh_19, sh_20, sh_21, sh_22, sh_23, sh_24, sh_25, sh_26, sh_27, sh_28, sh_29, sh_30, sh_31, sh_32, sh_33, sh_34, sh_35, sh_36, sh_37, sh_38, sh_39, sh_40, sh_41, sh_42, sh_43, sh_44, sh_45, sh_46, sh_47, sh_48, sh_49, sh_50, sh_51, sh_52, sh_53, sh_54, sh_55, sh_56, sh_57, sh_58, sh_59, sh_60, sh_61, sh_62, sh_63, sh_64, sh_65, sh_66, sh_67, sh_68, hl, hvw9, Nat.reduceLT, Nat.reduceAdd, Nat.reduceMul, ne_eq, Nat.reduceEqDiff, not_false_eq_true, or_true, true_or, or_false, false_or, and_true, true_and, and_self, Nat.reduceLeDiff, am_ci, am_cr, am_cn0, Option.toList_some, Option.toList_none, List.cons_append, List.nil_append, am_s0, am_s1, am_s1r, am_s2, am_s2r, am_s3r, nI_add, am_u_ne, am_u_at, am_u_n1, am_u_n2, am_w_ne]
  refine c_takeIntC (d := d) (most := 9) hR hN hn (by omega) T F (fun e hh I1 g1 f1 => ?_) (fun t1 hh I1 L1 g1 l1 T1 F1 v1 => ?_)
  · rw [hh] at he
    simp only [am_lv_of, Option.toList_some, List.cons_append, List.nil_append, rX9_stringTold_117, z0', not_true_eq_false, ↓reduceIte, rX9_stringTold_120, rX9_stringTold_121_0]
    exact hE e he.symm I1 K (hJ.trans (inF_P g1)) hK f1
  · obtain ⟨q1, q2, rfl⟩ := tkE_inr hh
    rw [hh, erB_inr] at he
    -- how far is written
    have at147 : ∀ far, far = (if lw = true then -(nI (kV x u)) else nI (kV x u)) → am_E X (d + 8) mX9_stringTold 147 [some (.ref 14), some (.int (nI (s_S s).length)), some (.int (bI lw))] [] (n, am_u I1 24 (s_S s).length far, L1, R) Q := by
      intro far hfar
      have G1 : am_ag rdP I (am_u I1 24 (s_S s).length far) := (hJ.trans (inF_P g1)).u (by unfold rdP; omega)
      have T1' : rdT (am_u I1 24 (s_S s).length far) L1 R x (u + 1) := T1.fr (fun k j hk => am_u_n1 (by omega))
      have F1' := F1.ag (J := am_u I1 24 (s_S s).length far) (fun j hj => am_u_n1 (by omega))
      simp only [am_lv_of, rX9_stringTold_147, rX9_stringTold_148, rX9_stringTold_149, ro_0_0 hR, ro_0_3 hR, ro_0_4 hR, ro_0_5 hR, ro_0_6 hR, ro_0_7 hR, ro_0_8 hR, ro_0_9 hR, ro_0_10 hR, ro_0_11 hR, ro_2_6 hR, ro_2_7 hR, ro_2_8 hR, ro_2_9 hR, ro_2_10 hR, ro_2_11 hR, ro_2_12 hR, ro_2_13 hR, ro_9_0 hR, ro_9_1 hR, ro_9_2 hR, ro_14_0 hR, ro_14_1 hR, ro_14_2 hR, ro_14_7 hR, ro_15_0 hR, ro_15_1 hR, ro_15_2 hR, ro_15_3 hR, ro_20_6 hR, ro_20_7 hR, ro_20_8 hR, ro_20_9 hR, ro_20_10 hR, ro_20_11 hR, ro_20_12 hR, ro_20_13 hR, ro_27_0 hR, ro_27_1 hR, ro_27_2 hR, ro_32_0 hR, ro_32_1 hR, ro_34_10 hR, ro_34_11 hR, ro_34_12 hR, ro_34_13 hR, ro_39_0 hR, ro_39_1 hR, ro_42_0 hR, ro_42_1 hR, ro_47_0 hR, ro_47_1 hR, ro_47_2 hR, ro_47_3 hR, ro_55_0 hR, ro_55_1 hR, ro_55_2 hR, ro_57_0 hR, ro_57_1 hR, ro_57_2 hR, ro_57_3 hR, ro_57_4 hR, ro_57_5 hR, ro_57_8 hR, sh_0, sh_1, sh_2, sh_3, sh_4, sh_5, sh_6, sh_7, sh_8, sh_9, sh_10, sh_11, sh_12, sh_13, sh_14, sh_15, sh_16, sh_17, sh_18, sh_19, sh_20, sh_21, sh_22, sh_23, sh_24, sh_25, sh_26, sh_27, sh_28, sh_29, sh_30, sh_31, sh_32, sh_33, sh_34, sh_35, sh_36, sh_37, sh_38, sh_39, sh_40, sh_41, sh_42, sh_43, sh_44, sh_45, sh_46, sh_47, sh_48, sh_49, sh_50, sh_51, sh_52, sh_53, sh_54, sh_55, sh_56, sh_57, sh_58, sh_59, sh_60, sh_61, sh_62, sh_63, sh_64, sh_65, sh_66, sh_67, sh_68, hl, hvw9, Nat.reduceLT, Nat.reduceAdd, Nat.reduceMul, ne_eq, Nat.reduceEqDiff, not_false_eq_true, or_true, true_or, or_false, false_or, and_true, true_and, and_self, Nat.reduceLeDiff, am_ci, am_cr, am_cn0, Option.toList_some, Option.toList_none, List.cons_append, List.nil_append, am_s0, am_s1, am_s1r, am_s2, am_s2r, am_s3r, nI_add, am_u_ne, am_u_at, am_u_n1, am_u_n2, am_w_ne]
      refine c_takeIntC (d := d) (most := 3) hR hN hn (by omega) T1' F1' (fun e hh I2 g2 f2 => ?_) (fun t2 hh I2 L2 g2 l2 T2 F2 v2 => ?_)
      · rw [hh] at he
        simp only [am_lv_of, Option.toList_some, List.cons_append, List.nil_append, rX9_stringTold_152, z0', not_true_eq_false, ↓reduceIte, rX9_stringTold_155, rX9_stringTold_156_0]
        exact hE e he.symm I2 L1 (G1.trans (inF_P g2)) (hK.trans l1.N) f2
      · obtain ⟨q3, q4, rfl⟩ := tkE_inr hh
        rw [hh, erB_inr] at he
        have e1 : I2 20 1 = nI (s_S s).length := by rw [g2 20 1 (by unfold inF; omega), am_u_n1 (by omega), g1 20 1 (by unfold inF; omega), dr 20 1 (by omega) (by omega) (by omega)]; exact d1
        simp only [am_lv_of, Option.toList_some, List.cons_append, List.nil_append, rX9_stringTold_152, z1, not_false_eq_true, ↓reduceIte, rX9_stringTold_157, rX9_stringTold_158, rX9_stringTold_161, rX9_stringTold_164, rX9_stringTold_165, rX9_stringTold_166, rX9_stringTold_169, rX9_stringTold_170, rX9_stringTold_171, rX9_stringTold_174, rX9_stringTold_175, rX9_stringTold_178, rX9_stringTold_179, rX9_stringTold_180, rX9_stringTold_183, rX9_stringTold_184, rX9_stringTold_186, ro_0_0 hR, ro_0_3 hR, ro_0_4 hR, ro_0_5 hR, ro_0_6 hR, ro_0_7 hR, ro_0_8 hR, ro_0_9 hR, ro_0_10 hR, ro_0_11 hR, ro_2_6 hR, ro_2_7 hR, ro_2_8 hR, ro_2_9 hR, ro_2_10 hR, ro_2_11 hR, ro_2_12 hR, ro_2_13 hR, ro_9_0 hR, ro_9_1 hR, ro_9_2 hR, ro_14_0 hR, ro_14_1 hR, ro_14_2 hR, ro_14_7 hR, ro_15_0 hR, ro_15_1 hR, ro_15_2 hR, ro_15_3 hR, ro_20_6 hR, ro_20_7 hR, ro_20_8 hR, ro_20_9 hR, ro_20_10 hR, ro_20_11 hR, ro_20_12 hR, ro_20_13 hR, ro_27_0 hR, ro_27_1 hR, ro_27_2 hR, ro_32_0 hR, ro_32_1 hR, ro_34_10 hR, ro_34_11 hR, ro_34_12 hR, ro_34_13 hR, ro_39_0 hR, ro_39_1 hR, ro_42_0 hR, ro_42_1 hR, ro_47_0 hR, ro_47_1 hR, ro_47_2 hR, ro_47_3 hR, ro_55_0 hR, ro_55_1 hR, ro_55_2 hR, ro_57_0 hR, ro_57_1 hR, ro_57_2 hR, ro_57_3 hR, ro_57_4 hR, ro_57_5 hR, ro_57_8 hR, sh_0, sh_1, sh_2, sh_3, sh_4, sh_5, sh_6, sh_7, sh_8, sh_9, sh_10, sh_11, sh_12, sh_13, sh_14, sh_15, sh_16, sh_17, sh_18, sh_19, sh_20, sh_21, sh_22, sh_23, sh_24, sh_25, sh_26, sh_27, sh_28, sh_29, sh_30, sh_31, sh_32, sh_33, sh_34, sh_35, sh_36, sh_37, sh_38, sh_39, sh_40, sh_41, sh_42, sh_43, sh_44, sh_45, sh_46, sh_47, sh_48, sh_49, sh_50, sh_51, sh_52, sh_53, sh_54, sh_55, sh_56, sh_57, sh_58, sh_59, sh_60, sh_61, sh_62, sh_63, sh_64, sh_65, sh_66, sh_67, sh_68, hl, hvw9, Nat.reduceLT, Nat.reduceAdd, Nat.reduceMul, ne_eq, Nat.reduceEqDiff, not_false_eq_true, or_true, true_or, or_false, false_or, and_true, true_and, and_self, Nat.reduceLeDiff, am_ci, am_cr, am_cn0, Option.toList_some, Option.toList_none, List.cons_append, List.nil_append, am_s0, am_s1, am_s1r, am_s2, am_s2r, am_s3r, nI_add, am_u_ne, am_u_at, am_u_n1, am_u_n2, am_w_ne, hn, v2, e1, h7]
        have G2 : am_ag rdP I (am_u (am_u I2 25 (s_S s).length (nI (kV x (u + 1)))) 20 1 (nI ((s_S s).length + 1))) := ((G1.trans (inF_P g2)).u (by unfold rdP; omega)).u (by unfold rdP; omega)
        have T2' : rdT (am_u (am_u I2 25 (s_S s).length (nI (kV x (u + 1)))) 20 1 (nI ((s_S s).length + 1))) L2 R x (u + 1 + 1) := T2.fr (fun k j hk => by rw [am_u_n1 (by omega), am_u_n1 (by omega)])
        refine c_takeC (d := d) (c := 59) hR hN hn (by omega) T2' (fun e hh I3 g3 f3 => ?_) (fun t3 hh I3 L3 g3 l3 T3 => ?_)
        · rw [hh] at he
          simp only [am_lv_of, Option.toList_some, List.cons_append, List.nil_append, rX9_stringTold_189_0]
          exact hE e he.symm I3 L2 (G2.trans (fl_P g3)) ((hK.trans l1.N).trans l2.N) f3
        · obtain ⟨q5, q6, rfl⟩ := tkE_inr hh
          rw [hh, erB_inr, erB_inr] at he
          simp only [am_lv_of, Option.toList_some, List.cons_append, List.nil_append, rX9_stringTold_189_1]
          have dr3 : ∀ k j, 20 ≤ k → k ≤ 31 → ¬ (k = 20 ∧ j = 1) → ¬ ((22 ≤ k ∧ k ≤ 25) ∧ j = (s_S s).length) → I3 k j = I k j := fun k j h1 h2 h3 h4 => by
            rw [g3 k j (by omega)]
            have a1 : am_u (am_u I2 25 (s_S s).length (nI (kV x (u + 1)))) 20 1 (nI ((s_S s).length + 1)) k j = I2 k j := by
              unfold am_u
              by_cases a : k = 20
              · have : ¬ j = 1 := fun z => h3 ⟨a, z⟩
                subst a; simp [this]
              · by_cases b : k = 25
                · have : ¬ j = (s_S s).length := fun z => h4 ⟨by omega, z⟩
                  subst b; simp [this]
                · simp [a, b]
            rw [a1, g2 k j (by unfold inF; omega)]
            have a2 : am_u I1 24 (s_S s).length far k j = I1 k j := by
              unfold am_u
              by_cases b : k = 24
              · have : ¬ j = (s_S s).length := fun z => h4 ⟨by omega, z⟩
                subst b; simp [this]
              · simp [b]
            rw [a2, g1 k j (by unfold inF; omega), dr k j h1 h2 (by omega)]
          have len : (s_S s ++ [(own.getD 0, v3, if lw = true then -(nI (kV x u)) else nI (kV x u), kV x (u + 1))]).length = (s_S s).length + 1 := by rw [List.length_append]; rfl
          refine hS _ he.symm I3 L3 (G2.trans (st_P g3)) (((hK.trans l1.N).trans l2.N).trans l3.N) ⟨T3, F2.ag (fun j hj => by rw [g3 14 j (by omega), am_u_n1 (by omega), am_u_n1 (by omega)]), ?_, ?_, P5, by show (s_S s ++ _).length ≤ 7; rw [len]; omega, C7, ?_, ?_, ?_, ?_, ?_, ?_, fun i q hq => ?_, fun i q hq => ?_, fun i c hc => ?_, ?_⟩
          · refine N.ag (fun k j hk => ?_) (fun j => by rw [l3 18 j (by omega), l2 18 j (by omega), l1 18 j (by omega)]) (Nat.le_refl _)
            rw [g3 k j (by omega), am_u_n1 (by omega), am_u_n1 (by omega), g2 k j (by unfold inF; omega), am_u_n1 (by omega), g1 k j (by unfold inF; omega)]
          · show nm.length = (s_P s).length + (s_S s ++ _).length
            rw [len]; omega
          · rw [dr3 20 0 (by omega) (by omega) (by omega) (by omega)]; exact d0
          · show I3 20 1 = nI (s_S s ++ _).length
            rw [len, g3 20 1 (by omega), am_u_at]
          · rw [dr3 20 2 (by omega) (by omega) (by omega) (by omega)]; exact d2
          · rw [dr3 20 3 (by omega) (by omega) (by omega) (by omega)]; exact d3
          · rw [dr3 20 4 (by omega) (by omega) (by omega) (by omega)]; exact d4
          · rw [dr3 20 5 (by omega) (by omega) (by omega) (by omega)]; exact d5
          · rw [dr3 21 i (by omega) (by omega) (by omega) (by omega)]; exact dP i q hq
          · rcases getE_s hq with ⟨h1, h2⟩ | ⟨h1, h2⟩
            · obtain ⟨b1, b2, b3, b4⟩ := dS i q h2
              refine ⟨fun hf => ?_, ?_, ?_, ?_⟩
              · rw [dr3 22 i (by omega) (by omega) (by omega) (by omega)]
                exact b1 (hff (nt_0 (by omega) (nt_0 (by omega) hf).1).1).1
              · rw [dr3 23 i (by omega) (by omega) (by omega) (by omega)]; exact b2
              · rw [dr3 24 i (by omega) (by omega) (by omega) (by omega)]; exact b3
              · rw [dr3 25 i (by omega) (by omega) (by omega) (by omega)]; exact b4
            · subst h1
              subst h2
              refine ⟨fun hf => ?_, ?_, ?_, ?_⟩
              · rw [g3 22 _ (by omega), am_u_n1 (by omega), am_u_n1 (by omega), g2 22 _ (by unfold inF; omega), am_u_n1 (by omega), g1 22 _ (by unfold inF; omega), h22]
                have ho := (hff (nt_0 (by omega) (nt_0 (by omega) hf).1).1).2
                cases own with
                | none => cases ho
                | some p => rfl
              · rw [g3 23 _ (by omega), am_u_n1 (by omega), am_u_n1 (by omega), g2 23 _ (by unfold inF; omega), am_u_n1 (by omega), g1 23 _ (by unfold inF; omega)]; exact h23
              · rw [g3 24 _ (by omega), am_u_n1 (by omega), am_u_n1 (by omega), g2 24 _ (by unfold inF; omega), am_u_at]; exact hfar
              · rw [g3 25 _ (by omega), am_u_n1 (by omega), am_u_at]
          · rw [dr3 26 i (by omega) (by omega) (by omega) (by omega)]; exact dC i c hc
          · exact dB.ag (show s_t s ≤ u + 1 + 1 + 1 by omega) (fun k j h1 h2 => dr3 k j (by omega) (by omega) (by omega) (by omega))
    cases lw with
    | true =>
      have zt : ¬ bI true = 0 := by decide
      simp only [am_lv_of, Option.toList_some, List.cons_append, List.nil_append, rX9_stringTold_117, z1, not_false_eq_true, ↓reduceIte, rX9_stringTold_122, rX9_stringTold_123, rX9_stringTold_126, rX9_stringTold_129, rX9_stringTold_130, rX9_stringTold_131, rX9_stringTold_134, rX9_stringTold_135, rX9_stringTold_138, rX9_stringTold_139, rX9_stringTold_146, ro_0_0 hR, ro_0_3 hR, ro_0_4 hR, ro_0_5 hR, ro_0_6 hR, ro_0_7 hR, ro_0_8 hR, ro_0_9 hR, ro_0_10 hR, ro_0_11 hR, ro_2_6 hR, ro_2_7 hR, ro_2_8 hR, ro_2_9 hR, ro_2_10 hR, ro_2_11 hR, ro_2_12 hR, ro_2_13 hR, ro_9_0 hR, ro_9_1 hR, ro_9_2 hR, ro_14_0 hR, ro_14_1 hR, ro_14_2 hR, ro_14_7 hR, ro_15_0 hR, ro_15_1 hR, ro_15_2 hR, ro_15_3 hR, ro_20_6 hR, ro_20_7 hR, ro_20_8 hR, ro_20_9 hR, ro_20_10 hR, ro_20_11 hR, ro_20_12 hR, ro_20_13 hR, ro_27_0 hR, ro_27_1 hR, ro_27_2 hR, ro_32_0 hR, ro_32_1 hR, ro_34_10 hR, ro_34_11 hR, ro_34_12 hR, ro_34_13 hR, ro_39_0 hR, ro_39_1 hR, ro_42_0 hR, ro_42_1 hR, ro_47_0 hR, ro_47_1 hR, ro_47_2 hR, ro_47_3 hR, ro_55_0 hR, ro_55_1 hR, ro_55_2 hR, ro_57_0 hR, ro_57_1 hR, ro_57_2 hR, ro_57_3 hR, ro_57_4 hR, ro_57_5 hR, ro_57_8 hR, sh_0, sh_1, sh_2, sh_3, sh_4, sh_5, sh_6, sh_7, sh_8, sh_9, sh_10, sh_11, sh_12, sh_13, sh_14, sh_15, sh_16, sh_17, sh_18, sh_19, sh_20, sh_21, sh_22, sh_23, sh_24, sh_25, sh_26, sh_27, sh_28, sh_29, sh_30, sh_31, sh_32, sh_33, sh_34, sh_35, sh_36, sh_37, sh_38, sh_39, sh_40, sh_41, sh_42, sh_43, sh_44, sh_45, sh_46, sh_47, sh_48, sh_49, sh_50, sh_51, sh_52, sh_53, sh_54, sh_55, sh_56, sh_57, sh_58, sh_59, sh_60, sh_61, sh_62, sh_63, sh_64, sh_65, sh_66, sh_67, sh_68, hl, hvw9, Nat.reduceLT, Nat.reduceAdd, Nat.reduceMul, ne_eq, Nat.reduceEqDiff, not_false_eq_true, or_true, true_or, or_false, false_or, and_true, true_and, and_self, Nat.reduceLeDiff, am_ci, am_cr, am_cn0, Option.toList_some, Option.toList_none, List.cons_append, List.nil_append, am_s0, am_s1, am_s1r, am_s2, am_s2r, am_s3r, nI_add, am_u_ne, am_u_at, am_u_n1, am_u_n2, am_w_ne, hn, zt, v1, h7]
      exact at147 _ (by rw [if_pos rfl])
    | false =>
      have zt : (bI false = 0) = True := eq_true (by decide)
      simp only [am_lv_of, Option.toList_some, List.cons_append, List.nil_append, rX9_stringTold_117, z1, not_false_eq_true, ↓reduceIte, rX9_stringTold_122, rX9_stringTold_123, rX9_stringTold_126, rX9_stringTold_129, rX9_stringTold_130, rX9_stringTold_131, rX9_stringTold_142, rX9_stringTold_143, rX9_stringTold_146, ro_0_0 hR, ro_0_3 hR, ro_0_4 hR, ro_0_5 hR, ro_0_6 hR, ro_0_7 hR, ro_0_8 hR, ro_0_9 hR, ro_0_10 hR, ro_0_11 hR, ro_2_6 hR, ro_2_7 hR, ro_2_8 hR, ro_2_9 hR, ro_2_10 hR, ro_2_11 hR, ro_2_12 hR, ro_2_13 hR, ro_9_0 hR, ro_9_1 hR, ro_9_2 hR, ro_14_0 hR, ro_14_1 hR, ro_14_2 hR, ro_14_7 hR, ro_15_0 hR, ro_15_1 hR, ro_15_2 hR, ro_15_3 hR, ro_20_6 hR, ro_20_7 hR, ro_20_8 hR, ro_20_9 hR, ro_20_10 hR, ro_20_11 hR, ro_20_12 hR, ro_20_13 hR, ro_27_0 hR, ro_27_1 hR, ro_27_2 hR, ro_32_0 hR, ro_32_1 hR, ro_34_10 hR, ro_34_11 hR, ro_34_12 hR, ro_34_13 hR, ro_39_0 hR, ro_39_1 hR, ro_42_0 hR, ro_42_1 hR, ro_47_0 hR, ro_47_1 hR, ro_47_2 hR, ro_47_3 hR, ro_55_0 hR, ro_55_1 hR, ro_55_2 hR, ro_57_0 hR, ro_57_1 hR, ro_57_2 hR, ro_57_3 hR, ro_57_4 hR, ro_57_5 hR, ro_57_8 hR, sh_0, sh_1, sh_2, sh_3, sh_4, sh_5, sh_6, sh_7, sh_8, sh_9, sh_10, sh_11, sh_12, sh_13, sh_14, sh_15, sh_16, sh_17, sh_18, sh_19, sh_20, sh_21, sh_22, sh_23, sh_24, sh_25, sh_26, sh_27, sh_28, sh_29, sh_30, sh_31, sh_32, sh_33, sh_34, sh_35, sh_36, sh_37, sh_38, sh_39, sh_40, sh_41, sh_42, sh_43, sh_44, sh_45, sh_46, sh_47, sh_48, sh_49, sh_50, sh_51, sh_52, sh_53, sh_54, sh_55, sh_56, sh_57, sh_58, sh_59, sh_60, sh_61, sh_62, sh_63, sh_64, sh_65, sh_66, sh_67, sh_68, hl, hvw9, Nat.reduceLT, Nat.reduceAdd, Nat.reduceMul, ne_eq, Nat.reduceEqDiff, not_false_eq_true, or_true, true_or, or_false, false_or, and_true, true_and, and_self, Nat.reduceLeDiff, am_ci, am_cr, am_cn0, Option.toList_some, Option.toList_none, List.cons_append, List.nil_append, am_s0, am_s1, am_s1r, am_s2, am_s2r, am_s3r, nI_add, am_u_ne, am_u_at, am_u_n1, am_u_n2, am_w_ne, hn, zt, v1, h7]
      exact at147 _ (by rw [if_neg (by decide)])
theorem c_stringTold (hR : am_OR R) (hN : 116 ≤ n) (hn : n ≤ 1000) (H : CS I L R x s) (hk : kK x (s_t s) = 1) (hE : ∀ e, stringP x s = .inl e → ∀ I' L', am_ag rdP I I' → agN L L' → flt I' x e → Q (some (.int (nI 0))) (n, I', L', R)) (hS : ∀ s', stringP x s = .inr s' → ∀ I' L', am_ag rdP I I' → agN L L' → CS I' L' R x s' → Q (some (.int (nI 1))) (n, I', L', R)) : am_E X (d + 8) mX9_stringTold 0 [some (.ref 14), none, none] [] (n, I, L, R) Q := by
  have hl := am_lt hN
  have hvw9 := am_lw hN
  have z1 : ¬ nI 1 = 0 := by decide
  have z0' : (nI 0 = 0) = True := eq_true rfl
  obtain ⟨T, F, H3, H4, P5, S7, C7, d0, d1, d2, d3, d4, d5, dP, dS, dC, dB⟩ := id H
  by_cases h7 : 7 ≤ (s_S s).length
  · have c1 : ¬ nI (s_S s).length < nI 7 := nI_nlt h7 (by omega)
    unfold stringP at hE
    rw [if_pos h7] at hE
    simp only [am_lv_of, rX9_stringTold_0, rX9_stringTold_1, rX9_stringTold_4, rX9_stringTold_7, rX9_stringTold_8, rX9_stringTold_9, rX9_stringTold_11, rX9_stringTold_14, rX9_stringTold_15, rX9_stringTold_16, ro_0_0 hR, ro_0_3 hR, ro_0_4 hR, ro_0_5 hR, ro_0_6 hR, ro_0_7 hR, ro_0_8 hR, ro_0_9 hR, ro_0_10 hR, ro_0_11 hR, ro_2_6 hR, ro_2_7 hR, ro_2_8 hR, ro_2_9 hR, ro_2_10 hR, ro_2_11 hR, ro_2_12 hR, ro_2_13 hR, ro_9_0 hR, ro_9_1 hR, ro_9_2 hR, ro_14_0 hR, ro_14_1 hR, ro_14_2 hR, ro_14_7 hR, ro_15_0 hR, ro_15_1 hR, ro_15_2 hR, ro_15_3 hR, ro_20_6 hR, ro_20_7 hR, ro_20_8 hR, ro_20_9 hR, ro_20_10 hR, ro_20_11 hR, ro_20_12 hR, ro_20_13 hR, ro_27_0 hR, ro_27_1 hR, ro_27_2 hR, ro_32_0 hR, ro_32_1 hR, ro_34_10 hR, ro_34_11 hR, ro_34_12 hR, ro_34_13 hR, ro_39_0 hR, ro_39_1 hR, ro_42_0 hR, ro_42_1 hR, ro_47_0 hR, ro_47_1 hR, ro_47_2 hR, ro_47_3 hR, ro_55_0 hR, ro_55_1 hR, ro_55_2 hR, ro_57_0 hR, ro_57_1 hR, ro_57_2 hR, ro_57_3 hR, ro_57_4 hR, ro_57_5 hR, ro_57_8 hR, sh_0, sh_1, sh_2, sh_3, sh_4, sh_5, sh_6, sh_7, sh_8, sh_9, sh_10, sh_11, sh_12, sh_13, sh_14, sh_15, sh_16, sh_17, sh_18, sh_19, sh_20, sh_21, sh_22, sh_23, sh_24, sh_25, sh_26, sh_27, sh_28, sh_29, sh_30, sh_31, sh_32, sh_33, sh_34, sh_35, sh_36, sh_37, sh_38, sh_39, sh_40, sh_41, sh_42, sh_43, sh_44, sh_45, sh_46, sh_47, sh_48, sh_49, sh_50, sh_51, sh_52, sh_53, sh_54, sh_55, sh_56, sh_57, sh_58, sh_59, sh_60, sh_61, sh_62, sh_63, sh_64, sh_65, sh_66, sh_67, sh_68, hl, hvw9, Nat.reduceLT, Nat.reduceAdd, Nat.reduceMul, ne_eq, Nat.reduceEqDiff, not_false_eq_true, or_true, true_or, or_false, false_or, and_true, true_and, and_self, Nat.reduceLeDiff, am_ci, am_cr, am_cn0, Option.toList_some, Option.toList_none, List.cons_append, List.nil_append, am_s0, am_s1, am_s1r, am_s2, am_s2r, am_s3r, nI_add, am_u_ne, am_u_at, am_u_n1, am_u_n2, am_w_ne, ↓reduceIte, d1, c1, c_fail hR hN hn, Option.toList_some, rX9_stringTold_19_0]
    exact hE _ rfl _ L ((fail_G T).1.mono (fun k j z => by unfold exG exF at z; unfold rdP; omega)) agN.refl (fail_G T).2
  · have c1 : nI (s_S s).length < nI 7 := nI_lt (by omega) (by omega)
    have h7' : (s_S s).length < 7 := by omega
    have hk0 : tkE x 1 (s_t s) = stE (s_t s) := tkE_y hk
    have hp : stringP x s = erB (tkE x 1 (s_t s)) fun t1 => erB (tkE x 20 t1) fun t2 => erB (tkE x 20 t2) fun t3 => erB (tkE x 21 t3) fun t4 => if kK x t4 = 45 then erB (chk x [45, 21, 21, 59] t4) fun t' => .inr (strP x s (s_t s + 5) t' (-(nI (kV x (s_t s + 5))))) else erB (chk x [21, 21, 59] t4) fun t' => .inr (strP x s (s_t s + 4) t' (nI (kV x (s_t s + 4)))) := by
      unfold stringP
      rw [if_neg h7]
      simp only [chk]
      cases tkE x 1 (s_t s) with
      | inl e => rfl
      | inr t1 =>
        simp only [erB_inr]
        cases tkE x 20 t1 with
        | inl e => rfl
        | inr t2 =>
          simp only [erB_inr]
          cases tkE x 20 t2 with
          | inl e => rfl
          | inr t3 =>
            simp only [erB_inr]
            cases tkE x 21 t3 with
            | inl e => rfl
            | inr t4 => rfl
    rw [hp] at hE hS
    simp only [am_lv_of, rX9_stringTold_0, rX9_stringTold_1, rX9_stringTold_4, rX9_stringTold_7, rX9_stringTold_8, rX9_stringTold_9, rX9_stringTold_11, rX9_stringTold_20, rX9_stringTold_21, ro_0_0 hR, ro_0_3 hR, ro_0_4 hR, ro_0_5 hR, ro_0_6 hR, ro_0_7 hR, ro_0_8 hR, ro_0_9 hR, ro_0_10 hR, ro_0_11 hR, ro_2_6 hR, ro_2_7 hR, ro_2_8 hR, ro_2_9 hR, ro_2_10 hR, ro_2_11 hR, ro_2_12 hR, ro_2_13 hR, ro_9_0 hR, ro_9_1 hR, ro_9_2 hR, ro_14_0 hR, ro_14_1 hR, ro_14_2 hR, ro_14_7 hR, ro_15_0 hR, ro_15_1 hR, ro_15_2 hR, ro_15_3 hR, ro_20_6 hR, ro_20_7 hR, ro_20_8 hR, ro_20_9 hR, ro_20_10 hR, ro_20_11 hR, ro_20_12 hR, ro_20_13 hR, ro_27_0 hR, ro_27_1 hR, ro_27_2 hR, ro_32_0 hR, ro_32_1 hR, ro_34_10 hR, ro_34_11 hR, ro_34_12 hR, ro_34_13 hR, ro_39_0 hR, ro_39_1 hR, ro_42_0 hR, ro_42_1 hR, ro_47_0 hR, ro_47_1 hR, ro_47_2 hR, ro_47_3 hR, ro_55_0 hR, ro_55_1 hR, ro_55_2 hR, ro_57_0 hR, ro_57_1 hR, ro_57_2 hR, ro_57_3 hR, ro_57_4 hR, ro_57_5 hR, ro_57_8 hR, sh_0, sh_1, sh_2, sh_3, sh_4, sh_5, sh_6, sh_7, sh_8, sh_9, sh_10, sh_11, sh_12, sh_13, sh_14, sh_15, sh_16, sh_17, sh_18, sh_19, sh_20, sh_21, sh_22, sh_23, sh_24, sh_25, sh_26, sh_27, sh_28, sh_29, sh_30, sh_31, sh_32, sh_33, sh_34, sh_35, sh_36, sh_37, sh_38, sh_39, sh_40, sh_41, sh_42, sh_43, sh_44, sh_45, sh_46, sh_47, sh_48, sh_49, sh_50, sh_51, sh_52, sh_53, sh_54, sh_55, sh_56, sh_57, sh_58, sh_59, sh_60, sh_61, sh_62, sh_63, sh_64, sh_65, sh_66, sh_67, sh_68, hl, hvw9, Nat.reduceLT, Nat.reduceAdd, Nat.reduceMul, ne_eq, Nat.reduceEqDiff, not_false_eq_true, or_true, true_or, or_false, false_or, and_true, true_and, and_self, Nat.reduceLeDiff, am_ci, am_cr, am_cn0, Option.toList_some, Option.toList_none, List.cons_append, List.nil_append, am_s0, am_s1, am_s1r, am_s2, am_s2r, am_s3r, nI_add, am_u_ne, am_u_at, am_u_n1, am_u_n2, am_w_ne, ↓reduceIte, d1, c1]
    refine c_stepC (d := d + 1) hR hN hn T (fun e hh I1 g1 f1 => ?_) (fun t1 hh I1 L1 g1 l1 T1 => ?_)
    · rw [hk0, hh] at hE
      simp only [am_lv_of, Option.toList_some, List.cons_append, List.nil_append, rX9_stringTold_24, z0', ↓reduceIte, rX9_stringTold_42, rX9_stringTold_43_0]
      exact hE e rfl I1 L (fl_P g1) agN.refl f1
    · obtain ⟨ht, rfl⟩ := stE_inr hh
      rw [hk0, hh, erB_inr] at hE hS
      have F1 : sfC I1 (s_f s) := F.ag (fun j hj => g1 14 j (by omega))
      have N1 : nmC I1 L1 (s_n s) (s_P s).length := H3.ag (fun k j hk => g1 k j (by omega)) (fun j => l1 18 j (by omega)) (Nat.le_refl _)
      have eo : (-1 : Int32) = oI none := rfl
      simp only [am_lv_of, Option.toList_some, List.cons_append, List.nil_append, rX9_stringTold_24, z1, ↓reduceIte, rX9_stringTold_27, rX9_stringTold_28, rX9_stringTold_29, ro_0_0 hR, ro_0_3 hR, ro_0_4 hR, ro_0_5 hR, ro_0_6 hR, ro_0_7 hR, ro_0_8 hR, ro_0_9 hR, ro_0_10 hR, ro_0_11 hR, ro_2_6 hR, ro_2_7 hR, ro_2_8 hR, ro_2_9 hR, ro_2_10 hR, ro_2_11 hR, ro_2_12 hR, ro_2_13 hR, ro_9_0 hR, ro_9_1 hR, ro_9_2 hR, ro_14_0 hR, ro_14_1 hR, ro_14_2 hR, ro_14_7 hR, ro_15_0 hR, ro_15_1 hR, ro_15_2 hR, ro_15_3 hR, ro_20_6 hR, ro_20_7 hR, ro_20_8 hR, ro_20_9 hR, ro_20_10 hR, ro_20_11 hR, ro_20_12 hR, ro_20_13 hR, ro_27_0 hR, ro_27_1 hR, ro_27_2 hR, ro_32_0 hR, ro_32_1 hR, ro_34_10 hR, ro_34_11 hR, ro_34_12 hR, ro_34_13 hR, ro_39_0 hR, ro_39_1 hR, ro_42_0 hR, ro_42_1 hR, ro_47_0 hR, ro_47_1 hR, ro_47_2 hR, ro_47_3 hR, ro_55_0 hR, ro_55_1 hR, ro_55_2 hR, ro_57_0 hR, ro_57_1 hR, ro_57_2 hR, ro_57_3 hR, ro_57_4 hR, ro_57_5 hR, ro_57_8 hR, sh_0, sh_1, sh_2, sh_3, sh_4, sh_5, sh_6, sh_7, sh_8, sh_9, sh_10, sh_11, sh_12, sh_13, sh_14, sh_15, sh_16, sh_17, sh_18, sh_19, sh_20, sh_21, sh_22, sh_23, sh_24, sh_25, sh_26, sh_27, sh_28, sh_29, sh_30, sh_31, sh_32, sh_33, sh_34, sh_35, sh_36, sh_37, sh_38, sh_39, sh_40, sh_41, sh_42, sh_43, sh_44, sh_45, sh_46, sh_47, sh_48, sh_49, sh_50, sh_51, sh_52, sh_53, sh_54, sh_55, sh_56, sh_57, sh_58, sh_59, sh_60, sh_61, sh_62, sh_63, sh_64, sh_65, sh_66, sh_67, sh_68, hl, hvw9, Nat.reduceLT, Nat.reduceAdd, Nat.reduceMul, ne_eq, Nat.reduceEqDiff, not_false_eq_true, or_true, true_or, or_false, false_or, and_true, true_and, and_self, Nat.reduceLeDiff, am_ci, am_cr, am_cn0, Option.toList_some, Option.toList_none, List.cons_append, List.nil_append, am_s0, am_s1, am_s1r, am_s2, am_s2r, am_s3r, nI_add, am_u_ne, am_u_at, am_u_n1, am_u_n2, am_w_ne]
      rw [eo]
      refine c_takeNewC (d := d) (pp := none) hR hN hn T1 F1 N1 (by omega) (fun e hh I2 L2 g2 l2 f2 => ?_) (fun t2 hh I2 L2 g2 l2 T2 F2 N2 => ?_)
      · rw [hh] at hE
        simp only [am_lv_of, Option.toList_some, List.cons_append, List.nil_append, rX9_stringTold_32, z0', ↓reduceIte, rX9_stringTold_42, rX9_stringTold_43_0]
        exact hE e rfl I2 L2 ((st_P g1).trans (nwF_P g2)) (l1.N.trans l2) f2
      · obtain ⟨q1, q2, rfl⟩ := tkE_inr hh
        rw [hh, erB_inr] at hE hS
        have N2' := N2 (s_P s).length (Nat.le_refl _) (fun p hp => by cases hp)
        simp only [am_lv_of, Option.toList_some, List.cons_append, List.nil_append, rX9_stringTold_32, z1, ↓reduceIte, rX9_stringTold_35, rX9_stringTold_36, ro_0_0 hR, ro_0_3 hR, ro_0_4 hR, ro_0_5 hR, ro_0_6 hR, ro_0_7 hR, ro_0_8 hR, ro_0_9 hR, ro_0_10 hR, ro_0_11 hR, ro_2_6 hR, ro_2_7 hR, ro_2_8 hR, ro_2_9 hR, ro_2_10 hR, ro_2_11 hR, ro_2_12 hR, ro_2_13 hR, ro_9_0 hR, ro_9_1 hR, ro_9_2 hR, ro_14_0 hR, ro_14_1 hR, ro_14_2 hR, ro_14_7 hR, ro_15_0 hR, ro_15_1 hR, ro_15_2 hR, ro_15_3 hR, ro_20_6 hR, ro_20_7 hR, ro_20_8 hR, ro_20_9 hR, ro_20_10 hR, ro_20_11 hR, ro_20_12 hR, ro_20_13 hR, ro_27_0 hR, ro_27_1 hR, ro_27_2 hR, ro_32_0 hR, ro_32_1 hR, ro_34_10 hR, ro_34_11 hR, ro_34_12 hR, ro_34_13 hR, ro_39_0 hR, ro_39_1 hR, ro_42_0 hR, ro_42_1 hR, ro_47_0 hR, ro_47_1 hR, ro_47_2 hR, ro_47_3 hR, ro_55_0 hR, ro_55_1 hR, ro_55_2 hR, ro_57_0 hR, ro_57_1 hR, ro_57_2 hR, ro_57_3 hR, ro_57_4 hR, ro_57_5 hR, ro_57_8 hR, sh_0, sh_1, sh_2, sh_3, sh_4, sh_5, sh_6, sh_7, sh_8, sh_9, sh_10, sh_11, sh_12, sh_13, sh_14, sh_15, sh_16, sh_17, sh_18, sh_19, sh_20, sh_21, sh_22, sh_23, sh_24, sh_25, sh_26, sh_27, sh_28, sh_29, sh_30, sh_31, sh_32, sh_33, sh_34, sh_35, sh_36, sh_37, sh_38, sh_39, sh_40, sh_41, sh_42, sh_43, sh_44, sh_45, sh_46, sh_47, sh_48, sh_49, sh_50, sh_51, sh_52, sh_53, sh_54, sh_55, sh_56, sh_57, sh_58, sh_59, sh_60, sh_61, sh_62, sh_63, sh_64, sh_65, sh_66, sh_67, sh_68, hl, hvw9, Nat.reduceLT, Nat.reduceAdd, Nat.reduceMul, ne_eq, Nat.reduceEqDiff, not_false_eq_true, or_true, true_or, or_false, false_or, and_true, true_and, and_self, Nat.reduceLeDiff, am_ci, am_cr, am_cn0, Option.toList_some, Option.toList_none, List.cons_append, List.nil_append, am_s0, am_s1, am_s1r, am_s2, am_s2r, am_s3r, nI_add, am_u_ne, am_u_at, am_u_n1, am_u_n2, am_w_ne]
        refine c_takePupC (d := d) hR hN hn T2 F2 N2' P5 (fun e hh I3 g3 f3 => ?_) (fun t3 hh I3 L3 g3 l3 T3 F3 v3 => ?_)
        · rw [hh] at hE
          simp only [am_lv_of, Option.toList_some, List.cons_append, List.nil_append, rX9_stringTold_39, z0', not_true_eq_false, ↓reduceIte, rX9_stringTold_42, rX9_stringTold_43_0]
          exact hE e rfl I3 L2 (((st_P g1).trans (nwF_P g2)).trans (inF_P g3)) (l1.N.trans l2) f3
        · obtain ⟨q3, q4, rfl⟩ := tkE_inr hh
          rw [hh, erB_inr] at hE hS
          rw [lkN_s] at F3 v3
          have G3 : am_ag rdP I I3 := ((st_P g1).trans (nwF_P g2)).trans (inF_P g3)
          have dr3 : ∀ k j, 20 ≤ k → k ≤ 31 → I3 k j = I k j := fun k j h1 h2 => by rw [g3 k j (by unfold inF; omega), g2 k j (by unfold nwF inF; omega), g1 k j (by omega)]
          simp only [am_lv_of, Option.toList_some, List.cons_append, List.nil_append, rX9_stringTold_39, z1, not_false_eq_true, ↓reduceIte, rX9_stringTold_44, rX9_stringTold_45, rX9_stringTold_48, rX9_stringTold_51, rX9_stringTold_52, rX9_stringTold_53, rX9_stringTold_56, rX9_stringTold_57, rX9_stringTold_58, rX9_stringTold_59, ro_0_0 hR, ro_0_3 hR, ro_0_4 hR, ro_0_5 hR, ro_0_6 hR, ro_0_7 hR, ro_0_8 hR, ro_0_9 hR, ro_0_10 hR, ro_0_11 hR, ro_2_6 hR, ro_2_7 hR, ro_2_8 hR, ro_2_9 hR, ro_2_10 hR, ro_2_11 hR, ro_2_12 hR, ro_2_13 hR, ro_9_0 hR, ro_9_1 hR, ro_9_2 hR, ro_14_0 hR, ro_14_1 hR, ro_14_2 hR, ro_14_7 hR, ro_15_0 hR, ro_15_1 hR, ro_15_2 hR, ro_15_3 hR, ro_20_6 hR, ro_20_7 hR, ro_20_8 hR, ro_20_9 hR, ro_20_10 hR, ro_20_11 hR, ro_20_12 hR, ro_20_13 hR, ro_27_0 hR, ro_27_1 hR, ro_27_2 hR, ro_32_0 hR, ro_32_1 hR, ro_34_10 hR, ro_34_11 hR, ro_34_12 hR, ro_34_13 hR, ro_39_0 hR, ro_39_1 hR, ro_42_0 hR, ro_42_1 hR, ro_47_0 hR, ro_47_1 hR, ro_47_2 hR, ro_47_3 hR, ro_55_0 hR, ro_55_1 hR, ro_55_2 hR, ro_57_0 hR, ro_57_1 hR, ro_57_2 hR, ro_57_3 hR, ro_57_4 hR, ro_57_5 hR, ro_57_8 hR, sh_0, sh_1, sh_2, sh_3, sh_4, sh_5, sh_6, sh_7, sh_8, sh_9, sh_10, sh_11, sh_12, sh_13, sh_14, sh_15, sh_16, sh_17, sh_18, sh_19, sh_20, sh_21, sh_22, sh_23, sh_24, sh_25, sh_26, sh_27, sh_28, sh_29, sh_30, sh_31, sh_32, sh_33, sh_34, sh_35, sh_36, sh_37, sh_38, sh_39, sh_40, sh_41, sh_42, sh_43, sh_44, sh_45, sh_46, sh_47, sh_48, sh_49, sh_50, sh_51, sh_52, sh_53, sh_54, sh_55, sh_56, sh_57, sh_58, sh_59, sh_60, sh_61, sh_62, sh_63, sh_64, sh_65, sh_66, sh_67, sh_68, hl, hvw9, Nat.reduceLT, Nat.reduceAdd, Nat.reduceMul, ne_eq, Nat.reduceEqDiff, not_false_eq_true, or_true, true_or, or_false, false_or, and_true, true_and, and_self, Nat.reduceLeDiff, am_ci, am_cr, am_cn0, Option.toList_some, Option.toList_none, List.cons_append, List.nil_append, am_s0, am_s1, am_s1r, am_s2, am_s2r, am_s3r, nI_add, am_u_ne, am_u_at, am_u_n1, am_u_n2, am_w_ne, hn, v3, h7']
          have T3' : rdT (am_u I3 22 (s_S s).length (oI (lkN (s_n s) (kM x (s_t s + 1 + 1))))) L3 R x (s_t s + 1 + 1 + 1) := T3.fr (fun k j hk => am_u_n1 (by omega))
          have F3' := F3.ag (J := am_u I3 22 (s_S s).length (oI (lkN (s_n s) (kM x (s_t s + 1 + 1))))) (fun j hj => am_u_n1 (by omega))
          refine c_takeIntC (d := d) (most := 2) hR hN hn (by omega) T3' F3' (fun e hh I4 g4 f4 => ?_) (fun t4 hh I4 L4 g4 l4 T4 F4 v4 => ?_)
          · rw [hh] at hE
            simp only [am_lv_of, Option.toList_some, List.cons_append, List.nil_append, rX9_stringTold_62, z0', not_true_eq_false, ↓reduceIte, rX9_stringTold_65, rX9_stringTold_66_0]
            exact hE e rfl I4 L3 ((G3.u (by unfold rdP; omega)).trans (inF_P g4)) ((l1.N.trans l2).trans l3.N) f4
          · obtain ⟨q5, q6, rfl⟩ := tkE_inr hh
            rw [hh, erB_inr] at hE hS
            have k4 : I4 15 8 = nI (kK x (s_t s + 1 + 1 + 1 + 1)) := T4.k
            have G4 : am_ag rdP I (am_u I4 23 (s_S s).length (nI (kV x (s_t s + 1 + 1 + 1)))) := ((G3.u (by unfold rdP; omega)).trans (inF_P g4)).u (by unfold rdP; omega)
            have K4 : agN L L4 := ((l1.N.trans l2).trans l3.N).trans l4.N
            have T4' : rdT (am_u I4 23 (s_S s).length (nI (kV x (s_t s + 1 + 1 + 1)))) L4 R x (s_t s + 1 + 1 + 1 + 1) := T4.fr (fun k j hk => am_u_n1 (by omega))
            have F4' := F4.ag (J := am_u I4 23 (s_S s).length (nI (kV x (s_t s + 1 + 1 + 1)))) (fun j hj => am_u_n1 (by omega))
            have N4' : nmC (am_u I4 23 (s_S s).length (nI (kV x (s_t s + 1 + 1 + 1)))) L4 (s_n s ++ [(kM x (s_t s + 1), none)]) (s_P s).length := N2'.ag (fun k j hk => by rw [am_u_n1 (by omega), g4 k j (by unfold inF; omega), am_u_n1 (by omega), g3 k j (by unfold inF; omega)]) (fun j => by rw [l4 18 j (by omega), l3 18 j (by omega)]) (Nat.le_refl _)
            have nlen : (s_n s ++ [(kM x (s_t s + 1), (none : Option Nat))]).length = (s_P s).length + (s_S s).length + 1 := by rw [List.length_append, List.length_singleton]; omega
            have dr4 : ∀ k j, 20 ≤ k → k ≤ 31 → ¬ ((k = 22 ∨ k = 23) ∧ j = (s_S s).length) → am_u I4 23 (s_S s).length (nI (kV x (s_t s + 1 + 1 + 1))) k j = I k j := fun k j h1 h2 h3 => by
              have a1 : am_u I4 23 (s_S s).length (nI (kV x (s_t s + 1 + 1 + 1))) k j = I4 k j := by
                unfold am_u
                by_cases b : k = 23
                · have : ¬ j = (s_S s).length := fun z => h3 ⟨by omega, z⟩
                  subst b; simp [this]
                · simp [b]
              rw [a1, g4 k j (by unfold inF; omega)]
              have a2 : am_u I3 22 (s_S s).length (oI (lkN (s_n s) (kM x (s_t s + 1 + 1)))) k j = I3 k j := by
                unfold am_u
                by_cases b : k = 22
                · have : ¬ j = (s_S s).length := fun z => h3 ⟨by omega, z⟩
                  subst b; simp [this]
                · simp [b]
              rw [a2, dr3 k j h1 h2]
            have h22 : am_u I4 23 (s_S s).length (nI (kV x (s_t s + 1 + 1 + 1))) 22 (s_S s).length = oI (ownP x s) := by rw [am_u_n1 (by omega), g4 22 _ (by unfold inF; omega), am_u_at]; rfl
            have h23 : am_u I4 23 (s_S s).length (nI (kV x (s_t s + 1 + 1 + 1))) 23 (s_S s).length = nI (kV x (s_t s + 3)) := am_u_at
            have hff : (nt x (nt x (nt x (s_f s) (decide (nIx (s_n s) (kM x (s_t s + 1)) < (s_n s).length)) 3 (s_t s + 1)) (ownP x s).isNone 4 (s_t s + 2)) (decide (2 < kV x (s_t s + 3))) 5 (s_t s + 3)).1 = 0 → (s_f s).1 = 0 ∧ (ownP x s).isNone = false := fun h => by
              have a := nt_0 (by omega) h
              have b := nt_0 (by omega) a.1
              exact ⟨(nt_0 (by omega) b.1).1, b.2⟩
            by_cases k45 : kK x (s_t s + 1 + 1 + 1 + 1) = 45
            · have k45' : (kK x (s_t s + 1 + 1 + 1 + 1) = 45) = True := eq_true k45
              rw [if_pos k45] at hE hS
              simp only [am_lv_of, Option.toList_some, List.cons_append, List.nil_append, rX9_stringTold_62, z1, not_false_eq_true, ↓reduceIte, rX9_stringTold_67, rX9_stringTold_68, rX9_stringTold_71, rX9_stringTold_74, rX9_stringTold_75, rX9_stringTold_76, rX9_stringTold_79, rX9_stringTold_80, rX9_stringTold_81, rX9_stringTold_84, rX9_stringTold_87, rX9_stringTold_89, rX9_stringTold_92, rX9_stringTold_93, rX9_stringTold_97, rX9_stringTold_98, rX9_stringTold_99, rX9_stringTold_102, rX9_stringTold_103, ro_0_0 hR, ro_0_3 hR, ro_0_4 hR, ro_0_5 hR, ro_0_6 hR, ro_0_7 hR, ro_0_8 hR, ro_0_9 hR, ro_0_10 hR, ro_0_11 hR, ro_2_6 hR, ro_2_7 hR, ro_2_8 hR, ro_2_9 hR, ro_2_10 hR, ro_2_11 hR, ro_2_12 hR, ro_2_13 hR, ro_9_0 hR, ro_9_1 hR, ro_9_2 hR, ro_14_0 hR, ro_14_1 hR, ro_14_2 hR, ro_14_7 hR, ro_15_0 hR, ro_15_1 hR, ro_15_2 hR, ro_15_3 hR, ro_20_6 hR, ro_20_7 hR, ro_20_8 hR, ro_20_9 hR, ro_20_10 hR, ro_20_11 hR, ro_20_12 hR, ro_20_13 hR, ro_27_0 hR, ro_27_1 hR, ro_27_2 hR, ro_32_0 hR, ro_32_1 hR, ro_34_10 hR, ro_34_11 hR, ro_34_12 hR, ro_34_13 hR, ro_39_0 hR, ro_39_1 hR, ro_42_0 hR, ro_42_1 hR, ro_47_0 hR, ro_47_1 hR, ro_47_2 hR, ro_47_3 hR, ro_55_0 hR, ro_55_1 hR, ro_55_2 hR, ro_57_0 hR, ro_57_1 hR, ro_57_2 hR, ro_57_3 hR, ro_57_4 hR, ro_57_5 hR, ro_57_8 hR, sh_0, sh_1, sh_2, sh_3, sh_4, sh_5, sh_6, sh_7, sh_8, sh_9, sh_10, sh_11, sh_12, sh_13, sh_14, sh_15, sh_16, sh_17, sh_18, sh_19, sh_20, sh_21, sh_22, sh_23, sh_24, sh_25, sh_26, sh_27, sh_28, sh_29, sh_30, sh_31, sh_32, sh_33, sh_34, sh_35, sh_36, sh_37, sh_38, sh_39, sh_40, sh_41, sh_42, sh_43, sh_44, sh_45, sh_46, sh_47, sh_48, sh_49, sh_50, sh_51, sh_52, sh_53, sh_54, sh_55, sh_56, sh_57, sh_58, sh_59, sh_60, sh_61, sh_62, sh_63, sh_64, sh_65, sh_66, sh_67, sh_68, hl, hvw9, Nat.reduceLT, Nat.reduceAdd, Nat.reduceMul, ne_eq, Nat.reduceEqDiff, not_false_eq_true, or_true, true_or, or_false, false_or, and_true, true_and, and_self, Nat.reduceLeDiff, am_ci, am_cr, am_cn0, Option.toList_some, Option.toList_none, List.cons_append, List.nil_append, am_s0, am_s1, am_s1r, am_s2, am_s2r, am_s3r, nI_add, am_u_ne, am_u_at, am_u_n1, am_u_n2, am_w_ne, hn, v4, h7', k4, kK_eq (show 45 < 256 by omega), k45', not_true_eq_false]
              refine c_stepC (d := d + 1) hR hN hn T4' (fun e hh I5 g5 f5 => ?_) (fun t5 hh I5 L5 g5 l5 T5 => ?_)
              · simp only [am_lv_of, Option.toList_some, List.cons_append, List.nil_append, rX9_stringTold_106, z0', not_true_eq_false, ↓reduceIte, rX9_stringTold_109, rX9_stringTold_110_0]
                refine hE e ?_ I5 L4 (G4.trans (fl_P g5)) K4 f5
                rw [chk, tkE_y k45, hh]
                rfl
              · obtain ⟨ht5, rfl⟩ := stE_inr hh
                simp only [am_lv_of, Option.toList_some, List.cons_append, List.nil_append, rX9_stringTold_106, z1, not_false_eq_true, ↓reduceIte]
                refine l_strC (s := s) (I := I) (L := L) (d := d) (t0 := s_t s) (u := s_t s + 5) (lw := true) (own := ownP x s) (v3 := kV x (s_t s + 3)) (nm := s_n s ++ [(kM x (s_t s + 1), none)]) (r0 := erB (chk x [45, 21, 21, 59] (s_t s + 1 + 1 + 1 + 1)) fun t' => .inr (strP x s (s_t s + 5) t' (-(nI (kV x (s_t s + 5)))))) hR hN hn H h7' (by omega) (G4.trans (st_P g5)) (K4.trans l5.N) T5 (F4'.ag (fun j hj => g5 14 j (by omega))) hff (N4'.ag (fun k j hk => g5 k j (by omega)) (fun j => l5 18 j (by omega)) (Nat.le_refl _)) nlen (fun k j h1 h2 h3 => by rw [g5 k j (by omega)]; exact dr4 k j h1 h2 h3) (by rw [g5 22 _ (by omega)]; exact h22) (by rw [g5 23 _ (by omega)]; exact h23) ?_ hE hS
                have e45 : chk x [45, 21, 21, 59] (s_t s + 1 + 1 + 1 + 1) = chk x [21, 21, 59] (s_t s + 5) := by
                  show erB (tkE x 45 (s_t s + 1 + 1 + 1 + 1)) _ = _
                  rw [tkE_y k45, hh]
                  rfl
                rw [e45]
                rfl
            · rw [if_neg k45] at hE hS
              have z00 : (nI 0 = 0) = True := eq_true rfl
              simp only [am_lv_of, Option.toList_some, List.cons_append, List.nil_append, rX9_stringTold_62, z1, not_false_eq_true, ↓reduceIte, rX9_stringTold_67, rX9_stringTold_68, rX9_stringTold_71, rX9_stringTold_74, rX9_stringTold_75, rX9_stringTold_76, rX9_stringTold_79, rX9_stringTold_80, rX9_stringTold_81, rX9_stringTold_84, rX9_stringTold_87, rX9_stringTold_89, rX9_stringTold_96, rX9_stringTold_97, rX9_stringTold_98, rX9_stringTold_99, ro_0_0 hR, ro_0_3 hR, ro_0_4 hR, ro_0_5 hR, ro_0_6 hR, ro_0_7 hR, ro_0_8 hR, ro_0_9 hR, ro_0_10 hR, ro_0_11 hR, ro_2_6 hR, ro_2_7 hR, ro_2_8 hR, ro_2_9 hR, ro_2_10 hR, ro_2_11 hR, ro_2_12 hR, ro_2_13 hR, ro_9_0 hR, ro_9_1 hR, ro_9_2 hR, ro_14_0 hR, ro_14_1 hR, ro_14_2 hR, ro_14_7 hR, ro_15_0 hR, ro_15_1 hR, ro_15_2 hR, ro_15_3 hR, ro_20_6 hR, ro_20_7 hR, ro_20_8 hR, ro_20_9 hR, ro_20_10 hR, ro_20_11 hR, ro_20_12 hR, ro_20_13 hR, ro_27_0 hR, ro_27_1 hR, ro_27_2 hR, ro_32_0 hR, ro_32_1 hR, ro_34_10 hR, ro_34_11 hR, ro_34_12 hR, ro_34_13 hR, ro_39_0 hR, ro_39_1 hR, ro_42_0 hR, ro_42_1 hR, ro_47_0 hR, ro_47_1 hR, ro_47_2 hR, ro_47_3 hR, ro_55_0 hR, ro_55_1 hR, ro_55_2 hR, ro_57_0 hR, ro_57_1 hR, ro_57_2 hR, ro_57_3 hR, ro_57_4 hR, ro_57_5 hR, ro_57_8 hR, sh_0, sh_1, sh_2, sh_3, sh_4, sh_5, sh_6, sh_7, sh_8, sh_9, sh_10, sh_11, sh_12, sh_13, sh_14, sh_15, sh_16, sh_17, sh_18, sh_19, sh_20, sh_21, sh_22, sh_23, sh_24, sh_25, sh_26, sh_27, sh_28, sh_29, sh_30, sh_31, sh_32, sh_33, sh_34, sh_35, sh_36, sh_37, sh_38, sh_39, sh_40, sh_41, sh_42, sh_43, sh_44, sh_45, sh_46, sh_47, sh_48, sh_49, sh_50, sh_51, sh_52, sh_53, sh_54, sh_55, sh_56, sh_57, sh_58, sh_59, sh_60, sh_61, sh_62, sh_63, sh_64, sh_65, sh_66, sh_67, sh_68, hl, hvw9, Nat.reduceLT, Nat.reduceAdd, Nat.reduceMul, ne_eq, Nat.reduceEqDiff, not_false_eq_true, or_true, true_or, or_false, false_or, and_true, true_and, and_self, Nat.reduceLeDiff, am_ci, am_cr, am_cn0, Option.toList_some, Option.toList_none, List.cons_append, List.nil_append, am_s0, am_s1, am_s1r, am_s2, am_s2r, am_s3r, nI_add, am_u_ne, am_u_at, am_u_n1, am_u_n2, am_w_ne, hn, v4, h7', k4, kK_eq (show 45 < 256 by omega), k45, z00]
              exact l_strC (s := s) (I := I) (L := L) (d := d) (t0 := s_t s) (u := s_t s + 4) (lw := false) (own := ownP x s) (v3 := kV x (s_t s + 3)) (nm := s_n s ++ [(kM x (s_t s + 1), none)]) (r0 := erB (chk x [21, 21, 59] (s_t s + 1 + 1 + 1 + 1)) fun t' => .inr (strP x s (s_t s + 4) t' (nI (kV x (s_t s + 4))))) hR hN hn H h7' (by omega) G4 K4 T4' F4' hff N4' nlen dr4 h22 h23 rfl hE hS
end RF
