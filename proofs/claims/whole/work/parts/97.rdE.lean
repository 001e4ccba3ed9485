--! 96
/-! TEXTS: the class reads strings, children, storms, seeds, laws -/
theorem lkN_s {nm : nmT} {a w : List Nat} : lkN (nm ++ [(a, none)]) w = lkN nm w := by
  unfold lkN nIx
  rw [List.findIdx_append]
  by_cases h : nm.findIdx (fun e => e.1 == w) < nm.length
  · rw [if_pos h, List.getElem?_append_left h]
  · rw [if_neg h, List.getElem?_append_right (by omega), List.getElem?_eq_none (l := nm) (by omega)]
    have e : List.findIdx (fun e : List Nat × Option Nat => e.1 == w) [(a, none)] + nm.length - nm.length = List.findIdx (fun e : List Nat × Option Nat => e.1 == w) [(a, none)] := by omega
    rw [e]
    by_cases hw : (a == w) = true
    · simp [List.findIdx_cons, hw]
    · simp [List.findIdx_cons, hw]
section RE
variable {X : am_X} {d n : Nat} {I : Nat → Nat → Int32} {L : Nat → Nat → Int64} {R : Nat → Nat → Option Nat} {Q : Option Value → am_M → Prop} {x : txt} {s : pst}
theorem c_stormTold (hR : am_OR R) (hN : 116 ≤ n) (hn : n ≤ 1000) (H : CS I L R x s) (hk : kK x (s_t s) = 6) (hE : ∀ e, stormP x s = .inl e → ∀ I' L', am_ag rdP I I' → agN L L' → flt I' x e → Q (some (.int (nI 0))) (n, I', L', R)) (hS : ∀ s', stormP x s = .inr s' → ∀ I' L', am_ag rdP I I' → agN L L' → CS I' L' R x s' → Q (some (.int (nI 1))) (n, I', L', R)) : am_E X (d + 8) mX9_stormTold 0 [some (.ref 14)] [] (n, I, L, R) Q := by
  have hl := am_lt hN
  have hvw9 := am_lw hN
  have z1 : ¬ nI 1 = 0 := by decide
  have z0' : (nI 0 = 0) = True := eq_true rfl
  obtain ⟨T, F, H3, H4, P5, S7, C7, d0, d1, d2, d3, d4, d5, dP, dS, dC, dB⟩ := id H
  unfold stormP at hE hS
  have hk0 : tkE x 6 (s_t s) = stE (s_t s) := tkE_y hk
  simp only [chk] at hE hS
  simp only [am_lv_of, rX9_stormTold_0, rX9_stormTold_1, ro_0_0 hR, ro_0_3 hR, ro_0_4 hR, ro_0_5 hR, ro_0_6 hR, ro_0_7 hR, ro_0_8 hR, ro_0_9 hR, ro_0_10 hR, ro_0_11 hR, ro_2_6 hR, ro_2_7 hR, ro_2_8 hR, ro_2_9 hR, ro_2_10 hR, ro_2_11 hR, ro_2_12 hR, ro_2_13 hR, ro_9_0 hR, ro_9_1 hR, ro_9_2 hR, ro_14_0 hR, ro_14_1 hR, ro_14_2 hR, ro_14_7 hR, ro_15_0 hR, ro_15_1 hR, ro_15_2 hR, ro_15_3 hR, ro_20_6 hR, ro_20_7 hR, ro_20_8 hR, ro_20_9 hR, ro_20_10 hR, ro_20_11 hR, ro_20_12 hR, ro_20_13 hR, ro_27_0 hR, ro_27_1 hR, ro_27_2 hR, ro_32_0 hR, ro_32_1 hR, ro_34_10 hR, ro_34_11 hR, ro_34_12 hR, ro_34_13 hR, ro_39_0 hR, ro_39_1 hR, ro_42_0 hR, ro_42_1 hR, ro_47_0 hR, ro_47_1 hR, ro_47_2 hR, ro_47_3 hR, ro_55_0 hR, ro_55_1 hR, ro_55_2 hR, ro_57_0 hR, ro_57_1 hR, ro_57_2 hR, ro_57_3 hR, ro_57_4 hR, ro_57_5 hR, ro_57_8 hR, sh_0, sh_1, sh_2, sh_3, sh_4, sh_5, sh_6, sh_7, sh_8, sh_9, sh_10, sh_11, sh_12, sh_13, sh_14, sh_15, sh_16, sh_17, sh_18, sh_19, sh_20, sh_21, sh_22, sh_23, sh_24, sh_25, sh_26, sh_27, sh_28, sh_29, sh_30, sh_31, sh_32, sh_33, sh_34, sh_35, sh_36, sh_37, sh_38, sh_39, sh_40, sh_41, sh_42, sh_43, sh_44, sh_45, sh_46, sh_47, sh_48, sh_49, sh_50, sh_51, sh_52, sh_53, sh_54, sh_55, sh_56, sh_57, sh_58, sh_59, sh_60, sh_61, sh_62, sh_63, sh_64, sh_65, sh_66, sh_67, sh_68, hl, hvw9, Nat.reduceLT, Nat.reduceAdd, Nat.reduceMul, ne_eq, Nat.reduceEqDiff, not_false_eq_true, or_true, true_or, or_false, false_or, and_true, true_and, and_self, Nat.reduceLeDiff, am_ci, am_cr, am_cn0, Option.toList_some, Option.toList_none, List.cons_append, List.nil_append, am_s0, am_s1, am_s1r, am_s2, am_s2r, am_s3r, nI_add, am_u_ne, am_u_at, am_u_n1, am_u_n2, am_w_ne]
  refine c_stepC (d := d + 1) hR hN hn T (fun e hh I1 g1 f1 => ?_) (fun t1 hh I1 L1 g1 l1 T1 => ?_)
  · rw [hk0, hh] at hE
    simp only [am_lv_of, Option.toList_some, List.cons_append, List.nil_append, rX9_stormTold_4, z0', ↓reduceIte, rX9_stormTold_16, rX9_stormTold_17_0]
    exact hE e rfl I1 L (fl_P g1) agN.refl f1
  · obtain ⟨ht, rfl⟩ := stE_inr hh
    rw [hk0, hh, erB_inr] at hE hS
    have F1 : sfC I1 (s_f s) := F.ag (fun j hj => g1 14 j (by omega))
    simp only [am_lv_of, Option.toList_some, List.cons_append, List.nil_append, rX9_stormTold_4, z1, ↓reduceIte, rX9_stormTold_7, rX9_stormTold_8, rX9_stormTold_10, ro_0_0 hR, ro_0_3 hR, ro_0_4 hR, ro_0_5 hR, ro_0_6 hR, ro_0_7 hR, ro_0_8 hR, ro_0_9 hR, ro_0_10 hR, ro_0_11 hR, ro_2_6 hR, ro_2_7 hR, ro_2_8 hR, ro_2_9 hR, ro_2_10 hR, ro_2_11 hR, ro_2_12 hR, ro_2_13 hR, ro_9_0 hR, ro_9_1 hR, ro_9_2 hR, ro_14_0 hR, ro_14_1 hR, ro_14_2 hR, ro_14_7 hR, ro_15_0 hR, ro_15_1 hR, ro_15_2 hR, ro_15_3 hR, ro_20_6 hR, ro_20_7 hR, ro_20_8 hR, ro_20_9 hR, ro_20_10 hR, ro_20_11 hR, ro_20_12 hR, ro_20_13 hR, ro_27_0 hR, ro_27_1 hR, ro_27_2 hR, ro_32_0 hR, ro_32_1 hR, ro_34_10 hR, ro_34_11 hR, ro_34_12 hR, ro_34_13 hR, ro_39_0 hR, ro_39_1 hR, ro_42_0 hR, ro_42_1 hR, ro_47_0 hR, ro_47_1 hR, ro_47_2 hR, ro_47_3 hR, ro_55_0 hR, ro_55_1 hR, ro_55_2 hR, ro_57_0 hR, ro_57_1 hR, ro_57_2 hR, ro_57_3 hR, ro_57_4 hR, ro_57_5 hR, ro_57_8 hR, sh_0, sh_1, sh_2, sh_3, sh_4, sh_5, sh_6, sh_7, sh_8, sh_9, sh_10, sh_11, sh_12, sh_13, sh_14, sh_15, sh_16, sh_17, sh_18, sh_19, sh_20, sh_21, sh_22, sh_23, sh_24, sh_25, sh_26, sh_27, sh_28, sh_29, sh_30, sh_31, sh_32, sh_33, sh_34, sh_35, sh_36, sh_37, sh_38, sh_39, sh_40, sh_41, sh_42, sh_43, sh_44, sh_45, sh_46, sh_47, sh_48, sh_49, sh_50, sh_51, sh_52, sh_53, sh_54, sh_55, sh_56, sh_57, sh_58, sh_59, sh_60, sh_61, sh_62, sh_63, sh_64, sh_65, sh_66, sh_67, sh_68, hl, hvw9, Nat.reduceLT, Nat.reduceAdd, Nat.reduceMul, ne_eq, Nat.reduceEqDiff, not_false_eq_true, or_true, true_or, or_false, false_or, and_true, true_and, and_self, Nat.reduceLeDiff, am_ci, am_cr, am_cn0, Option.toList_some, Option.toList_none, List.cons_append, List.nil_append, am_s0, am_s1, am_s1r, am_s2, am_s2r, am_s3r, nI_add, am_u_ne, am_u_at, am_u_n1, am_u_n2, am_w_ne]
    refine c_takeIntC (d := d) (most := 100) hR hN hn (by omega) T1 F1 (fun e hh I2 g2 f2 => ?_) (fun t2 hh I2 L2 g2 l2 T2 F2 v2 => ?_)
    · rw [hh] at hE
      simp only [am_lv_of, Option.toList_some, List.cons_append, List.nil_append, rX9_stormTold_13, z0', not_true_eq_false, ↓reduceIte, rX9_stormTold_16, rX9_stormTold_17_0]
      exact hE e rfl I2 L1 ((st_P g1).trans (inF_P g2)) l1.N f2
    · obtain ⟨q1, q2, rfl⟩ := tkE_inr hh
      rw [hh, erB_inr] at hE hS
      simp only [am_lv_of, Option.toList_some, List.cons_append, List.nil_append, rX9_stormTold_13, z1, not_false_eq_true, ↓reduceIte, rX9_stormTold_18, rX9_stormTold_19, rX9_stormTold_22, rX9_stormTold_23, rX9_stormTold_26, rX9_stormTold_29, rX9_stormTold_30, rX9_stormTold_32, ro_0_0 hR, ro_0_3 hR, ro_0_4 hR, ro_0_5 hR, ro_0_6 hR, ro_0_7 hR, ro_0_8 hR, ro_0_9 hR, ro_0_10 hR, ro_0_11 hR, ro_2_6 hR, ro_2_7 hR, ro_2_8 hR, ro_2_9 hR, ro_2_10 hR, ro_2_11 hR, ro_2_12 hR, ro_2_13 hR, ro_9_0 hR, ro_9_1 hR, ro_9_2 hR, ro_14_0 hR, ro_14_1 hR, ro_14_2 hR, ro_14_7 hR, ro_15_0 hR, ro_15_1 hR, ro_15_2 hR, ro_15_3 hR, ro_20_6 hR, ro_20_7 hR, ro_20_8 hR, ro_20_9 hR, ro_20_10 hR, ro_20_11 hR, ro_20_12 hR, ro_20_13 hR, ro_27_0 hR, ro_27_1 hR, ro_27_2 hR, ro_32_0 hR, ro_32_1 hR, ro_34_10 hR, ro_34_11 hR, ro_34_12 hR, ro_34_13 hR, ro_39_0 hR, ro_39_1 hR, ro_42_0 hR, ro_42_1 hR, ro_47_0 hR, ro_47_1 hR, ro_47_2 hR, ro_47_3 hR, ro_55_0 hR, ro_55_1 hR, ro_55_2 hR, ro_57_0 hR, ro_57_1 hR, ro_57_2 hR, ro_57_3 hR, ro_57_4 hR, ro_57_5 hR, ro_57_8 hR, sh_0, sh_1, sh_2, sh_3, sh_4, sh_5, sh_6, sh_7, sh_8, sh_9, sh_10, sh_11, sh_12, sh_13, sh_14, sh_15, sh_16, sh_17, sh_18, sh_19, sh_20, sh_21, sh_22, sh_23, sh_24, sh_25, sh_26, sh_27, sh_28, sh_29, sh_30, sh_31, sh_32, sh_33, sh_34, sh_35, sh_36, sh_37, sh_38, sh_39, sh_40, sh_41, sh_42, sh_43, sh_44, sh_45, sh_46, sh_47, sh_48, sh_49, sh_50, sh_51, sh_52, sh_53, sh_54, sh_55, sh_56, sh_57, sh_58, sh_59, sh_60, sh_61, sh_62, sh_63, sh_64, sh_65, sh_66, sh_67, sh_68, hl, hvw9, Nat.reduceLT, Nat.reduceAdd, Nat.reduceMul, ne_eq, Nat.reduceEqDiff, not_false_eq_true, or_true, true_or, or_false, false_or, and_true, true_and, and_self, Nat.reduceLeDiff, am_ci, am_cr, am_cn0, Option.toList_some, Option.toList_none, List.cons_append, List.nil_append, am_s0, am_s1, am_s1r, am_s2, am_s2r, am_s3r, nI_add, am_u_ne, am_u_at, am_u_n1, am_u_n2, am_w_ne, hn, v2]
      have G2 : am_ag rdP I (am_u I2 20 3 (nI (kV x (s_t s + 1)))) := ((st_P g1).trans (inF_P g2)).u (by unfold rdP; omega)
      have T2' : rdT (am_u I2 20 3 (nI (kV x (s_t s + 1)))) L2 R x (s_t s + 1 + 1) := T2.fr (fun k j hk => am_u_n1 (by omega))
      refine c_takeC (d := d) (c := 59) hR hN hn (by omega) T2' (fun e hh I3 g3 f3 => ?_) (fun t3 hh I3 L3 g3 l3 T3 => ?_)
      · rw [hh] at hE
        simp only [am_lv_of, Option.toList_some, List.cons_append, List.nil_append, rX9_stormTold_35_0]
        exact hE e rfl I3 L2 (G2.trans (fl_P g3)) (l1.N.trans l2.N) f3
      · obtain ⟨q3, q4, rfl⟩ := tkE_inr hh
        rw [hh, erB_inr, erB_inr] at hS
        simp only [am_lv_of, Option.toList_some, List.cons_append, List.nil_append, rX9_stormTold_35_1]
        have dr : ∀ k j, 19 ≤ k → k ≤ 31 → ¬ (k = 20 ∧ j = 3) → I3 k j = I k j := fun k j h1 h2 h3 => by
          rw [g3 k j (by omega)]
          have a2 : am_u I2 20 3 (nI (kV x (s_t s + 1))) k j = I2 k j := by
            unfold am_u
            by_cases a : k = 20
            · have : ¬ j = 3 := fun z => h3 ⟨a, z⟩
              subst a; simp [this]
            · simp [a]
          rw [a2, g2 k j (by unfold inF; omega), g1 k j (by omega)]
        refine hS _ rfl I3 L3 (G2.trans (st_P g3)) ((l1.N.trans l2.N).trans l3.N) ⟨T3, F2.ag (fun j hj => by rw [g3 14 j (by omega), am_u_n1 (by omega)]), H3.ag (fun k j hk => ?_) (fun j => by rw [l3 18 j (by omega), l2 18 j (by omega), l1 18 j (by omega)]) (Nat.le_refl _), H4, P5, S7, C7, ?_, ?_, ?_, ?_, ?_, ?_, fun i q hq => ?_, fun i q hq => ?_, fun i c hc => ?_, ?_⟩
        · rcases hk with ⟨rfl, rfl⟩ | rfl
          · rw [g3 14 3 (by omega), am_u_n1 (by omega), g2 14 3 (by unfold inF; omega), g1 14 3 (by omega)]
          · exact dr 19 j (by omega) (by omega) (by omega)
        · rw [dr 20 0 (by omega) (by omega) (by omega)]; exact d0
        · rw [dr 20 1 (by omega) (by omega) (by omega)]; exact d1
        · rw [dr 20 2 (by omega) (by omega) (by omega)]; exact d2
        · show I3 20 3 = nI (kV x (s_t s + 1))
          rw [g3 20 3 (by omega), am_u_at]
        · rw [dr 20 4 (by omega) (by omega) (by omega)]; exact d4
        · rw [dr 20 5 (by omega) (by omega) (by omega)]; exact d5
        · rw [dr 21 i (by omega) (by omega) (by omega)]; exact dP i q hq
        · obtain ⟨b1, b2, b3, b4⟩ := dS i q hq
          refine ⟨fun hf => ?_, ?_, ?_, ?_⟩
          · rw [dr 22 i (by omega) (by omega) (by omega)]
            exact b1 (nt_0 (by omega) hf).1
          · rw [dr 23 i (by omega) (by omega) (by omega)]; exact b2
          · rw [dr 24 i (by omega) (by omega) (by omega)]; exact b3
          · rw [dr 25 i (by omega) (by omega) (by omega)]; exact b4
        · rw [dr 26 i (by omega) (by omega) (by omega)]; exact dC i c hc
        · exact dB.ag (show s_t s ≤ s_t s + 1 + 1 + 1 by omega) (fun k j h1 h2 => dr k j (by omega) (by omega) (by omega))
theorem c_seedTold (hR : am_OR R) (hN : 116 ≤ n) (hn : n ≤ 1000) (H : CS I L R x s) (hk : kK x (s_t s) = 7) (hE : ∀ e, seedP x s = .inl e → ∀ I' L', am_ag rdP I I' → agN L L' → flt I' x e → Q (some (.int (nI 0))) (n, I', L', R)) (hS : ∀ s', seedP x s = .inr s' → ∀ I' L', am_ag rdP I I' → agN L L' → CS I' L' R x s' → Q (some (.int (nI 1))) (n, I', L', R)) : am_E X (d + 8) mX9_seedTold 0 [some (.ref 14)] [] (n, I, L, R) Q := by
  have hl := am_lt hN
  have hvw9 := am_lw hN
  have z1 : ¬ nI 1 = 0 := by decide
  have z0' : (nI 0 = 0) = True := eq_true rfl
  obtain ⟨T, F, H3, H4, P5, S7, C7, d0, d1, d2, d3, d4, d5, dP, dS, dC, dB⟩ := id H
  unfold seedP at hE hS
  have hk0 : tkE x 7 (s_t s) = stE (s_t s) := tkE_y hk
  simp only [chk] at hE hS
  simp only [am_lv_of, rX9_seedTold_0, rX9_seedTold_1, ro_0_0 hR, ro_0_3 hR, ro_0_4 hR, ro_0_5 hR, ro_0_6 hR, ro_0_7 hR, ro_0_8 hR, ro_0_9 hR, ro_0_10 hR, ro_0_11 hR, ro_2_6 hR, ro_2_7 hR, ro_2_8 hR, ro_2_9 hR, ro_2_10 hR, ro_2_11 hR, ro_2_12 hR, ro_2_13 hR, ro_9_0 hR, ro_9_1 hR, ro_9_2 hR, ro_14_0 hR, ro_14_1 hR, ro_14_2 hR, ro_14_7 hR, ro_15_0 hR, ro_15_1 hR, ro_15_2 hR, ro_15_3 hR, ro_20_6 hR, ro_20_7 hR, ro_20_8 hR, ro_20_9 hR, ro_20_10 hR, ro_20_11 hR, ro_20_12 hR, ro_20_13 hR, ro_27_0 hR, ro_27_1 hR, ro_27_2 hR, ro_32_0 hR, ro_32_1 hR, ro_34_10 hR, ro_34_11 hR, ro_34_12 hR, ro_34_13 hR, ro_39_0 hR, ro_39_1 hR, ro_42_0 hR, ro_42_1 hR, ro_47_0 hR, ro_47_1 hR, ro_47_2 hR, ro_47_3 hR, ro_55_0 hR, ro_55_1 hR, ro_55_2 hR, ro_57_0 hR, ro_57_1 hR, ro_57_2 hR, ro_57_3 hR, ro_57_4 hR, ro_57_5 hR, ro_57_8 hR, sh_0, sh_1, sh_2, sh_3, sh_4, sh_5, sh_6, sh_7, sh_8, sh_9, sh_10, sh_11, sh_12, sh_13, sh_14, sh_15, sh_16, sh_17, sh_18, sh_19, sh_20, sh_21, sh_22, sh_23, sh_24, sh_25, sh_26, sh_27, sh_28, sh_29, sh_30, sh_31, sh_32, sh_33, sh_34, sh_35, sh_36, sh_37, sh_38, sh_39, sh_40, sh_41, sh_42, sh_43, sh_44, sh_45, sh_46, sh_47, sh_48, sh_49, sh_50, sh_51, sh_52, sh_53, sh_54, sh_55, sh_56, sh_57, sh_58, sh_59, sh_60, sh_61, sh_62, sh_63, sh_64, sh_65, sh_66, sh_67, sh_68, hl, hvw9, Nat.reduceLT, Nat.reduceAdd, Nat.reduceMul, ne_eq, Nat.reduceEqDiff, not_false_eq_true, or_true, true_or, or_false, false_or, and_true, true_and, and_self, Nat.reduceLeDiff, am_ci, am_cr, am_cn0, Option.toList_some, Option.toList_none, List.cons_append, List.nil_append, am_s0, am_s1, am_s1r, am_s2, am_s2r, am_s3r, nI_add, am_u_ne, am_u_at, am_u_n1, am_u_n2, am_w_ne]
  refine c_stepC (d := d + 1) hR hN hn T (fun e hh I1 g1 f1 => ?_) (fun t1 hh I1 L1 g1 l1 T1 => ?_)
  · rw [hk0, hh] at hE
    simp only [am_lv_of, Option.toList_some, List.cons_append, List.nil_append, rX9_seedTold_4, z0', ↓reduceIte, rX9_seedTold_17, rX9_seedTold_18_0]
    exact hE e rfl I1 L (fl_P g1) agN.refl f1
  · obtain ⟨ht, rfl⟩ := stE_inr hh
    rw [hk0, hh, erB_inr] at hE hS
    have F1 : sfC I1 (s_f s) := F.ag (fun j hj => g1 14 j (by omega))
    simp only [am_lv_of, Option.toList_some, List.cons_append, List.nil_append, rX9_seedTold_4, z1, ↓reduceIte, rX9_seedTold_7, rX9_seedTold_8, rX9_seedTold_11, ro_0_0 hR, ro_0_3 hR, ro_0_4 hR, ro_0_5 hR, ro_0_6 hR, ro_0_7 hR, ro_0_8 hR, ro_0_9 hR, ro_0_10 hR, ro_0_11 hR, ro_2_6 hR, ro_2_7 hR, ro_2_8 hR, ro_2_9 hR, ro_2_10 hR, ro_2_11 hR, ro_2_12 hR, ro_2_13 hR, ro_9_0 hR, ro_9_1 hR, ro_9_2 hR, ro_14_0 hR, ro_14_1 hR, ro_14_2 hR, ro_14_7 hR, ro_15_0 hR, ro_15_1 hR, ro_15_2 hR, ro_15_3 hR, ro_20_6 hR, ro_20_7 hR, ro_20_8 hR, ro_20_9 hR, ro_20_10 hR, ro_20_11 hR, ro_20_12 hR, ro_20_13 hR, ro_27_0 hR, ro_27_1 hR, ro_27_2 hR, ro_32_0 hR, ro_32_1 hR, ro_34_10 hR, ro_34_11 hR, ro_34_12 hR, ro_34_13 hR, ro_39_0 hR, ro_39_1 hR, ro_42_0 hR, ro_42_1 hR, ro_47_0 hR, ro_47_1 hR, ro_47_2 hR, ro_47_3 hR, ro_55_0 hR, ro_55_1 hR, ro_55_2 hR, ro_57_0 hR, ro_57_1 hR, ro_57_2 hR, ro_57_3 hR, ro_57_4 hR, ro_57_5 hR, ro_57_8 hR, sh_0, sh_1, sh_2, sh_3, sh_4, sh_5, sh_6, sh_7, sh_8, sh_9, sh_10, sh_11, sh_12, sh_13, sh_14, sh_15, sh_16, sh_17, sh_18, sh_19, sh_20, sh_21, sh_22, sh_23, sh_24, sh_25, sh_26, sh_27, sh_28, sh_29, sh_30, sh_31, sh_32, sh_33, sh_34, sh_35, sh_36, sh_37, sh_38, sh_39, sh_40, sh_41, sh_42, sh_43, sh_44, sh_45, sh_46, sh_47, sh_48, sh_49, sh_50, sh_51, sh_52, sh_53, sh_54, sh_55, sh_56, sh_57, sh_58, sh_59, sh_60, sh_61, sh_62, sh_63, sh_64, sh_65, sh_66, sh_67, sh_68, hl, hvw9, Nat.reduceLT, Nat.reduceAdd, Nat.reduceMul, ne_eq, Nat.reduceEqDiff, not_false_eq_true, or_true, true_or, or_false, false_or, and_true, true_and, and_self, Nat.reduceLeDiff, am_ci, am_cr, am_cn0, Option.toList_some, Option.toList_none, List.cons_append, List.nil_append, am_s0, am_s1, am_s1r, am_s2, am_s2r, am_s3r, nI_add, am_u_ne, am_u_at, am_u_n1, am_u_n2, am_w_ne]
    refine c_takeIntC (d := d) (most := 9999) hR hN hn (by omega) T1 F1 (fun e hh I2 g2 f2 => ?_) (fun t2 hh I2 L2 g2 l2 T2 F2 v2 => ?_)
    · rw [hh] at hE
      simp only [am_lv_of, Option.toList_some, List.cons_append, List.nil_append, rX9_seedTold_14, z0', not_true_eq_false, ↓reduceIte, rX9_seedTold_17, rX9_seedTold_18_0]
      exact hE e rfl I2 L1 ((st_P g1).trans (inF_P g2)) l1.N f2
    · obtain ⟨q1, q2, rfl⟩ := tkE_inr hh
      rw [hh, erB_inr] at hE hS
      simp only [am_lv_of, Option.toList_some, List.cons_append, List.nil_append, rX9_seedTold_14, z1, not_false_eq_true, ↓reduceIte, rX9_seedTold_19, rX9_seedTold_20, rX9_seedTold_23, rX9_seedTold_24, rX9_seedTold_27, rX9_seedTold_30, rX9_seedTold_31, rX9_seedTold_33, ro_0_0 hR, ro_0_3 hR, ro_0_4 hR, ro_0_5 hR, ro_0_6 hR, ro_0_7 hR, ro_0_8 hR, ro_0_9 hR, ro_0_10 hR, ro_0_11 hR, ro_2_6 hR, ro_2_7 hR, ro_2_8 hR, ro_2_9 hR, ro_2_10 hR, ro_2_11 hR, ro_2_12 hR, ro_2_13 hR, ro_9_0 hR, ro_9_1 hR, ro_9_2 hR, ro_14_0 hR, ro_14_1 hR, ro_14_2 hR, ro_14_7 hR, ro_15_0 hR, ro_15_1 hR, ro_15_2 hR, ro_15_3 hR, ro_20_6 hR, ro_20_7 hR, ro_20_8 hR, ro_20_9 hR, ro_20_10 hR, ro_20_11 hR, ro_20_12 hR, ro_20_13 hR, ro_27_0 hR, ro_27_1 hR, ro_27_2 hR, ro_32_0 hR, ro_32_1 hR, ro_34_10 hR, ro_34_11 hR, ro_34_12 hR, ro_34_13 hR, ro_39_0 hR, ro_39_1 hR, ro_42_0 hR, ro_42_1 hR, ro_47_0 hR, ro_47_1 hR, ro_47_2 hR, ro_47_3 hR, ro_55_0 hR, ro_55_1 hR, ro_55_2 hR, ro_57_0 hR, ro_57_1 hR, ro_57_2 hR, ro_57_3 hR, ro_57_4 hR, ro_57_5 hR, ro_57_8 hR, sh_0, sh_1, sh_2, sh_3, sh_4, sh_5, sh_6, sh_7, sh_8, sh_9, sh_10, sh_11, sh_12, sh_13, sh_14, sh_15, sh_16, sh_17, sh_18, sh_19, sh_20, sh_21, sh_22, sh_23, sh_24, sh_25, sh_26, sh_27, sh_28, sh_29, sh_30, sh_31, sh_32, sh_33, sh_34, sh_35, sh_36, sh_37, sh_38, sh_39, sh_40, sh_41, sh_42, sh_43, sh_44, sh_45, sh_46, sh_47, sh_48, sh_49, sh_50, sh_51, sh_52, sh_53, sh_54, sh_55, sh_56, sh_57, sh_58, sh_59, sh_60, sh_61, sh_62, sh_63, sh_64, sh_65, sh_66, sh_67, sh_68, hl, hvw9, Nat.reduceLT, Nat.reduceAdd, Nat.reduceMul, ne_eq, Nat.reduceEqDiff, not_false_eq_true, or_true, true_or, or_false, false_or, and_true, true_and, and_self, Nat.reduceLeDiff, am_ci, am_cr, am_cn0, Option.toList_some, Option.toList_none, List.cons_append, List.nil_append, am_s0, am_s1, am_s1r, am_s2, am_s2r, am_s3r, nI_add, am_u_ne, am_u_at, am_u_n1, am_u_n2, am_w_ne, hn, v2]
      have G2 : am_ag rdP I (am_u I2 20 4 (nI (kV x (s_t s + 1)))) := ((st_P g1).trans (inF_P g2)).u (by unfold rdP; omega)
      have T2' : rdT (am_u I2 20 4 (nI (kV x (s_t s + 1)))) L2 R x (s_t s + 1 + 1) := T2.fr (fun k j hk => am_u_n1 (by omega))
      refine c_takeC (d := d) (c := 59) hR hN hn (by omega) T2' (fun e hh I3 g3 f3 => ?_) (fun t3 hh I3 L3 g3 l3 T3 => ?_)
      · rw [hh] at hE
        simp only [am_lv_of, Option.toList_some, List.cons_append, List.nil_append, rX9_seedTold_36_0]
        exact hE e rfl I3 L2 (G2.trans (fl_P g3)) (l1.N.trans l2.N) f3
      · obtain ⟨q3, q4, rfl⟩ := tkE_inr hh
        rw [hh, erB_inr, erB_inr] at hS
        simp only [am_lv_of, Option.toList_some, List.cons_append, List.nil_append, rX9_seedTold_36_1]
        have dr : ∀ k j, 19 ≤ k → k ≤ 31 → ¬ (k = 20 ∧ j = 4) → I3 k j = I k j := fun k j h1 h2 h3 => by
          rw [g3 k j (by omega)]
          have a2 : am_u I2 20 4 (nI (kV x (s_t s + 1))) k j = I2 k j := by
            unfold am_u
            by_cases a : k = 20
            · have : ¬ j = 4 := fun z => h3 ⟨a, z⟩
              subst a; simp [this]
            · simp [a]
          rw [a2, g2 k j (by unfold inF; omega), g1 k j (by omega)]
        refine hS _ rfl I3 L3 (G2.trans (st_P g3)) ((l1.N.trans l2.N).trans l3.N) ⟨T3, F2.ag (fun j hj => by rw [g3 14 j (by omega), am_u_n1 (by omega)]), H3.ag (fun k j hk => ?_) (fun j => by rw [l3 18 j (by omega), l2 18 j (by omega), l1 18 j (by omega)]) (Nat.le_refl _), H4, P5, S7, C7, ?_, ?_, ?_, ?_, ?_, ?_, fun i q hq => ?_, fun i q hq => ?_, fun i c hc => ?_, ?_⟩
        · rcases hk with ⟨rfl, rfl⟩ | rfl
          · rw [g3 14 3 (by omega), am_u_n1 (by omega), g2 14 3 (by unfold inF; omega), g1 14 3 (by omega)]
          · exact dr 19 j (by omega) (by omega) (by omega)
        · rw [dr 20 0 (by omega) (by omega) (by omega)]; exact d0
        · rw [dr 20 1 (by omega) (by omega) (by omega)]; exact d1
        · rw [dr 20 2 (by omega) (by omega) (by omega)]; exact d2
        · rw [dr 20 3 (by omega) (by omega) (by omega)]; exact d3
        · show I3 20 4 = nI (kV x (s_t s + 1))
          rw [g3 20 4 (by omega), am_u_at]
        · rw [dr 20 5 (by omega) (by omega) (by omega)]; exact d5
        · rw [dr 21 i (by omega) (by omega) (by omega)]; exact dP i q hq
        · obtain ⟨b1, b2, b3, b4⟩ := dS i q hq
          refine ⟨fun hf => ?_, ?_, ?_, ?_⟩
          · rw [dr 22 i (by omega) (by omega) (by omega)]
            exact b1 (nt_0 (by omega) hf).1
          · rw [dr 23 i (by omega) (by omega) (by omega)]; exact b2
          · rw [dr 24 i (by omega) (by omega) (by omega)]; exact b3
          · rw [dr 25 i (by omega) (by omega) (by omega)]; exact b4
        · rw [dr 26 i (by omega) (by omega) (by omega)]; exact dC i c hc
        · exact dB.ag (show s_t s ≤ s_t s + 1 + 1 + 1 by omega) (fun k j h1 h2 => dr k j (by omega) (by omega) (by omega))
theorem c_childTold (hR : am_OR R) (hN : 116 ≤ n) (hn : n ≤ 1000) (H : CS I L R x s) (hk : kK x (s_t s) = 2) (hE : ∀ e, childP x s = .inl e → ∀ I' L', am_ag rdP I I' → agN L L' → flt I' x e → Q (some (.int (nI 0))) (n, I', L', R)) (hS : ∀ s', childP x s = .inr s' → ∀ I' L', am_ag rdP I I' → agN L L' → CS I' L' R x s' → Q (some (.int (nI 1))) (n, I', L', R)) : am_E X (d + 8) mX9_childTold 0 [some (.ref 14), none] [] (n, I, L, R) Q := by
  have hl := am_lt hN
  have hvw9 := am_lw hN
  have z1 : ¬ nI 1 = 0 := by decide
  have z0' : (nI 0 = 0) = True := eq_true rfl
  obtain ⟨T, F, H3, H4, P5, S7, C7, d0, d1, d2, d3, d4, d5, dP, dS, dC, dB⟩ := id H
  unfold childP at hE hS
  by_cases h7 : 7 ≤ (s_C s).length
  · have c1 : ¬ nI (s_C s).length < nI 7 := nI_nlt h7 (by omega)
    rw [if_pos h7] at hE
    simp only [am_lv_of, rX9_childTold_0, rX9_childTold_1, rX9_childTold_4, rX9_childTold_7, rX9_childTold_8, rX9_childTold_9, rX9_childTold_11, rX9_childTold_14, rX9_childTold_15, rX9_childTold_16, ro_0_0 hR, ro_0_3 hR, ro_0_4 hR, ro_0_5 hR, ro_0_6 hR, ro_0_7 hR, ro_0_8 hR, ro_0_9 hR, ro_0_10 hR, ro_0_11 hR, ro_2_6 hR, ro_2_7 hR, ro_2_8 hR, ro_2_9 hR, ro_2_10 hR, ro_2_11 hR, ro_2_12 hR, ro_2_13 hR, ro_9_0 hR, ro_9_1 hR, ro_9_2 hR, ro_14_0 hR, ro_14_1 hR, ro_14_2 hR, ro_14_7 hR, ro_15_0 hR, ro_15_1 hR, ro_15_2 hR, ro_15_3 hR, ro_20_6 hR, ro_20_7 hR, ro_20_8 hR, ro_20_9 hR, ro_20_10 hR, ro_20_11 hR, ro_20_12 hR, ro_20_13 hR, ro_27_0 hR, ro_27_1 hR, ro_27_2 hR, ro_32_0 hR, ro_32_1 hR, ro_34_10 hR, ro_34_11 hR, ro_34_12 hR, ro_34_13 hR, ro_39_0 hR, ro_39_1 hR, ro_42_0 hR, ro_42_1 hR, ro_47_0 hR, ro_47_1 hR, ro_47_2 hR, ro_47_3 hR, ro_55_0 hR, ro_55_1 hR, ro_55_2 hR, ro_57_0 hR, ro_57_1 hR, ro_57_2 hR, ro_57_3 hR, ro_57_4 hR, ro_57_5 hR, ro_57_8 hR, sh_0, sh_1, sh_2, sh_3, sh_4, sh_5, sh_6, sh_7, sh_8, sh_9, sh_10, sh_11, sh_12, sh_13, sh_14, sh_15, sh_16, sh_17, sh_18, sh_19, sh_20, sh_21, sh_22, sh_23, sh_24, sh_25, sh_26, sh_27, sh_28, sh_29, sh_30, sh_31, sh_32, sh_33, sh_34, sh_35, sh_36, sh_37, sh_38, sh_39, sh_40, sh_41, sh_42, sh_43, sh_44, sh_45, sh_46, sh_47, sh_48, sh_49, sh_50, sh_51, sh_52, sh_53, sh_54, sh_55, sh_56, sh_57, sh_58, sh_59, sh_60, sh_61, sh_62, sh_63, sh_64, sh_65, sh_66, sh_67, sh_68, hl, hvw9, Nat.reduceLT, Nat.reduceAdd, Nat.reduceMul, ne_eq, Nat.reduceEqDiff, not_false_eq_true, or_true, true_or, or_false, false_or, and_true, true_and, and_self, Nat.reduceLeDiff, am_ci, am_cr, am_cn0, Option.toList_some, Option.toList_none, List.cons_append, List.nil_append, am_s0, am_s1, am_s1r, am_s2, am_s2r, am_s3r, nI_add, am_u_ne, am_u_at, am_u_n1, am_u_n2, am_w_ne, ↓reduceIte, d2, c1, c_fail hR hN hn, Option.toList_some, rX9_childTold_19_0]
    exact hE _ rfl _ L ((fail_G T).1.mono (fun k j z => by unfold exG exF at z; unfold rdP; omega)) agN.refl (fail_G T).2
  · have c1 : nI (s_C s).length < nI 7 := nI_lt (by omega) (by omega)
    rw [if_neg h7] at hE hS
    have hk0 : tkE x 2 (s_t s) = stE (s_t s) := tkE_y hk
    simp only [chk] at hE hS
    simp only [am_lv_of, rX9_childTold_0, rX9_childTold_1, rX9_childTold_4, rX9_childTold_7, rX9_childTold_8, rX9_childTold_9, rX9_childTold_11, rX9_childTold_20, rX9_childTold_21, ro_0_0 hR, ro_0_3 hR, ro_0_4 hR, ro_0_5 hR, ro_0_6 hR, ro_0_7 hR, ro_0_8 hR, ro_0_9 hR, ro_0_10 hR, ro_0_11 hR, ro_2_6 hR, ro_2_7 hR, ro_2_8 hR, ro_2_9 hR, ro_2_10 hR, ro_2_11 hR, ro_2_12 hR, ro_2_13 hR, ro_9_0 hR, ro_9_1 hR, ro_9_2 hR, ro_14_0 hR, ro_14_1 hR, ro_14_2 hR, ro_14_7 hR, ro_15_0 hR, ro_15_1 hR, ro_15_2 hR, ro_15_3 hR, ro_20_6 hR, ro_20_7 hR, ro_20_8 hR, ro_20_9 hR, ro_20_10 hR, ro_20_11 hR, ro_20_12 hR, ro_20_13 hR, ro_27_0 hR, ro_27_1 hR, ro_27_2 hR, ro_32_0 hR, ro_32_1 hR, ro_34_10 hR, ro_34_11 hR, ro_34_12 hR, ro_34_13 hR, ro_39_0 hR, ro_39_1 hR, ro_42_0 hR, ro_42_1 hR, ro_47_0 hR, ro_47_1 hR, ro_47_2 hR, ro_47_3 hR, ro_55_0 hR, ro_55_1 hR, ro_55_2 hR, ro_57_0 hR, ro_57_1 hR, ro_57_2 hR, ro_57_3 hR, ro_57_4 hR, ro_57_5 hR, ro_57_8 hR, sh_0, sh_1, sh_2, sh_3, sh_4, sh_5, sh_6, sh_7, sh_8, sh_9, sh_10, sh_11, sh_12, sh_13, sh_14, sh_15, sh_16, sh_17, sh_18, sh_19, sh_20, sh_21, sh_22, sh_23, sh_24, sh_25, sh_26, sh_27, sh_28, sh_29, sh_30, sh_31, sh_32, sh_33, sh_34, sh_35, sh_36, sh_37, sh_38, sh_39, sh_40, sh_41, sh_42, sh_43, sh_44, sh_45, sh_46, sh_47, sh_48, sh_49, sh_50, sh_51, sh_52, sh_53, sh_54, sh_55, sh_56, sh_57, sh_58, sh_59, sh_60, sh_61, sh_62, sh_63, sh_64, sh_65, sh_66, sh_67, sh_68, hl, hvw9, Nat.reduceLT, Nat.reduceAdd, Nat.reduceMul, ne_eq, Nat.reduceEqDiff, not_false_eq_true, or_true, true_or, or_false, false_or, and_true, true_and, and_self, Nat.reduceLeDiff, am_ci, am_cr, am_cn0, Option.toList_some, Option.toList_none, List.cons_append, List.nil_append, am_s0, am_s1, am_s1r, am_s2, am_s2r, am_s3r, nI_add, am_u_ne, am_u_at, am_u_n1, am_u_n2, am_w_ne, ↓reduceIte, d2, c1]
    refine c_stepC (d := d + 1) hR hN hn T (fun e hh I1 g1 f1 => ?_) (fun t1 hh I1 L1 g1 l1 T1 => ?_)
    · rw [hk0, hh] at hE
      simp only [am_lv_of, Option.toList_some, List.cons_append, List.nil_append, rX9_childTold_24, z0', ↓reduceIte, rX9_childTold_36, rX9_childTold_37_0]
      exact hE e rfl I1 L (fl_P g1) agN.refl f1
    · obtain ⟨ht, rfl⟩ := stE_inr hh
      rw [hk0, hh, erB_inr] at hE hS
      have F1 : sfC I1 (s_f s) := F.ag (fun j hj => g1 14 j (by omega))
      simp only [am_lv_of, Option.toList_some, List.cons_append, List.nil_append, rX9_childTold_24, z1, ↓reduceIte, rX9_childTold_27, rX9_childTold_28, rX9_childTold_30, ro_0_0 hR, ro_0_3 hR, ro_0_4 hR, ro_0_5 hR, ro_0_6 hR, ro_0_7 hR, ro_0_8 hR, ro_0_9 hR, ro_0_10 hR, ro_0_11 hR, ro_2_6 hR, ro_2_7 hR, ro_2_8 hR, ro_2_9 hR, ro_2_10 hR, ro_2_11 hR, ro_2_12 hR, ro_2_13 hR, ro_9_0 hR, ro_9_1 hR, ro_9_2 hR, ro_14_0 hR, ro_14_1 hR, ro_14_2 hR, ro_14_7 hR, ro_15_0 hR, ro_15_1 hR, ro_15_2 hR, ro_15_3 hR, ro_20_6 hR, ro_20_7 hR, ro_20_8 hR, ro_20_9 hR, ro_20_10 hR, ro_20_11 hR, ro_20_12 hR, ro_20_13 hR, ro_27_0 hR, ro_27_1 hR, ro_27_2 hR, ro_32_0 hR, ro_32_1 hR, ro_34_10 hR, ro_34_11 hR, ro_34_12 hR, ro_34_13 hR, ro_39_0 hR, ro_39_1 hR, ro_42_0 hR, ro_42_1 hR, ro_47_0 hR, ro_47_1 hR, ro_47_2 hR, ro_47_3 hR, ro_55_0 hR, ro_55_1 hR, ro_55_2 hR, ro_57_0 hR, ro_57_1 hR, ro_57_2 hR, ro_57_3 hR, ro_57_4 hR, ro_57_5 hR, ro_57_8 hR, sh_0, sh_1, sh_2, sh_3, sh_4, sh_5, sh_6, sh_7, sh_8, sh_9, sh_10, sh_11, sh_12, sh_13, sh_14, sh_15, sh_16, sh_17, sh_18, sh_19, sh_20, sh_21, sh_22, sh_23, sh_24, sh_25, sh_26, sh_27, sh_28, sh_29, sh_30, sh_31, sh_32, sh_33, sh_34, sh_35, sh_36, sh_37, sh_38, sh_39, sh_40, sh_41, sh_42, sh_43, sh_44, sh_45, sh_46, sh_47, sh_48, sh_49, sh_50, sh_51, sh_52, sh_53, sh_54, sh_55, sh_56, sh_57, sh_58, sh_59, sh_60, sh_61, sh_62, sh_63, sh_64, sh_65, sh_66, sh_67, sh_68, hl, hvw9, Nat.reduceLT, Nat.reduceAdd, Nat.reduceMul, ne_eq, Nat.reduceEqDiff, not_false_eq_true, or_true, true_or, or_false, false_or, and_true, true_and, and_self, Nat.reduceLeDiff, am_ci, am_cr, am_cn0, Option.toList_some, Option.toList_none, List.cons_append, List.nil_append, am_s0, am_s1, am_s1r, am_s2, am_s2r, am_s3r, nI_add, am_u_ne, am_u_at, am_u_n1, am_u_n2, am_w_ne]
      refine c_takeIntC (d := d) (most := 9) hR hN hn (by omega) T1 F1 (fun e hh I2 g2 f2 => ?_) (fun t2 hh I2 L2 g2 l2 T2 F2 v2 => ?_)
      · rw [hh] at hE
        simp only [am_lv_of, Option.toList_some, List.cons_append, List.nil_append, rX9_childTold_33, z0', not_true_eq_false, ↓reduceIte, rX9_childTold_36, rX9_childTold_37_0]
        exact hE e rfl I2 L1 ((st_P g1).trans (inF_P g2)) l1.N f2
      · obtain ⟨q1, q2, rfl⟩ := tkE_inr hh
        rw [hh, erB_inr] at hE hS
        have C7' : (s_C s).length < 7 := by omega
        have e2 : I2 20 2 = nI (s_C s).length := by rw [g2 20 2 (by unfold inF; omega), g1 20 2 (by omega)]; exact d2
        simp only [am_lv_of, Option.toList_some, List.cons_append, List.nil_append, rX9_childTold_33, z1, not_false_eq_true, ↓reduceIte, rX9_childTold_38, rX9_childTold_39, rX9_childTold_42, rX9_childTold_45, rX9_childTold_46, rX9_childTold_47, rX9_childTold_50, rX9_childTold_51, rX9_childTold_52, rX9_childTold_55, rX9_childTold_56, rX9_childTold_59, rX9_childTold_60, rX9_childTold_61, rX9_childTold_64, rX9_childTold_65, rX9_childTold_67, ro_0_0 hR, ro_0_3 hR, ro_0_4 hR, ro_0_5 hR, ro_0_6 hR, ro_0_7 hR, ro_0_8 hR, ro_0_9 hR, ro_0_10 hR, ro_0_11 hR, ro_2_6 hR, ro_2_7 hR, ro_2_8 hR, ro_2_9 hR, ro_2_10 hR, ro_2_11 hR, ro_2_12 hR, ro_2_13 hR, ro_9_0 hR, ro_9_1 hR, ro_9_2 hR, ro_14_0 hR, ro_14_1 hR, ro_14_2 hR, ro_14_7 hR, ro_15_0 hR, ro_15_1 hR, ro_15_2 hR, ro_15_3 hR, ro_20_6 hR, ro_20_7 hR, ro_20_8 hR, ro_20_9 hR, ro_20_10 hR, ro_20_11 hR, ro_20_12 hR, ro_20_13 hR, ro_27_0 hR, ro_27_1 hR, ro_27_2 hR, ro_32_0 hR, ro_32_1 hR, ro_34_10 hR, ro_34_11 hR, ro_34_12 hR, ro_34_13 hR, ro_39_0 hR, ro_39_1 hR, ro_42_0 hR, ro_42_1 hR, ro_47_0 hR, ro_47_1 hR, ro_47_2 hR, ro_47_3 hR, ro_55_0 hR, ro_55_1 hR, ro_55_2 hR, ro_57_0 hR, ro_57_1 hR, ro_57_2 hR, ro_57_3 hR, ro_57_4 hR, ro_57_5 hR, ro_57_8 hR, sh_0, sh_1, sh_2, sh_3, sh_4, sh_5, sh_6, sh_7, sh_8, sh_9, sh_10, sh_11, sh_12, sh_13, sh_14, sh_15, sh_16, sh_17, sh_18, sh_19, sh_20, sh_21, sh_22, sh_23, sh_24, sh_25, sh_26, sh_27, sh_28, sh_29, sh_30, sh_31, sh_32, sh_33, sh_34, sh_35, sh_36, sh_37, sh_38, sh_39, sh_40, sh_41, sh_42, sh_43, sh_44, sh_45, sh_46, sh_47, sh_48, sh_49, sh_50, sh_51, sh_52, sh_53, sh_54, sh_55, sh_56, sh_57, sh_58, sh_59, sh_60, sh_61, sh_62, sh_63, sh_64, sh_65, sh_66, sh_67, sh_68, hl, hvw9, Nat.reduceLT, Nat.reduceAdd, Nat.reduceMul, ne_eq, Nat.reduceEqDiff, not_false_eq_true, or_true, true_or, or_false, false_or, and_true, true_and, and_self, Nat.reduceLeDiff, am_ci, am_cr, am_cn0, Option.toList_some, Option.toList_none, List.cons_append, List.nil_append, am_s0, am_s1, am_s1r, am_s2, am_s2r, am_s3r, nI_add, am_u_ne, am_u_at, am_u_n1, am_u_n2, am_w_ne, hn, v2, e2, C7']
        have G2 : am_ag rdP I (am_u (am_u I2 26 (s_C s).length (nI (kV x (s_t s + 1)))) 20 2 (nI ((s_C s).length + 1))) := (((st_P g1).trans (inF_P g2)).u (by unfold rdP; omega)).u (by unfold rdP; omega)
        have T2' : rdT (am_u (am_u I2 26 (s_C s).length (nI (kV x (s_t s + 1)))) 20 2 (nI ((s_C s).length + 1))) L2 R x (s_t s + 1 + 1) := T2.fr (fun k j hk => by rw [am_u_n1 (by omega), am_u_n1 (by omega)])
        refine c_takeC (d := d) (c := 59) hR hN hn (by omega) T2' (fun e hh I3 g3 f3 => ?_) (fun t3 hh I3 L3 g3 l3 T3 => ?_)
        · rw [hh] at hE
          simp only [am_lv_of, Option.toList_some, List.cons_append, List.nil_append, rX9_childTold_70_0]
          exact hE e rfl I3 L2 (G2.trans (fl_P g3)) (l1.N.trans l2.N) f3
        · obtain ⟨q3, q4, rfl⟩ := tkE_inr hh
          rw [hh, erB_inr, erB_inr] at hS
          simp only [am_lv_of, Option.toList_some, List.cons_append, List.nil_append, rX9_childTold_70_1]
          have dr : ∀ k j, 19 ≤ k → k ≤ 31 → ¬ (k = 20 ∧ j = 2) → ¬ (k = 26 ∧ j = (s_C s).length) → I3 k j = I k j := fun k j h1 h2 h3 h4 => by
            rw [g3 k j (by omega)]
            have a2 : am_u (am_u I2 26 (s_C s).length (nI (kV x (s_t s + 1)))) 20 2 (nI ((s_C s).length + 1)) k j = I2 k j := by
              unfold am_u
              by_cases a : k = 20
              · have : ¬ j = 2 := fun z => h3 ⟨a, z⟩
                subst a; simp [this]
              · by_cases b : k = 26
                · have : ¬ j = (s_C s).length := fun z => h4 ⟨b, z⟩
                  subst b; simp [this]
                · simp [a, b]
            rw [a2, g2 k j (by unfold inF; omega), g1 k j (by omega)]
          have len : (s_C s ++ [kV x (s_t s + 1)]).length = (s_C s).length + 1 := by rw [List.length_append]; rfl
          refine hS _ rfl I3 L3 (G2.trans (st_P g3)) ((l1.N.trans l2.N).trans l3.N) ⟨T3, F2.ag (fun j hj => by rw [g3 14 j (by omega), am_u_n1 (by omega), am_u_n1 (by omega)]), H3.ag (fun k j hk => ?_) (fun j => by rw [l3 18 j (by omega), l2 18 j (by omega), l1 18 j (by omega)]) (Nat.le_refl _), H4, P5, S7, by show (s_C s ++ _).length ≤ 7; rw [len]; omega, ?_, ?_, ?_, ?_, ?_, ?_, fun i q hq => ?_, fun i q hq => ?_, fun i c hc => ?_, ?_⟩
          · rcases hk with ⟨rfl, rfl⟩ | rfl
            · rw [g3 14 3 (by omega), am_u_n1 (by omega), am_u_n1 (by omega), g2 14 3 (by unfold inF; omega), g1 14 3 (by omega)]
            · exact dr 19 j (by omega) (by omega) (by omega) (by omega)
          · rw [dr 20 0 (by omega) (by omega) (by omega) (by omega)]; exact d0
          · rw [dr 20 1 (by omega) (by omega) (by omega) (by omega)]; exact d1
          · show I3 20 2 = nI (s_C s ++ _).length
            rw [len, g3 20 2 (by omega), am_u_at]
          · rw [dr 20 3 (by omega) (by omega) (by omega) (by omega)]; exact d3
          · rw [dr 20 4 (by omega) (by omega) (by omega) (by omega)]; exact d4
          · rw [dr 20 5 (by omega) (by omega) (by omega) (by omega)]; exact d5
          · rw [dr 21 i (by omega) (by omega) (by omega) (by omega)]; exact dP i q hq
          · obtain ⟨b1, b2, b3, b4⟩ := dS i q hq
            refine ⟨fun hf => ?_, ?_, ?_, ?_⟩
            · rw [dr 22 i (by omega) (by omega) (by omega) (by omega)]
              exact b1 (nt_0 (by omega) hf).1
            · rw [dr 23 i (by omega) (by omega) (by omega) (by omega)]; exact b2
            · rw [dr 24 i (by omega) (by omega) (by omega) (by omega)]; exact b3
            · rw [dr 25 i (by omega) (by omega) (by omega) (by omega)]; exact b4
          · rcases getE_s hc with ⟨h1, h2⟩ | ⟨h1, h2⟩
            · rw [dr 26 i (by omega) (by omega) (by omega) (by omega)]; exact dC i c h2
            · rw [h1, h2, g3 26 _ (by omega), am_u_n1 (by omega), am_u_at]
          · exact dB.ag (show s_t s ≤ s_t s + 1 + 1 + 1 by omega) (fun k j h1 h2 => dr k j (by omega) (by omega) (by omega) (by omega))
theorem c_lawT {D kk : Nat} (hR : am_OR R) (hN : 116 ≤ n) (hn : n ≤ 1000) (hkk : kk < 3) (H : CS I L R x s) (hE : ∀ e, lawQ x kk s = .inl e → ∀ I' L', am_ag rdP I I' → agN L L' → flt I' x e → Q (some (.int (nI 0))) (n, I', L', R)) (hS : ∀ s', lawQ x kk s = .inr s' → ∀ I' L', am_ag rdP I I' → agN L L' → CS I' L' R x s' → Q (some (.int (nI 1))) (n, I', L', R)) : am_E X (D + 30) mX9_lawTold 0 [some (.ref 14), some (.int (nI kk)), none, none, none] [] (n, I, L, R) Q := by
  obtain ⟨T, F, H3, H4, P5, S7, C7, d0, d1, d2, d3, d4, d5, dP, dS, dC, z, zb, z27, zl⟩ := id H
  unfold lawQ at hE hS
  refine c_lawTold (D := D) hR hN hn hkk T z27 zb (fun e hh I' L' g l f => ?_) (fun t' acc e hh I' L' z' g l T' y1 y2 y3 y4 y5 y6 => ?_)
  · rw [hh] at hE
    exact hE e rfl I' L' (g.mono (fun k j z => by unfold lwG exG exF at z; unfold rdP; omega)) l.N f
  · rw [hh, erB_inr] at hS
    have gP : am_ag rdP I I' := g.mono (fun k j z => by unfold lwF exF at z; unfold rdP; omega)
    have dr : ∀ k j, k = 19 ∨ (20 ≤ k ∧ k ≤ 26) → I' k j = I k j := fun k j hk => g k j (by unfold lwF exF; omega)
    refine hS _ rfl I' L' gP l.N ⟨T', F.ag (fun j hj => g 14 j (by unfold lwF exF; omega)), H3.ag (fun k j hk => ?_) (fun j => l 18 j (by omega)) (Nat.le_refl _), H4, P5, S7, C7, ?_, ?_, ?_, ?_, ?_, ?_, fun i q hq => ?_, fun i q hq => ?_, fun i c hc => ?_, z', y1, y2, fun k hk => ?_⟩
    · rcases hk with ⟨rfl, rfl⟩ | rfl
      · exact g 14 3 (by unfold lwF exF; omega)
      · exact dr 19 j (by omega)
    · rw [dr 20 0 (by omega)]; exact d0
    · rw [dr 20 1 (by omega)]; exact d1
    · rw [dr 20 2 (by omega)]; exact d2
    · rw [dr 20 3 (by omega)]; exact d3
    · rw [dr 20 4 (by omega)]; exact d4
    · rw [dr 20 5 (by omega)]; exact d5
    · rw [dr 21 i (by omega)]; exact dP i q hq
    · rw [dr 22 i (by omega), dr 23 i (by omega), dr 24 i (by omega), dr 25 i (by omega)]; exact dS i q hq
    · rw [dr 26 i (by omega)]; exact dC i c hc
    · show ∃ fk, I' 29 k = nI fk ∧ cl_brs (m28 I') z' (lwOf k (if k = kk then some (acc, e) else s_l s k)).2 fk (lwOf k (if k = kk then some (acc, e) else s_l s k)).1
      by_cases ek : k = kk
      · subst ek
        rw [if_pos rfl]
        exact ⟨z, y6, y4⟩
      · rw [if_neg ek]
        obtain ⟨fk, a1, a2⟩ := zl k hk
        exact ⟨fk, by rw [g 29 k (by unfold lwF exF; omega)]; exact a1, cl_brs_sz y3 (fun j hj => y5 j hj) a2⟩
end RE
