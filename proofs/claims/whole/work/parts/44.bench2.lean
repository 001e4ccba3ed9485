--! 43
/-! THE CLASS: allows, verdictOn, votesOf -/
section CLE
variable {X : am_X} {d n : Nat} {I : Nat → Nat → Int32} {L : Nat → Nat → Int64} {R : Nat → Nat → Option Nat} {Q : Option Value → am_M → Prop} {σ : rfP}
theorem ag33 {I I' : Nat → Nat → Int32} (h : am_ag (fun k _ => k = 33) I I') : am_ag skc I I' := h.mono (fun k j z => Or.inl z)
theorem ag12_sk {I I' : Nat → Nat → Int32} (h : am_ag ag12 I I') : am_ag skc I I' := h.mono (fun k j z => Or.inr z)
theorem cMv_ne {w s : Nat} {r : Nat → Int32} (ho : ok_S σ) (hs : s < p_S σ) (h : psr w (p_P σ) r) (hst : rSt σ r s = true) : ¬ nI (cMv σ w s) = -1 := fun z => by
  have h1 := (h.mv ho hs hst).1
  have h2 : ¬ nI (cMv σ w s) < 0 := nI_pos (by omega)
  rw [z] at h2
  exact absurd h2 (by decide)
theorem c_allows {w s : Nat} {r : Nat → Int32} {side : Int32} (hR : am_OR R) (hN : 116 ≤ n) (hn : n ≤ 1000) (ho : ok_S σ) (H : cl_S I σ) (hs : s < p_S σ) (h : psr w (p_P σ) r) (hQ : ∀ I', am_ag skc I I' → Q (some (.int (bI (rMay σ r s side)))) (n, I', L, R)) : am_E X (d + 3) mX0_allows 0 [some (.ref 32), some (.int (nI w)), some (.int (r 16)), some (.int side), some (.int (nI s)), none] [] (n, I, L, R) Q := by
  have hl := am_lt hN
  have hvw9 := am_lw hN
  obtain ⟨g1, g2, g3, g4, sz, g5, g6, g7⟩ := id H
  obtain ⟨k1, k2, k3, k4⟩ := g4 s hs
  obtain ⟨o1, o2, o3, o4⟩ := id ho
  obtain ⟨a1, a2, a3, a4, a5⟩ := o4 s hs
  have hp5 : p_ow σ s < 5 := by omega
  have hs7 : s < 7 := by omega
  have hb1 : bI (isN (p_S σ) (nI s)) = nI 1 := by rw [isN_nI (by omega) (by omega)]; simp [hs, bI]
  have z1 : ¬ nI 1 = 0 := by decide
  have go : (p_sd σ s = nI 2 ∨ p_sd σ s = side) → am_E X (d + 3) mX0_allows 38 [some (.ref 32), some (.int (nI w)), some (.int (r 16)), some (.int side), some (.int (nI s)), some (.int (p_sd σ s))] [] (n, I, L, R) Q := by
    intro hsd
    simp only [am_lv_of, rX0_allows_38, rX0_allows_39, rX0_allows_42, rX0_allows_43, rX0_allows_45, rX0_allows_48, ro_0_0 hR, ro_0_3 hR, ro_0_4 hR, ro_0_5 hR, ro_0_6 hR, ro_0_7 hR, ro_0_8 hR, ro_0_9 hR, ro_0_10 hR, ro_0_11 hR, ro_2_6 hR, ro_2_7 hR, ro_2_8 hR, ro_2_9 hR, ro_2_10 hR, ro_2_11 hR, ro_2_12 hR, ro_2_13 hR, ro_9_0 hR, ro_9_1 hR, ro_9_2 hR, ro_14_0 hR, ro_14_1 hR, ro_14_2 hR, ro_14_7 hR, ro_15_0 hR, ro_15_1 hR, ro_15_2 hR, ro_15_3 hR, ro_20_6 hR, ro_20_7 hR, ro_20_8 hR, ro_20_9 hR, ro_20_10 hR, ro_20_11 hR, ro_20_12 hR, ro_20_13 hR, ro_27_0 hR, ro_27_1 hR, ro_27_2 hR, ro_32_0 hR, ro_32_1 hR, ro_34_10 hR, ro_34_11 hR, ro_34_12 hR, ro_34_13 hR, ro_39_0 hR, ro_39_1 hR, ro_42_0 hR, ro_42_1 hR, ro_47_0 hR, ro_47_1 hR, ro_47_2 hR, ro_47_3 hR, ro_55_0 hR, ro_55_1 hR, ro_55_2 hR, ro_57_0 hR, ro_57_1 hR, ro_57_2 hR, ro_57_3 hR, ro_57_4 hR, ro_57_5 hR, ro_57_8 hR, sh_0, sh_1, sh_2, sh_3, sh_4, sh_5, sh_6, sh_7, sh_8, sh_9, sh_10, sh_11, sh_12, sh_13, sh_14, sh_15, sh_16, sh_17, sh_18, sh_19, sh_20, sh_21, sh_22, sh_23, sh_24, sh_25, sh_26, sh_27, sh_28, sh_29, sh_30, sh_31, sh_32, sh_33, sh_34, sh_35, sh_36, sh_37, sh_38, sh_39, sh_40, sh_41, sh_42, sh_43, sh_44, sh_45, sh_46, sh_47, sh_48, sh_49, sh_50, sh_51, sh_52, sh_53, sh_54, sh_55, sh_56, sh_57, sh_58, sh_59, sh_60, sh_61, sh_62, sh_63, sh_64, sh_65, sh_66, sh_67, sh_68, hl, hvw9, Nat.reduceLT, Nat.reduceAdd, Nat.reduceMul, ne_eq, Nat.reduceEqDiff, not_false_eq_true, or_true, true_or, or_false, false_or, and_true, true_and, and_self, Nat.reduceLeDiff, am_ci, am_cr, am_cn0, Option.toList_some, Option.toList_none, List.cons_append, List.nil_append, am_s0, am_s1, am_s1r, am_s2, am_s2r, am_s3r, nI_add, am_u_ne, am_u_at, am_u_n1, am_u_n2, am_w_ne, c_moved hR hN hn ho H hs h]
    by_cases hst : rSt σ r s = true
    · have hne := cMv_ne ho hs h hst
      simp only [am_lv_of, if_pos hst, rX0_allows_49, rX0_allows_52, rX0_allows_53, rX0_allows_53_0, rX0_allows_53_1, rX0_allows_54, rX0_allows_55, rX0_allows_56, rX0_allows_57, ro_0_0 hR, ro_0_3 hR, ro_0_4 hR, ro_0_5 hR, ro_0_6 hR, ro_0_7 hR, ro_0_8 hR, ro_0_9 hR, ro_0_10 hR, ro_0_11 hR, ro_2_6 hR, ro_2_7 hR, ro_2_8 hR, ro_2_9 hR, ro_2_10 hR, ro_2_11 hR, ro_2_12 hR, ro_2_13 hR, ro_9_0 hR, ro_9_1 hR, ro_9_2 hR, ro_14_0 hR, ro_14_1 hR, ro_14_2 hR, ro_14_7 hR, ro_15_0 hR, ro_15_1 hR, ro_15_2 hR, ro_15_3 hR, ro_20_6 hR, ro_20_7 hR, ro_20_8 hR, ro_20_9 hR, ro_20_10 hR, ro_20_11 hR, ro_20_12 hR, ro_20_13 hR, ro_27_0 hR, ro_27_1 hR, ro_27_2 hR, ro_32_0 hR, ro_32_1 hR, ro_34_10 hR, ro_34_11 hR, ro_34_12 hR, ro_34_13 hR, ro_39_0 hR, ro_39_1 hR, ro_42_0 hR, ro_42_1 hR, ro_47_0 hR, ro_47_1 hR, ro_47_2 hR, ro_47_3 hR, ro_55_0 hR, ro_55_1 hR, ro_55_2 hR, ro_57_0 hR, ro_57_1 hR, ro_57_2 hR, ro_57_3 hR, ro_57_4 hR, ro_57_5 hR, ro_57_8 hR, sh_0, sh_1, sh_2, sh_3, sh_4, sh_5, sh_6, sh_7, sh_8, sh_9, sh_10, sh_11, sh_12, sh_13, sh_14, sh_15, sh_16, sh_17, sh_18, sh_19, sh_20, sh_21, sh_22, sh_23, sh_24, sh_25, sh_26, sh_27, sh_28, sh_29, sh_30, sh_31, sh_32, sh_33, sh_34, sh_35, sh_36, sh_37, sh_38, sh_39, sh_40, sh_41, sh_42, sh_43, sh_44, sh_45, sh_46, sh_47, sh_48, sh_49, sh_50, sh_51, sh_52, sh_53, sh_54, sh_55, sh_56, sh_57, sh_58, sh_59, sh_60, sh_61, sh_62, sh_63, sh_64, sh_65, sh_66, sh_67, sh_68, hl, hvw9, Nat.reduceLT, Nat.reduceAdd, Nat.reduceMul, ne_eq, Nat.reduceEqDiff, not_false_eq_true, or_true, true_or, or_false, false_or, and_true, true_and, and_self, Nat.reduceLeDiff, am_ci, am_cr, am_cn0, Option.toList_some, Option.toList_none, List.cons_append, List.nil_append, am_s0, am_s1, am_s1r, am_s2, am_s2r, am_s3r, nI_add, am_u_ne, am_u_at, am_u_n1, am_u_n2, am_w_ne, if_pos hne]
      refine c_set hR hN hn h.1 g1 o1 (fun I1 e1 e2 => ?_)
      have f4 : I1 4 s = nI (p_ow σ s) := by rw [e1 4 _ (by omega)]; exact k1
      have hnI : nI (xw w (p_ow σ s)) = r (p_ow σ s) := ((h.2.1 _ hp5).1).symm
      simp only [am_lv_of, rX0_allows_60, rX0_allows_61, rX0_allows_64, rX0_allows_65, rX0_allows_66, rX0_allows_67, rX0_allows_68, rX0_allows_71, rX0_allows_73, rX0_allows_75, rX0_allows_76, rX0_allows_77, rX0_allows_80, rX0_allows_82, rX0_allows_83, rX0_allows_84, rX0_allows_87, rX0_allows_90, rX0_allows_92, rX0_allows_93, rX0_allows_96, rX0_allows_97, rX0_allows_98, rX0_allows_101, rX0_allows_104, rX0_allows_105, rX0_allows_106, rX0_allows_109, ro_0_0 hR, ro_0_3 hR, ro_0_4 hR, ro_0_5 hR, ro_0_6 hR, ro_0_7 hR, ro_0_8 hR, ro_0_9 hR, ro_0_10 hR, ro_0_11 hR, ro_2_6 hR, ro_2_7 hR, ro_2_8 hR, ro_2_9 hR, ro_2_10 hR, ro_2_11 hR, ro_2_12 hR, ro_2_13 hR, ro_9_0 hR, ro_9_1 hR, ro_9_2 hR, ro_14_0 hR, ro_14_1 hR, ro_14_2 hR, ro_14_7 hR, ro_15_0 hR, ro_15_1 hR, ro_15_2 hR, ro_15_3 hR, ro_20_6 hR, ro_20_7 hR, ro_20_8 hR, ro_20_9 hR, ro_20_10 hR, ro_20_11 hR, ro_20_12 hR, ro_20_13 hR, ro_27_0 hR, ro_27_1 hR, ro_27_2 hR, ro_32_0 hR, ro_32_1 hR, ro_34_10 hR, ro_34_11 hR, ro_34_12 hR, ro_34_13 hR, ro_39_0 hR, ro_39_1 hR, ro_42_0 hR, ro_42_1 hR, ro_47_0 hR, ro_47_1 hR, ro_47_2 hR, ro_47_3 hR, ro_55_0 hR, ro_55_1 hR, ro_55_2 hR, ro_57_0 hR, ro_57_1 hR, ro_57_2 hR, ro_57_3 hR, ro_57_4 hR, ro_57_5 hR, ro_57_8 hR, sh_0, sh_1, sh_2, sh_3, sh_4, sh_5, sh_6, sh_7, sh_8, sh_9, sh_10, sh_11, sh_12, sh_13, sh_14, sh_15, sh_16, sh_17, sh_18, sh_19, sh_20, sh_21, sh_22, sh_23, sh_24, sh_25, sh_26, sh_27, sh_28, sh_29, sh_30, sh_31, sh_32, sh_33, sh_34, sh_35, sh_36, sh_37, sh_38, sh_39, sh_40, sh_41, sh_42, sh_43, sh_44, sh_45, sh_46, sh_47, sh_48, sh_49, sh_50, sh_51, sh_52, sh_53, sh_54, sh_55, sh_56, sh_57, sh_58, sh_59, sh_60, sh_61, sh_62, sh_63, sh_64, sh_65, sh_66, sh_67, sh_68, hl, hvw9, Nat.reduceLT, Nat.reduceAdd, Nat.reduceMul, ne_eq, Nat.reduceEqDiff, not_false_eq_true, or_true, true_or, or_false, false_or, and_true, true_and, and_self, Nat.reduceLeDiff, am_ci, am_cr, am_cn0, Option.toList_some, Option.toList_none, List.cons_append, List.nil_append, am_s0, am_s1, am_s1r, am_s2, am_s2r, am_s3r, nI_add, am_u_ne, am_u_at, am_u_n1, am_u_n2, am_w_ne, hn, hs7, f4, c_xOf h.1 hp5]
      have hag : am_ag (fun k _ => k = 33) I (am_u (am_u (am_u I1 33 4 side) 33 7 (nI s)) 33 8 (nI (xw w (p_ow σ s)))) := ((e1.u rfl).u rfl).u rfl
      have H2 := H.sk (ag33 hag)
      have f9 : (am_u (am_u (am_u I1 33 4 side) 33 7 (nI s)) 33 8 (nI (xw w (p_ow σ s)))) 9 3 = nI sz := by rw [hag 9 3 (by omega)]; exact g6
      obtain ⟨f, l1, l2⟩ := g7 0 (by omega)
      have l3 : cl_law (am_u (am_u (am_u I1 33 4 side) 33 7 (nI s)) 33 8 (nI (xw w (p_ow σ s)))) sz 0 (p_lw σ 0) := ⟨f, by rw [hag 11 0 (by omega)]; exact l1, cl_brs_mv' (fun j => hag 10 j (by omega)) l2⟩
      refine c_valueOf (vars := vOrd σ r s side) hR hN hn (by omega) f9 g5 l3 (fun v hv => ?_) (fun I2 e3 => ?_)
      · unfold vOrd
        by_cases e8 : v = 8
        · subst e8; rw [if_pos rfl, am_u_at]; exact hnI
        · rw [if_neg e8, am_u_n2 e8]
          by_cases e7 : v = 7
          · subst e7; rw [if_pos rfl, am_u_at]
          · rw [if_neg e7, am_u_n2 e7]
            by_cases e4 : v = 4
            · subst e4; rw [if_pos rfl, am_u_at]
            · rw [if_neg e4, am_u_n2 e4, e2 v hv]; exact h.v o1
      · have hq := hQ I2 ((ag33 hag).trans (ag12_sk e3))
        have hm : rMay σ r s side = decide (0 < lawO (vOrd σ r s side) (nI 1) (p_lw σ 0)) := by
          unfold rMay
          rw [hst]
          rcases hsd with z | z <;> simp [z]
        rw [hm] at hq
        have hpl : nI (plainN 0) = nI 1 := rfl
        simp only [am_lv_of, Option.toList_some, List.cons_append, List.nil_append, rX0_allows_112, hpl]
        by_cases hp : 0 < lawO (vOrd σ r s side) (nI 1) (p_lw σ 0)
        · have hnp : ¬ lawO (vOrd σ r s side) (nI 1) (p_lw σ 0) ≤ 0 := Int32.not_le.mpr hp
          simp only [am_lv_of, if_neg hnp, rX0_allows_115, rX0_allows_116, rX0_allows_119, rX0_allows_120_1, hl, hvw9, Nat.reduceLT, Nat.reduceAdd, Nat.reduceMul, ne_eq, Nat.reduceEqDiff, not_false_eq_true, or_true, true_or, or_false, false_or, and_true, true_and, and_self, Nat.reduceLeDiff, am_ci, am_cr, am_cn0, Option.toList_some, Option.toList_none, List.cons_append, List.nil_append, am_s0, am_s1, am_s1r, am_s2, am_s2r, am_s3r, nI_add, am_u_ne, am_u_at, am_u_n1, am_u_n2, am_w_ne]
          simpa [hp, bI] using hq
        · have hnp : lawO (vOrd σ r s side) (nI 1) (p_lw σ 0) ≤ 0 := Int32.not_lt.mp hp
          simp only [am_lv_of, if_pos hnp, rX0_allows_115, rX0_allows_116, rX0_allows_119, rX0_allows_120_0, hl, hvw9, Nat.reduceLT, Nat.reduceAdd, Nat.reduceMul, ne_eq, Nat.reduceEqDiff, not_false_eq_true, or_true, true_or, or_false, false_or, and_true, true_and, and_self, Nat.reduceLeDiff, am_ci, am_cr, am_cn0, Option.toList_some, Option.toList_none, List.cons_append, List.nil_append, am_s0, am_s1, am_s1r, am_s2, am_s2r, am_s3r, nI_add, am_u_ne, am_u_at, am_u_n1, am_u_n2, am_w_ne]
          simpa [hp, bI] using hq
    · simp only [am_lv_of, if_neg hst, rX0_allows_49, rX0_allows_52, rX0_allows_53_0, ro_0_0 hR, ro_0_3 hR, ro_0_4 hR, ro_0_5 hR, ro_0_6 hR, ro_0_7 hR, ro_0_8 hR, ro_0_9 hR, ro_0_10 hR, ro_0_11 hR, ro_2_6 hR, ro_2_7 hR, ro_2_8 hR, ro_2_9 hR, ro_2_10 hR, ro_2_11 hR, ro_2_12 hR, ro_2_13 hR, ro_9_0 hR, ro_9_1 hR, ro_9_2 hR, ro_14_0 hR, ro_14_1 hR, ro_14_2 hR, ro_14_7 hR, ro_15_0 hR, ro_15_1 hR, ro_15_2 hR, ro_15_3 hR, ro_20_6 hR, ro_20_7 hR, ro_20_8 hR, ro_20_9 hR, ro_20_10 hR, ro_20_11 hR, ro_20_12 hR, ro_20_13 hR, ro_27_0 hR, ro_27_1 hR, ro_27_2 hR, ro_32_0 hR, ro_32_1 hR, ro_34_10 hR, ro_34_11 hR, ro_34_12 hR, ro_34_13 hR, ro_39_0 hR, ro_39_1 hR, ro_42_0 hR, ro_42_1 hR, ro_47_0 hR, ro_47_1 hR, ro_47_2 hR, ro_47_3 hR, ro_55_0 hR, ro_55_1 hR, ro_55_2 hR, ro_57_0 hR, ro_57_1 hR, ro_57_2 hR, ro_57_3 hR, ro_57_4 hR, ro_57_5 hR, ro_57_8 hR, sh_0, sh_1, sh_2, sh_3, sh_4, sh_5, sh_6, sh_7, sh_8, sh_9, sh_10, sh_11, sh_12, sh_13, sh_14, sh_15, sh_16, sh_17, sh_18, sh_19, sh_20, sh_21, sh_22, sh_23, sh_24, sh_25, sh_26, sh_27, sh_28, sh_29, sh_30, sh_31, sh_32, sh_33, sh_34, sh_35, sh_36, sh_37, sh_38, sh_39, sh_40, sh_41, sh_42, sh_43, sh_44, sh_45, sh_46, sh_47, sh_48, sh_49, sh_50, sh_51, sh_52, sh_53, sh_54, sh_55, sh_56, sh_57, sh_58, sh_59, sh_60, sh_61, sh_62, sh_63, sh_64, sh_65, sh_66, sh_67, sh_68, hl, hvw9, Nat.reduceLT, Nat.reduceAdd, Nat.reduceMul, ne_eq, Nat.reduceEqDiff, not_false_eq_true, or_true, true_or, or_false, false_or, and_true, true_and, and_self, Nat.reduceLeDiff, am_ci, am_cr, am_cn0, Option.toList_some, Option.toList_none, List.cons_append, List.nil_append, am_s0, am_s1, am_s1r, am_s2, am_s2r, am_s3r, nI_add, am_u_ne, am_u_at, am_u_n1, am_u_n2, am_w_ne]
      have := hQ I am_ag.refl
      simpa [rMay, hst, bI] using this
  simp only [am_lv_of, rX0_allows_0, rX0_allows_1, rX0_allows_4, rX0_allows_6, rX0_allows_9, rX0_allows_12, rX0_allows_13, rX0_allows_13_0, rX0_allows_13_1, rX0_allows_14, rX0_allows_15, rX0_allows_18, rX0_allows_21, rX0_allows_23, rX0_allows_24, rX0_allows_26, rX0_allows_28, ro_0_0 hR, ro_0_3 hR, ro_0_4 hR, ro_0_5 hR, ro_0_6 hR, ro_0_7 hR, ro_0_8 hR, ro_0_9 hR, ro_0_10 hR, ro_0_11 hR, ro_2_6 hR, ro_2_7 hR, ro_2_8 hR, ro_2_9 hR, ro_2_10 hR, ro_2_11 hR, ro_2_12 hR, ro_2_13 hR, ro_9_0 hR, ro_9_1 hR, ro_9_2 hR, ro_14_0 hR, ro_14_1 hR, ro_14_2 hR, ro_14_7 hR, ro_15_0 hR, ro_15_1 hR, ro_15_2 hR, ro_15_3 hR, ro_20_6 hR, ro_20_7 hR, ro_20_8 hR, ro_20_9 hR, ro_20_10 hR, ro_20_11 hR, ro_20_12 hR, ro_20_13 hR, ro_27_0 hR, ro_27_1 hR, ro_27_2 hR, ro_32_0 hR, ro_32_1 hR, ro_34_10 hR, ro_34_11 hR, ro_34_12 hR, ro_34_13 hR, ro_39_0 hR, ro_39_1 hR, ro_42_0 hR, ro_42_1 hR, ro_47_0 hR, ro_47_1 hR, ro_47_2 hR, ro_47_3 hR, ro_55_0 hR, ro_55_1 hR, ro_55_2 hR, ro_57_0 hR, ro_57_1 hR, ro_57_2 hR, ro_57_3 hR, ro_57_4 hR, ro_57_5 hR, ro_57_8 hR, sh_0, sh_1, sh_2, sh_3, sh_4, sh_5, sh_6, sh_7, sh_8, sh_9, sh_10, sh_11, sh_12, sh_13, sh_14, sh_15, sh_16, sh_17, sh_18, sh_19, sh_20, sh_21, sh_22, sh_23, sh_24, sh_25, sh_26, sh_27, sh_28, sh_29, sh_30, sh_31, sh_32, sh_33, sh_34, sh_35, sh_36, sh_37, sh_38, sh_39, sh_40, sh_41, sh_42, sh_43, sh_44, sh_45, sh_46, sh_47, sh_48, sh_49, sh_50, sh_51, sh_52, sh_53, sh_54, sh_55, sh_56, sh_57, sh_58, sh_59, sh_60, sh_61, sh_62, sh_63, sh_64, sh_65, sh_66, sh_67, sh_68, hl, hvw9, Nat.reduceLT, Nat.reduceAdd, Nat.reduceMul, ne_eq, Nat.reduceEqDiff, not_false_eq_true, or_true, true_or, or_false, false_or, and_true, true_and, and_self, Nat.reduceLeDiff, am_ci, am_cr, am_cn0, Option.toList_some, Option.toList_none, List.cons_append, List.nil_append, am_s0, am_s1, am_s1r, am_s2, am_s2r, am_s3r, nI_add, am_u_ne, am_u_at, am_u_n1, am_u_n2, am_w_ne, c_hasString hN g2 o2, hb1, if_pos z1, hs7, k3]
  by_cases c2 : p_sd σ s = side
  · simp only [am_lv_of, rX0_allows_29, if_pos c2]
    exact go (Or.inr c2)
  · simp only [am_lv_of, rX0_allows_29, rX0_allows_32, rX0_allows_34, rX0_allows_35, ro_0_0 hR, ro_0_3 hR, ro_0_4 hR, ro_0_5 hR, ro_0_6 hR, ro_0_7 hR, ro_0_8 hR, ro_0_9 hR, ro_0_10 hR, ro_0_11 hR, ro_2_6 hR, ro_2_7 hR, ro_2_8 hR, ro_2_9 hR, ro_2_10 hR, ro_2_11 hR, ro_2_12 hR, ro_2_13 hR, ro_9_0 hR, ro_9_1 hR, ro_9_2 hR, ro_14_0 hR, ro_14_1 hR, ro_14_2 hR, ro_14_7 hR, ro_15_0 hR, ro_15_1 hR, ro_15_2 hR, ro_15_3 hR, ro_20_6 hR, ro_20_7 hR, ro_20_8 hR, ro_20_9 hR, ro_20_10 hR, ro_20_11 hR, ro_20_12 hR, ro_20_13 hR, ro_27_0 hR, ro_27_1 hR, ro_27_2 hR, ro_32_0 hR, ro_32_1 hR, ro_34_10 hR, ro_34_11 hR, ro_34_12 hR, ro_34_13 hR, ro_39_0 hR, ro_39_1 hR, ro_42_0 hR, ro_42_1 hR, ro_47_0 hR, ro_47_1 hR, ro_47_2 hR, ro_47_3 hR, ro_55_0 hR, ro_55_1 hR, ro_55_2 hR, ro_57_0 hR, ro_57_1 hR, ro_57_2 hR, ro_57_3 hR, ro_57_4 hR, ro_57_5 hR, ro_57_8 hR, sh_0, sh_1, sh_2, sh_3, sh_4, sh_5, sh_6, sh_7, sh_8, sh_9, sh_10, sh_11, sh_12, sh_13, sh_14, sh_15, sh_16, sh_17, sh_18, sh_19, sh_20, sh_21, sh_22, sh_23, sh_24, sh_25, sh_26, sh_27, sh_28, sh_29, sh_30, sh_31, sh_32, sh_33, sh_34, sh_35, sh_36, sh_37, sh_38, sh_39, sh_40, sh_41, sh_42, sh_43, sh_44, sh_45, sh_46, sh_47, sh_48, sh_49, sh_50, sh_51, sh_52, sh_53, sh_54, sh_55, sh_56, sh_57, sh_58, sh_59, sh_60, sh_61, sh_62, sh_63, sh_64, sh_65, sh_66, sh_67, sh_68, hl, hvw9, Nat.reduceLT, Nat.reduceAdd, Nat.reduceMul, ne_eq, Nat.reduceEqDiff, not_false_eq_true, or_true, true_or, or_false, false_or, and_true, true_and, and_self, Nat.reduceLeDiff, am_ci, am_cr, am_cn0, Option.toList_some, Option.toList_none, List.cons_append, List.nil_append, am_s0, am_s1, am_s1r, am_s2, am_s2r, am_s3r, nI_add, am_u_ne, am_u_at, am_u_n1, am_u_n2, am_w_ne, if_neg c2]
    by_cases c1 : p_sd σ s = nI 2
    · simp only [c1, not_true_eq_false, if_false]
      rw [← c1]
      exact go (Or.inl c1)
    · simp only [am_lv_of, if_pos c1, rX0_allows_52, rX0_allows_53_0, ro_0_0 hR, ro_0_3 hR, ro_0_4 hR, ro_0_5 hR, ro_0_6 hR, ro_0_7 hR, ro_0_8 hR, ro_0_9 hR, ro_0_10 hR, ro_0_11 hR, ro_2_6 hR, ro_2_7 hR, ro_2_8 hR, ro_2_9 hR, ro_2_10 hR, ro_2_11 hR, ro_2_12 hR, ro_2_13 hR, ro_9_0 hR, ro_9_1 hR, ro_9_2 hR, ro_14_0 hR, ro_14_1 hR, ro_14_2 hR, ro_14_7 hR, ro_15_0 hR, ro_15_1 hR, ro_15_2 hR, ro_15_3 hR, ro_20_6 hR, ro_20_7 hR, ro_20_8 hR, ro_20_9 hR, ro_20_10 hR, ro_20_11 hR, ro_20_12 hR, ro_20_13 hR, ro_27_0 hR, ro_27_1 hR, ro_27_2 hR, ro_32_0 hR, ro_32_1 hR, ro_34_10 hR, ro_34_11 hR, ro_34_12 hR, ro_34_13 hR, ro_39_0 hR, ro_39_1 hR, ro_42_0 hR, ro_42_1 hR, ro_47_0 hR, ro_47_1 hR, ro_47_2 hR, ro_47_3 hR, ro_55_0 hR, ro_55_1 hR, ro_55_2 hR, ro_57_0 hR, ro_57_1 hR, ro_57_2 hR, ro_57_3 hR, ro_57_4 hR, ro_57_5 hR, ro_57_8 hR, sh_0, sh_1, sh_2, sh_3, sh_4, sh_5, sh_6, sh_7, sh_8, sh_9, sh_10, sh_11, sh_12, sh_13, sh_14, sh_15, sh_16, sh_17, sh_18, sh_19, sh_20, sh_21, sh_22, sh_23, sh_24, sh_25, sh_26, sh_27, sh_28, sh_29, sh_30, sh_31, sh_32, sh_33, sh_34, sh_35, sh_36, sh_37, sh_38, sh_39, sh_40, sh_41, sh_42, sh_43, sh_44, sh_45, sh_46, sh_47, sh_48, sh_49, sh_50, sh_51, sh_52, sh_53, sh_54, sh_55, sh_56, sh_57, sh_58, sh_59, sh_60, sh_61, sh_62, sh_63, sh_64, sh_65, sh_66, sh_67, sh_68, hl, hvw9, Nat.reduceLT, Nat.reduceAdd, Nat.reduceMul, ne_eq, Nat.reduceEqDiff, not_false_eq_true, or_true, true_or, or_false, false_or, and_true, true_and, and_self, Nat.reduceLeDiff, am_ci, am_cr, am_cn0, Option.toList_some, Option.toList_none, List.cons_append, List.nil_append, am_s0, am_s1, am_s1r, am_s2, am_s2r, am_s3r, nI_add, am_u_ne, am_u_at, am_u_n1, am_u_n2, am_w_ne]
      have := hQ I am_ag.refl
      simpa [rMay, c1, c2, bI] using this
theorem rV_16 {r r' : Nat → Int32} {P : Nat} (h : ∀ p, p < 17 → r p = r' p) (hP : P ≤ 5) {j : Nat} : rV r P j = rV r' P j := by
  unfold rV rAp rNd
  rw [tg_congr (g := r') (fun q hq => h q (by omega)), h 0 (by omega), h 1 (by omega), h 5 (by omega), h 6 (by omega), h 7 (by omega), h 8 (by omega), h 9 (by omega), h 12 (by omega), h 16 (by omega)]
theorem c_verdictOn {w : Nat} {r : Nat → Int32} (hR : am_OR R) (hN : 116 ≤ n) (hn : n ≤ 1000) (ho : ok_S σ) (H : cl_S I σ) (h : psr w (p_P σ) r) (hQ : ∀ I', am_ag skc I I' → Q (some (.int (rVerd σ r))) (n, I', L, R)) : am_E X (d + 3) mX0_verdictOn 0 [some (.ref 32), some (.int (nI w)), some (.int (r 16)), none] [] (n, I, L, R) Q := by
  have hl := am_lt hN
  have hvw9 := am_lw hN
  obtain ⟨g1, g2, g3, g4, sz, g5, g6, g7⟩ := id H
  obtain ⟨o1, o2, o3, o4⟩ := id ho
  simp only [am_lv_of, rX0_verdictOn_0, rX0_verdictOn_1, rX0_verdictOn_2, rX0_verdictOn_3, ro_0_0 hR, ro_0_3 hR, ro_0_4 hR, ro_0_5 hR, ro_0_6 hR, ro_0_7 hR, ro_0_8 hR, ro_0_9 hR, ro_0_10 hR, ro_0_11 hR, ro_2_6 hR, ro_2_7 hR, ro_2_8 hR, ro_2_9 hR, ro_2_10 hR, ro_2_11 hR, ro_2_12 hR, ro_2_13 hR, ro_9_0 hR, ro_9_1 hR, ro_9_2 hR, ro_14_0 hR, ro_14_1 hR, ro_14_2 hR, ro_14_7 hR, ro_15_0 hR, ro_15_1 hR, ro_15_2 hR, ro_15_3 hR, ro_20_6 hR, ro_20_7 hR, ro_20_8 hR, ro_20_9 hR, ro_20_10 hR, ro_20_11 hR, ro_20_12 hR, ro_20_13 hR, ro_27_0 hR, ro_27_1 hR, ro_27_2 hR, ro_32_0 hR, ro_32_1 hR, ro_34_10 hR, ro_34_11 hR, ro_34_12 hR, ro_34_13 hR, ro_39_0 hR, ro_39_1 hR, ro_42_0 hR, ro_42_1 hR, ro_47_0 hR, ro_47_1 hR, ro_47_2 hR, ro_47_3 hR, ro_55_0 hR, ro_55_1 hR, ro_55_2 hR, ro_57_0 hR, ro_57_1 hR, ro_57_2 hR, ro_57_3 hR, ro_57_4 hR, ro_57_5 hR, ro_57_8 hR, sh_0, sh_1, sh_2, sh_3, sh_4, sh_5, sh_6, sh_7, sh_8, sh_9, sh_10, sh_11, sh_12, sh_13, sh_14, sh_15, sh_16, sh_17, sh_18, sh_19, sh_20, sh_21, sh_22, sh_23, sh_24, sh_25, sh_26, sh_27, sh_28, sh_29, sh_30, sh_31, sh_32, sh_33, sh_34, sh_35, sh_36, sh_37, sh_38, sh_39, sh_40, sh_41, sh_42, sh_43, sh_44, sh_45, sh_46, sh_47, sh_48, sh_49, sh_50, sh_51, sh_52, sh_53, sh_54, sh_55, sh_56, sh_57, sh_58, sh_59, sh_60, sh_61, sh_62, sh_63, sh_64, sh_65, sh_66, sh_67, sh_68, hl, hvw9, Nat.reduceLT, Nat.reduceAdd, Nat.reduceMul, ne_eq, Nat.reduceEqDiff, not_false_eq_true, or_true, true_or, or_false, false_or, and_true, true_and, and_self, Nat.reduceLeDiff, am_ci, am_cr, am_cn0, Option.toList_some, Option.toList_none, List.cons_append, List.nil_append, am_s0, am_s1, am_s1r, am_s2, am_s2r, am_s3r, nI_add, am_u_ne, am_u_at, am_u_n1, am_u_n2, am_w_ne]
  refine c_set hR hN hn h.1 g1 o1 (fun I1 e1 e2 => ?_)
  simp only [am_lv_of, rX0_verdictOn_6, rX0_verdictOn_7, rX0_verdictOn_10, rX0_verdictOn_13, rX0_verdictOn_14, rX0_verdictOn_15, rX0_verdictOn_18, ro_0_0 hR, ro_0_3 hR, ro_0_4 hR, ro_0_5 hR, ro_0_6 hR, ro_0_7 hR, ro_0_8 hR, ro_0_9 hR, ro_0_10 hR, ro_0_11 hR, ro_2_6 hR, ro_2_7 hR, ro_2_8 hR, ro_2_9 hR, ro_2_10 hR, ro_2_11 hR, ro_2_12 hR, ro_2_13 hR, ro_9_0 hR, ro_9_1 hR, ro_9_2 hR, ro_14_0 hR, ro_14_1 hR, ro_14_2 hR, ro_14_7 hR, ro_15_0 hR, ro_15_1 hR, ro_15_2 hR, ro_15_3 hR, ro_20_6 hR, ro_20_7 hR, ro_20_8 hR, ro_20_9 hR, ro_20_10 hR, ro_20_11 hR, ro_20_12 hR, ro_20_13 hR, ro_27_0 hR, ro_27_1 hR, ro_27_2 hR, ro_32_0 hR, ro_32_1 hR, ro_34_10 hR, ro_34_11 hR, ro_34_12 hR, ro_34_13 hR, ro_39_0 hR, ro_39_1 hR, ro_42_0 hR, ro_42_1 hR, ro_47_0 hR, ro_47_1 hR, ro_47_2 hR, ro_47_3 hR, ro_55_0 hR, ro_55_1 hR, ro_55_2 hR, ro_57_0 hR, ro_57_1 hR, ro_57_2 hR, ro_57_3 hR, ro_57_4 hR, ro_57_5 hR, ro_57_8 hR, sh_0, sh_1, sh_2, sh_3, sh_4, sh_5, sh_6, sh_7, sh_8, sh_9, sh_10, sh_11, sh_12, sh_13, sh_14, sh_15, sh_16, sh_17, sh_18, sh_19, sh_20, sh_21, sh_22, sh_23, sh_24, sh_25, sh_26, sh_27, sh_28, sh_29, sh_30, sh_31, sh_32, sh_33, sh_34, sh_35, sh_36, sh_37, sh_38, sh_39, sh_40, sh_41, sh_42, sh_43, sh_44, sh_45, sh_46, sh_47, sh_48, sh_49, sh_50, sh_51, sh_52, sh_53, sh_54, sh_55, sh_56, sh_57, sh_58, sh_59, sh_60, sh_61, sh_62, sh_63, sh_64, sh_65, sh_66, sh_67, sh_68, hl, hvw9, Nat.reduceLT, Nat.reduceAdd, Nat.reduceMul, ne_eq, Nat.reduceEqDiff, not_false_eq_true, or_true, true_or, or_false, false_or, and_true, true_and, and_self, Nat.reduceLeDiff, am_ci, am_cr, am_cn0, Option.toList_some, Option.toList_none, List.cons_append, List.nil_append, am_s0, am_s1, am_s1r, am_s2, am_s2r, am_s3r, nI_add, am_u_ne, am_u_at, am_u_n1, am_u_n2, am_w_ne]
  have f9 : I1 9 3 = nI sz := by rw [e1 9 3 (by omega)]; exact g6
  obtain ⟨f, l1, l2⟩ := g7 1 (by omega)
  have l3 : cl_law I1 sz 1 (p_lw σ 1) := ⟨f, by rw [e1 11 1 (by omega)]; exact l1, cl_brs_mv' (fun j => e1 10 j (by omega)) l2⟩
  refine c_valueOf (vars := rV r (p_P σ)) hR hN hn (by omega) f9 g5 l3 (fun v hv => by rw [e2 v hv]; exact h.v o1) (fun I2 e3 => ?_)
  have hq := hQ I2 ((ag33 e1).trans (ag12_sk e3))
  have hpl : nI (plainN 1) = nI 0 := rfl
  have d3 : ¬ nI 3 = 0 := by decide
  unfold rVerd rVd at hq
  simp only [am_lv_of, Option.toList_some, List.cons_append, List.nil_append, hpl, rX0_verdictOn_21, rX0_verdictOn_22, rX0_verdictOn_23, hl, hvw9, Nat.reduceLT, Nat.reduceAdd, Nat.reduceMul, ne_eq, Nat.reduceEqDiff, not_false_eq_true, or_true, true_or, or_false, false_or, and_true, true_and, and_self, Nat.reduceLeDiff, am_ci, am_cr, am_cn0, Option.toList_some, Option.toList_none, List.cons_append, List.nil_append, am_s0, am_s1, am_s1r, am_s2, am_s2r, am_s3r, nI_add, am_u_ne, am_u_at, am_u_n1, am_u_n2, am_w_ne]
  by_cases hp : 0 ≤ lawO (rV r (p_P σ)) (nI 0) (p_lw σ 1)
  · rw [if_pos hp] at hq
    simp only [am_lv_of, if_pos hp, rX0_verdictOn_30, rX0_verdictOn_31, rX0_verdictOn_32, rX0_verdictOn_33, hl, hvw9, Nat.reduceLT, Nat.reduceAdd, Nat.reduceMul, ne_eq, Nat.reduceEqDiff, not_false_eq_true, or_true, true_or, or_false, false_or, and_true, true_and, and_self, Nat.reduceLeDiff, am_ci, am_cr, am_cn0, Option.toList_some, Option.toList_none, List.cons_append, List.nil_append, am_s0, am_s1, am_s1r, am_s2, am_s2r, am_s3r, nI_add, am_u_ne, am_u_at, am_u_n1, am_u_n2, am_w_ne, d3]
    exact hq
  · rw [if_neg hp] at hq
    simp only [am_lv_of, if_neg hp, rX0_verdictOn_26, rX0_verdictOn_27, rX0_verdictOn_30, rX0_verdictOn_31, rX0_verdictOn_32, rX0_verdictOn_33, hl, hvw9, Nat.reduceLT, Nat.reduceAdd, Nat.reduceMul, ne_eq, Nat.reduceEqDiff, not_false_eq_true, or_true, true_or, or_false, false_or, and_true, true_and, and_self, Nat.reduceLeDiff, am_ci, am_cr, am_cn0, Option.toList_some, Option.toList_none, List.cons_append, List.nil_append, am_s0, am_s1, am_s1r, am_s2, am_s2r, am_s3r, nI_add, am_u_ne, am_u_at, am_u_n1, am_u_n2, am_w_ne]
    exact hq
/-- what VOTES is told -/
def vVot (σ : rfP) (r : Nat → Int32) (seat : Int32) (c j : Nat) : Int32 := if j = 7 then nI c else if j = 6 then seat else rV r (p_P σ) j
/-- in how many of ten -/
def cut10 (v : Int32) : Int32 := if v < 0 then nI 0 else if nI 10 < v then nI 10 else v
def rVot (σ : rfP) (r : Nat → Int32) (seat : Int32) (c : Nat) : Int32 := cut10 (lawO (vVot σ r seat c) (nI 5) (p_lw σ 2))
theorem cut10_eq {v : Int32} : (if nI 0 < (if v < nI 10 then v else nI 10) then (if v < nI 10 then v else nI 10) else nI 0) = cut10 v := by
  unfold cut10
  by_cases h1 : v < nI 10
  · have h2 : ¬ nI 10 < v := fun z => by
      have a1 := Int32.lt_iff_toInt_lt.mp h1
      have a2 := Int32.lt_iff_toInt_lt.mp z
      omega
    simp only [if_pos h1, if_neg h2]
    by_cases h3 : v < 0
    · have h4 : ¬ nI 0 < v := fun z => by
        have a1 := Int32.lt_iff_toInt_lt.mp h3
        have a2 := Int32.lt_iff_toInt_lt.mp z
        have a3 : (nI 0).toInt = (0 : Int32).toInt := rfl
        omega
      rw [if_pos h3, if_neg h4]
    · rw [if_neg h3]
      by_cases h4 : nI 0 < v
      · rw [if_pos h4]
      · rw [if_neg h4]
        have a1 : ¬ v.toInt < (0 : Int32).toInt := fun z => h3 (Int32.lt_iff_toInt_lt.mpr z)
        have a2 : ¬ (nI 0).toInt < v.toInt := fun z => h4 (Int32.lt_iff_toInt_lt.mpr z)
        have a3 : (nI 0).toInt = (0 : Int32).toInt := rfl
        exact Int32.toInt_inj.mp (by omega)
  · have h0 : nI 0 < nI 10 := by decide
    simp only [if_neg h1, if_pos h0]
    have a1 : ¬ v.toInt < (nI 10).toInt := fun z => h1 (Int32.lt_iff_toInt_lt.mpr z)
    have a3 : (nI 10).toInt = 10 := by decide
    have h3 : ¬ v < 0 := fun z => by
      have a2 := Int32.lt_iff_toInt_lt.mp z
      have a4 : (0 : Int32).toInt = 0 := by decide
      omega
    rw [if_neg h3]
    by_cases h2 : nI 10 < v
    · rw [if_pos h2]
    · rw [if_neg h2]
      have a2 : ¬ (nI 10).toInt < v.toInt := fun z => h2 (Int32.lt_iff_toInt_lt.mpr z)
      exact Int32.toInt_inj.mp (by omega)
theorem c_hasChild {P : Nat} {p : Int32} (hN : 116 ≤ n) (hP : I 2 2 = nI P) (hP5 : P ≤ 7) : am_E X d mX10_hasChild 0 [some (.ref 2), some (.int p)] [] (n, I, L, R) Q ↔ Q (some (.int (bI (isN P p)))) (n, I, L, R) := by
  have hl := am_lt hN
  have hvw9 := am_lw hN
  simp only [am_lv_of, rX10_hasChild_0, rX10_hasChild_1, hl, hvw9, Nat.reduceLT, Nat.reduceAdd, Nat.reduceMul, ne_eq, Nat.reduceEqDiff, not_false_eq_true, or_true, true_or, or_false, false_or, and_true, true_and, and_self, Nat.reduceLeDiff, am_ci, am_cr, am_cn0, Option.toList_some, Option.toList_none, List.cons_append, List.nil_append, am_s0, am_s1, am_s1r, am_s2, am_s2r, am_s3r, nI_add, am_u_ne, am_u_at, am_u_n1, am_u_n2, am_w_ne]
  by_cases h1 : p < 0
  · simp only [am_lv_of, if_pos h1, rX10_hasChild_22, rX10_hasChild_23_0, hl, hvw9, Nat.reduceLT, Nat.reduceAdd, Nat.reduceMul, ne_eq, Nat.reduceEqDiff, not_false_eq_true, or_true, true_or, or_false, false_or, and_true, true_and, and_self, Nat.reduceLeDiff, am_ci, am_cr, am_cn0, Option.toList_some, Option.toList_none, List.cons_append, List.nil_append, am_s0, am_s1, am_s1r, am_s2, am_s2r, am_s3r, nI_add, am_u_ne, am_u_at, am_u_n1, am_u_n2, am_w_ne, isN_lo h1, bI, Bool.false_eq_true, if_false]
  · simp only [am_lv_of, if_neg h1, rX10_hasChild_4, rX10_hasChild_5, rX10_hasChild_6, rX10_hasChild_9, sh_2, hl, hvw9, Nat.reduceLT, Nat.reduceAdd, Nat.reduceMul, ne_eq, Nat.reduceEqDiff, not_false_eq_true, or_true, true_or, or_false, false_or, and_true, true_and, and_self, Nat.reduceLeDiff, am_ci, am_cr, am_cn0, Option.toList_some, Option.toList_none, List.cons_append, List.nil_append, am_s0, am_s1, am_s1r, am_s2, am_s2r, am_s3r, nI_add, am_u_ne, am_u_at, am_u_n1, am_u_n2, am_w_ne, hP]
    by_cases h2 : nI P ≤ p
    · simp only [am_lv_of, if_pos h2, rX10_hasChild_22, rX10_hasChild_23_0, hl, hvw9, Nat.reduceLT, Nat.reduceAdd, Nat.reduceMul, ne_eq, Nat.reduceEqDiff, not_false_eq_true, or_true, true_or, or_false, false_or, and_true, true_and, and_self, Nat.reduceLeDiff, am_ci, am_cr, am_cn0, Option.toList_some, Option.toList_none, List.cons_append, List.nil_append, am_s0, am_s1, am_s1r, am_s2, am_s2r, am_s3r, nI_add, am_u_ne, am_u_at, am_u_n1, am_u_n2, am_w_ne, isN_hi h2, bI, Bool.false_eq_true, if_false]
    · simp only [am_lv_of, if_neg h2, rX10_hasChild_12, rX10_hasChild_13, rX10_hasChild_15, hl, hvw9, Nat.reduceLT, Nat.reduceAdd, Nat.reduceMul, ne_eq, Nat.reduceEqDiff, not_false_eq_true, or_true, true_or, or_false, false_or, and_true, true_and, and_self, Nat.reduceLeDiff, am_ci, am_cr, am_cn0, Option.toList_some, Option.toList_none, List.cons_append, List.nil_append, am_s0, am_s1, am_s1r, am_s2, am_s2r, am_s3r, nI_add, am_u_ne, am_u_at, am_u_n1, am_u_n2, am_w_ne, if_neg (nI_tr hP5 (by omega) h2), rX10_hasChild_18, rX10_hasChild_19, rX10_hasChild_23_1, isN_in h1 h2, bI, if_true]
theorem c_votesOf {w c : Nat} {r : Nat → Int32} (hR : am_OR R) (hN : 116 ≤ n) (hn : n ≤ 1000) (ho : ok_S σ) (H : cl_S I σ) (hc : c < p_C σ) (h : psr w (p_P σ) r) (hQ : ∀ I', am_ag skc I I' → Q (some (.int (rVot σ r (I 8 c) c))) (n, I', L, R)) : am_E X (d + 3) mX0_votesOf 0 [some (.ref 32), some (.int (nI w)), some (.int (r 16)), some (.int (nI c))] [] (n, I, L, R) Q := by
  have hl := am_lt hN
  have hvw9 := am_lw hN
  obtain ⟨g1, g2, g3, g4, sz, g5, g6, g7⟩ := id H
  obtain ⟨o1, o2, o3, o4⟩ := id ho
  have hc7 : c < 7 := by omega
  have hb1 : bI (isN (p_C σ) (nI c)) = nI 1 := by rw [isN_nI (by omega) (by omega)]; simp [hc, bI]
  have z1 : ¬ nI 1 = 0 := by decide
  simp only [am_lv_of, rX0_votesOf_0, rX0_votesOf_1, rX0_votesOf_4, rX0_votesOf_5, rX0_votesOf_8, rX0_votesOf_11, rX0_votesOf_12, rX0_votesOf_13, rX0_votesOf_14, rX0_votesOf_15, rX0_votesOf_16, ro_0_0 hR, ro_0_3 hR, ro_0_4 hR, ro_0_5 hR, ro_0_6 hR, ro_0_7 hR, ro_0_8 hR, ro_0_9 hR, ro_0_10 hR, ro_0_11 hR, ro_2_6 hR, ro_2_7 hR, ro_2_8 hR, ro_2_9 hR, ro_2_10 hR, ro_2_11 hR, ro_2_12 hR, ro_2_13 hR, ro_9_0 hR, ro_9_1 hR, ro_9_2 hR, ro_14_0 hR, ro_14_1 hR, ro_14_2 hR, ro_14_7 hR, ro_15_0 hR, ro_15_1 hR, ro_15_2 hR, ro_15_3 hR, ro_20_6 hR, ro_20_7 hR, ro_20_8 hR, ro_20_9 hR, ro_20_10 hR, ro_20_11 hR, ro_20_12 hR, ro_20_13 hR, ro_27_0 hR, ro_27_1 hR, ro_27_2 hR, ro_32_0 hR, ro_32_1 hR, ro_34_10 hR, ro_34_11 hR, ro_34_12 hR, ro_34_13 hR, ro_39_0 hR, ro_39_1 hR, ro_42_0 hR, ro_42_1 hR, ro_47_0 hR, ro_47_1 hR, ro_47_2 hR, ro_47_3 hR, ro_55_0 hR, ro_55_1 hR, ro_55_2 hR, ro_57_0 hR, ro_57_1 hR, ro_57_2 hR, ro_57_3 hR, ro_57_4 hR, ro_57_5 hR, ro_57_8 hR, sh_0, sh_1, sh_2, sh_3, sh_4, sh_5, sh_6, sh_7, sh_8, sh_9, sh_10, sh_11, sh_12, sh_13, sh_14, sh_15, sh_16, sh_17, sh_18, sh_19, sh_20, sh_21, sh_22, sh_23, sh_24, sh_25, sh_26, sh_27, sh_28, sh_29, sh_30, sh_31, sh_32, sh_33, sh_34, sh_35, sh_36, sh_37, sh_38, sh_39, sh_40, sh_41, sh_42, sh_43, sh_44, sh_45, sh_46, sh_47, sh_48, sh_49, sh_50, sh_51, sh_52, sh_53, sh_54, sh_55, sh_56, sh_57, sh_58, sh_59, sh_60, sh_61, sh_62, sh_63, sh_64, sh_65, sh_66, sh_67, sh_68, hl, hvw9, Nat.reduceLT, Nat.reduceAdd, Nat.reduceMul, ne_eq, Nat.reduceEqDiff, not_false_eq_true, or_true, true_or, or_false, false_or, and_true, true_and, and_self, Nat.reduceLeDiff, am_ci, am_cr, am_cn0, Option.toList_some, Option.toList_none, List.cons_append, List.nil_append, am_s0, am_s1, am_s1r, am_s2, am_s2r, am_s3r, nI_add, am_u_ne, am_u_at, am_u_n1, am_u_n2, am_w_ne, c_hasChild hN g3 o3, hb1, if_pos z1]
  refine c_set hR hN hn h.1 g1 o1 (fun I1 e1 e2 => ?_)
  have f8 : I1 8 c = I 8 c := e1 8 c (by omega)
  simp only [am_lv_of, rX0_votesOf_19, rX0_votesOf_20, rX0_votesOf_23, rX0_votesOf_25, rX0_votesOf_26, rX0_votesOf_29, rX0_votesOf_32, rX0_votesOf_33, rX0_votesOf_34, rX0_votesOf_35, rX0_votesOf_36, rX0_votesOf_39, rX0_votesOf_41, rX0_votesOf_42, rX0_votesOf_43, rX0_votesOf_44, rX0_votesOf_46, rX0_votesOf_47, rX0_votesOf_50, rX0_votesOf_53, rX0_votesOf_54, rX0_votesOf_55, rX0_votesOf_58, ro_0_0 hR, ro_0_3 hR, ro_0_4 hR, ro_0_5 hR, ro_0_6 hR, ro_0_7 hR, ro_0_8 hR, ro_0_9 hR, ro_0_10 hR, ro_0_11 hR, ro_2_6 hR, ro_2_7 hR, ro_2_8 hR, ro_2_9 hR, ro_2_10 hR, ro_2_11 hR, ro_2_12 hR, ro_2_13 hR, ro_9_0 hR, ro_9_1 hR, ro_9_2 hR, ro_14_0 hR, ro_14_1 hR, ro_14_2 hR, ro_14_7 hR, ro_15_0 hR, ro_15_1 hR, ro_15_2 hR, ro_15_3 hR, ro_20_6 hR, ro_20_7 hR, ro_20_8 hR, ro_20_9 hR, ro_20_10 hR, ro_20_11 hR, ro_20_12 hR, ro_20_13 hR, ro_27_0 hR, ro_27_1 hR, ro_27_2 hR, ro_32_0 hR, ro_32_1 hR, ro_34_10 hR, ro_34_11 hR, ro_34_12 hR, ro_34_13 hR, ro_39_0 hR, ro_39_1 hR, ro_42_0 hR, ro_42_1 hR, ro_47_0 hR, ro_47_1 hR, ro_47_2 hR, ro_47_3 hR, ro_55_0 hR, ro_55_1 hR, ro_55_2 hR, ro_57_0 hR, ro_57_1 hR, ro_57_2 hR, ro_57_3 hR, ro_57_4 hR, ro_57_5 hR, ro_57_8 hR, sh_0, sh_1, sh_2, sh_3, sh_4, sh_5, sh_6, sh_7, sh_8, sh_9, sh_10, sh_11, sh_12, sh_13, sh_14, sh_15, sh_16, sh_17, sh_18, sh_19, sh_20, sh_21, sh_22, sh_23, sh_24, sh_25, sh_26, sh_27, sh_28, sh_29, sh_30, sh_31, sh_32, sh_33, sh_34, sh_35, sh_36, sh_37, sh_38, sh_39, sh_40, sh_41, sh_42, sh_43, sh_44, sh_45, sh_46, sh_47, sh_48, sh_49, sh_50, sh_51, sh_52, sh_53, sh_54, sh_55, sh_56, sh_57, sh_58, sh_59, sh_60, sh_61, sh_62, sh_63, sh_64, sh_65, sh_66, sh_67, sh_68, hl, hvw9, Nat.reduceLT, Nat.reduceAdd, Nat.reduceMul, ne_eq, Nat.reduceEqDiff, not_false_eq_true, or_true, true_or, or_false, false_or, and_true, true_and, and_self, Nat.reduceLeDiff, am_ci, am_cr, am_cn0, Option.toList_some, Option.toList_none, List.cons_append, List.nil_append, am_s0, am_s1, am_s1r, am_s2, am_s2r, am_s3r, nI_add, am_u_ne, am_u_at, am_u_n1, am_u_n2, am_w_ne, hn, hc7, f8]
  have hag : am_ag (fun k _ => k = 33) I (am_u (am_u I1 33 6 (I 8 c)) 33 7 (nI c)) := (e1.u rfl).u rfl
  have f9 : (am_u (am_u I1 33 6 (I 8 c)) 33 7 (nI c)) 9 3 = nI sz := by rw [hag 9 3 (by omega)]; exact g6
  obtain ⟨f, l1, l2⟩ := g7 2 (by omega)
  have l3 : cl_law (am_u (am_u I1 33 6 (I 8 c)) 33 7 (nI c)) sz 2 (p_lw σ 2) := ⟨f, by rw [hag 11 2 (by omega)]; exact l1, cl_brs_mv' (fun j => hag 10 j (by omega)) l2⟩
  refine c_valueOf (vars := vVot σ r (I 8 c) c) hR hN hn (by omega) f9 g5 l3 (fun v hv => ?_) (fun I2 e3 => ?_)
  · unfold vVot
    by_cases e7 : v = 7
    · subst e7; rw [if_pos rfl, am_u_at]
    · rw [if_neg e7, am_u_n2 e7]
      by_cases e6 : v = 6
      · subst e6; rw [if_pos rfl, am_u_at]
      · rw [if_neg e6, am_u_n2 e6, e2 v hv]; exact h.v o1
  · have hq := hQ I2 ((ag33 hag).trans (ag12_sk e3))
    have hpl : nI (plainN 2) = nI 5 := rfl
    simp only [am_lv_of, Option.toList_some, List.cons_append, List.nil_append, hpl, rX0_votesOf_61, rX0_votesOf_64, rX0_votesOf_67, hl, hvw9, Nat.reduceLT, Nat.reduceAdd, Nat.reduceMul, ne_eq, Nat.reduceEqDiff, not_false_eq_true, or_true, true_or, or_false, false_or, and_true, true_and, and_self, Nat.reduceLeDiff, am_ci, am_cr, am_cn0, Option.toList_some, Option.toList_none, List.cons_append, List.nil_append, am_s0, am_s1, am_s1r, am_s2, am_s2r, am_s3r, nI_add, am_u_ne, am_u_at, am_u_n1, am_u_n2, am_w_ne, cut10_eq]
    exact hq
end CLE
