--! 66
/-! PROMISE 10: pull -/
def mixF (h v : Int32) : Int32 :=
  let x := (h ^^^ v) * nI 1103515245 + nI 12345
  x ^^^ (x.toUInt32 >>> ((nI 15).toUInt32 &&& Int32.toUInt32 31)).toInt32
def lotF (sd w : Int32) (N : Nat) : Nat := (mixF (mixF sd (nI 87)) w).toBitVec.toNat / 2 % N
theorem half_eq (x : Int32) : (x.toUInt32 >>> ((nI 1).toUInt32 &&& Int32.toUInt32 31)).toInt32 = nI (x.toBitVec.toNat / 2) := by
  apply Int32.toBitVec_inj.mp
  apply BitVec.eq_of_toNat_eq
  rw [pk_ushr x (nI 1) 1 (by decide), pk_tn (Nat.lt_of_le_of_lt (Nat.div_le_self _ _) x.toBitVec.isLt)]
theorem lot_rem (x : Int32) {N : Nat} (h0 : 0 < N) (hN : N < 2 ^ 31) : nI (x.toBitVec.toNat / 2) - nI (x.toBitVec.toNat / 2) / nI N * nI N = nI (x.toBitVec.toNat / 2 % N) := pk_rem (by have := x.toBitVec.isLt; omega) h0 hN
theorem lotF_lt {sd w : Int32} {N : Nat} (h0 : 0 < N) : lotF sd w N < N := Nat.mod_lt _ h0
/-- is there a storm; which string it pulls -/
def rStm (st sd : Int32) (r : Nat → Int32) : Bool := decide (nI (lotF sd (nI 4 * r 19) 100) < st)
def rDrw (σ : rfP) (sd : Int32) (r : Nat → Int32) : Nat := lotF sd (nI 4 * r 19 + nI 1) (p_S σ)
def rMvP (σ : rfP) (r : Nat → Int32) (s : Nat) : Nat → Int32 := upd (rMv σ r s) (21 + s) (rMv σ r s (21 + s) + nI 1)
def rS20 (r : Nat → Int32) : Nat → Int32 := upd r 20 (r 20 + nI 1)
/-- the row behind a pull, before the turn ends -/
def rPb (σ : rfP) (st sd : Int32) (r : Nat → Int32) (s : Nat) : Nat → Int32 := if rStm st sd r = true then (if rSt σ (rS20 r) (rDrw σ sd r) = true then rMvP σ (rS20 r) (rDrw σ sd r) else rS20 r) else rMvP σ r s
section PL
variable {X : am_X} {d n : Nat} {I : Nat → Nat → Int32} {L : Nat → Nat → Int64} {R : Nat → Nat → Option Nat} {Q : Option Value → am_M → Prop} {σ : rfP}
theorem c_mixed {h v : Int32} : am_E X d mX13_mixed 0 [some (.int h), some (.int v), none] [] (n, I, L, R) Q ↔ Q (some (.int (mixF h v))) (n, I, L, R) := by
  simp only [am_lv_of, rX13_mixed_0, rX13_mixed_1, rX13_mixed_2, rX13_mixed_3, rX13_mixed_6, rX13_mixed_7, rX13_mixed_10, rX13_mixed_11, rX13_mixed_12, rX13_mixed_13, rX13_mixed_14, rX13_mixed_16, rX13_mixed_17, rX13_mixed_18, am_ci, am_cr, am_cn0, mixF]
theorem c_stirred {h v : Int32} : am_E X d mX10_stirred 0 [some (.int h), some (.int v), none] [] (n, I, L, R) Q ↔ Q (some (.int (mixF h v))) (n, I, L, R) := by
  simp only [am_lv_of, rX10_stirred_0, rX10_stirred_1, rX10_stirred_2, rX10_stirred_3, rX10_stirred_5, rX10_stirred_6, rX10_stirred_9, rX10_stirred_10, rX10_stirred_11, rX10_stirred_12, rX10_stirred_13, rX10_stirred_15, rX10_stirred_16, rX10_stirred_17, am_ci, am_cr, am_cn0, mixF]
theorem c_lotOf {N : Nat} {w : Int32} (hN : 116 ≤ n) (h0 : 0 < N) (hN2 : N < 2 ^ 31) : am_E X (d + 1) mX13_lotOf 0 [some (.ref 69), some (.int w), some (.int (nI N))] [] (n, I, L, R) Q ↔ Q (some (.int (nI (lotF (I 69 53) w N)))) (n, I, L, R) := by
  have hl := am_lt hN
  have hvw9 := am_lw hN
  have z : ¬ nI N = 0 := nI_ne0 h0 hN2
  simp only [am_lv_of, rX13_lotOf_0, rX13_lotOf_1, rX13_lotOf_4, rX13_lotOf_6, rX13_lotOf_9, rX13_lotOf_10, rX13_lotOf_13, rX13_lotOf_14, rX13_lotOf_15, rX13_lotOf_16, rX13_lotOf_17, sh_69, hl, hvw9, Nat.reduceLT, Nat.reduceAdd, Nat.reduceMul, ne_eq, Nat.reduceEqDiff, not_false_eq_true, or_true, true_or, or_false, false_or, and_true, true_and, and_self, Nat.reduceLeDiff, am_ci, am_cr, am_cn0, Option.toList_some, Option.toList_none, List.cons_append, List.nil_append, am_s0, am_s1, am_s1r, am_s2, am_s2r, am_s3r, nI_add, am_u_ne, am_u_at, am_u_n1, am_u_n2, am_w_ne, c_mixed, half_eq, z, lot_rem _ h0 hN2, lotF]
theorem c_lot {N : Nat} {w sd : Int32} (h0 : 0 < N) (hN2 : N < 2 ^ 31) : am_E X (d + 1) mX10_lot 0 [some (.int (nI N)), some (.int sd), some (.int w), none] [] (n, I, L, R) Q ↔ Q (some (.int (nI (lotF sd w N)))) (n, I, L, R) := by
  have z : ¬ nI N = 0 := nI_ne0 h0 hN2
  have z1 : ¬ nI N ≤ 0 := nI_nle h0 hN2
  simp only [am_lv_of, rX10_lot_0, rX10_lot_1, rX10_lot_3, rX10_lot_6, rX10_lot_7, rX10_lot_10, rX10_lot_11, rX10_lot_12, rX10_lot_15, rX10_lot_16, rX10_lot_17, rX10_lot_18, rX10_lot_19, rX10_lot_20, rX10_lot_23, rX10_lot_24, am_ci, am_cr, am_cn0, am_s0, am_s1, Option.toList_some, List.cons_append, List.nil_append, c_stirred, half_eq, z, z1, not_false_eq_true, ↓reduceIte, lot_rem _ h0 hN2, lotF]
theorem c_stormsAt {sd ap : Int32} (hN : 116 ≤ n) : am_E X (d + 2) mX10_stormsAt 0 [some (.ref 2), some (.int sd), some (.int ap)] [] (n, I, L, R) Q ↔ Q (some (.int (bI (decide (nI (lotF sd (nI 4 * ap) 100) < I 2 3))))) (n, I, L, R) := by
  have hl := am_lt hN
  have hvw9 := am_lw hN
  simp only [am_lv_of, rX10_stormsAt_0, rX10_stormsAt_2, rX10_stormsAt_3, rX10_stormsAt_4, rX10_stormsAt_5, rX10_stormsAt_6, rX10_stormsAt_9, rX10_stormsAt_10, sh_2, hl, hvw9, Nat.reduceLT, Nat.reduceAdd, Nat.reduceMul, ne_eq, Nat.reduceEqDiff, not_false_eq_true, or_true, true_or, or_false, false_or, and_true, true_and, and_self, Nat.reduceLeDiff, am_ci, am_cr, am_cn0, Option.toList_some, Option.toList_none, List.cons_append, List.nil_append, am_s0, am_s1, am_s1r, am_s2, am_s2r, am_s3r, nI_add, am_u_ne, am_u_at, am_u_n1, am_u_n2, am_w_ne, c_lot (show 0 < 100 by omega) (show 100 < 2 ^ 31 by omega), rX10_stormsAt_13]
  by_cases h : nI (lotF sd (nI 4 * ap) 100) < I 2 3
  · have h1 : ¬ I 2 3 ≤ nI (lotF sd (nI 4 * ap) 100) := Int32.not_le.mpr h
    simp only [am_lv_of, if_neg h1, rX10_stormsAt_16, rX10_stormsAt_17, rX10_stormsAt_20, rX10_stormsAt_21, rX10_stormsAt_21_0, rX10_stormsAt_21_1, hl, hvw9, Nat.reduceLT, Nat.reduceAdd, Nat.reduceMul, ne_eq, Nat.reduceEqDiff, not_false_eq_true, or_true, true_or, or_false, false_or, and_true, true_and, and_self, Nat.reduceLeDiff, am_ci, am_cr, am_cn0, Option.toList_some, Option.toList_none, List.cons_append, List.nil_append, am_s0, am_s1, am_s1r, am_s2, am_s2r, am_s3r, nI_add, am_u_ne, am_u_at, am_u_n1, am_u_n2, am_w_ne, decide_eq_true h, bI, if_true]
  · have h1 : I 2 3 ≤ nI (lotF sd (nI 4 * ap) 100) := Int32.not_lt.mp h
    simp only [am_lv_of, if_pos h1, rX10_stormsAt_20, rX10_stormsAt_21, rX10_stormsAt_21_0, rX10_stormsAt_21_1, hl, hvw9, Nat.reduceLT, Nat.reduceAdd, Nat.reduceMul, ne_eq, Nat.reduceEqDiff, not_false_eq_true, or_true, true_or, or_false, false_or, and_true, true_and, and_self, Nat.reduceLeDiff, am_ci, am_cr, am_cn0, Option.toList_some, Option.toList_none, List.cons_append, List.nil_append, am_s0, am_s1, am_s1r, am_s2, am_s2r, am_s3r, nI_add, am_u_ne, am_u_at, am_u_n1, am_u_n2, am_w_ne, decide_eq_false h, bI, Bool.false_eq_true, if_false]
theorem c_drawnAt {S : Nat} {sd ap : Int32} (hN : 116 ≤ n) (hS : I 2 1 = nI S) (h0 : 0 < S) (h7 : S ≤ 7) : am_E X (d + 2) mX10_drawnAt 0 [some (.ref 2), some (.int sd), some (.int ap)] [] (n, I, L, R) Q ↔ Q (some (.int (nI (lotF sd (nI 4 * ap + nI 1) S)))) (n, I, L, R) := by
  have hl := am_lt hN
  have hvw9 := am_lw hN
  simp only [am_lv_of, rX10_drawnAt_0, rX10_drawnAt_1, rX10_drawnAt_4, rX10_drawnAt_5, rX10_drawnAt_6, rX10_drawnAt_7, rX10_drawnAt_8, rX10_drawnAt_9, rX10_drawnAt_10, rX10_drawnAt_13, sh_2, hl, hvw9, Nat.reduceLT, Nat.reduceAdd, Nat.reduceMul, ne_eq, Nat.reduceEqDiff, not_false_eq_true, or_true, true_or, or_false, false_or, and_true, true_and, and_self, Nat.reduceLeDiff, am_ci, am_cr, am_cn0, Option.toList_some, Option.toList_none, List.cons_append, List.nil_append, am_s0, am_s1, am_s1r, am_s2, am_s2r, am_s3r, nI_add, am_u_ne, am_u_at, am_u_n1, am_u_n2, am_w_ne, hS, c_lot h0 (show S < 2 ^ 31 by omega)]
theorem c_moveBy {x : Int32} {q : Nat} (hR : am_OR R) (hN : 116 ≤ n) (hn : n ≤ 1000) (hq : q < 7) : am_E X d mX3_moveBy 0 [some (.ref 34), some (.int x), some (.int (nI q))] [] (n, I, L, R) Q ↔ Q none (n, if x = -1 then I else am_u (am_u I 34 0 x) 35 q (I 35 q + nI 1), L, R) := by
  have hl := am_lt hN
  have hvw9 := am_lw hN
  have z0 : ¬ nI q < 0 := nI_pos (by omega)
  have z1 : ¬ nI 7 ≤ nI q := nI_ge hq (by omega)
  by_cases h : x = -1
  · simp only [am_lv_of, rX3_moveBy_0, rX3_moveBy_1, rX3_moveBy_2, rX3_moveBy_5, rX3_moveBy_6, rX3_moveBy_9, rX3_moveBy_10, rX3_moveBy_11, rX3_moveBy_14, rX3_moveBy_15, rX3_moveBy_18, rX3_moveBy_19, rX3_moveBy_20, rX3_moveBy_23, rX3_moveBy_24, rX3_moveBy_27, rX3_moveBy_28, rX3_moveBy_29, rX3_moveBy_30, rX3_moveBy_31, rX3_moveBy_32, rX3_moveBy_33, ro_0_0 hR, ro_0_3 hR, ro_0_4 hR, ro_0_5 hR, ro_0_6 hR, ro_0_7 hR, ro_0_8 hR, ro_0_9 hR, ro_0_10 hR, ro_0_11 hR, ro_2_6 hR, ro_2_7 hR, ro_2_8 hR, ro_2_9 hR, ro_2_10 hR, ro_2_11 hR, ro_2_12 hR, ro_2_13 hR, ro_9_0 hR, ro_9_1 hR, ro_9_2 hR, ro_14_0 hR, ro_14_1 hR, ro_14_2 hR, ro_14_7 hR, ro_15_0 hR, ro_15_1 hR, ro_15_2 hR, ro_15_3 hR, ro_20_6 hR, ro_20_7 hR, ro_20_8 hR, ro_20_9 hR, ro_20_10 hR, ro_20_11 hR, ro_20_12 hR, ro_20_13 hR, ro_27_0 hR, ro_27_1 hR, ro_27_2 hR, ro_32_0 hR, ro_32_1 hR, ro_34_10 hR, ro_34_11 hR, ro_34_12 hR, ro_34_13 hR, ro_39_0 hR, ro_39_1 hR, ro_42_0 hR, ro_42_1 hR, ro_47_0 hR, ro_47_1 hR, ro_47_2 hR, ro_47_3 hR, ro_55_0 hR, ro_55_1 hR, ro_55_2 hR, ro_57_0 hR, ro_57_1 hR, ro_57_2 hR, ro_57_3 hR, ro_57_4 hR, ro_57_5 hR, ro_57_8 hR, sh_0, sh_1, sh_2, sh_3, sh_4, sh_5, sh_6, sh_7, sh_8, sh_9, sh_10, sh_11, sh_12, sh_13, sh_14, sh_15, sh_16, sh_17, sh_18, sh_19, sh_20, sh_21, sh_22, sh_23, sh_24, sh_25, sh_26, sh_27, sh_28, sh_29, sh_30, sh_31, sh_32, sh_33, sh_34, sh_35, sh_36, sh_37, sh_38, sh_39, sh_40, sh_41, sh_42, sh_43, sh_44, sh_45, sh_46, sh_47, sh_48, sh_49, sh_50, sh_51, sh_52, sh_53, sh_54, sh_55, sh_56, sh_57, sh_58, sh_59, sh_60, sh_61, sh_62, sh_63, sh_64, sh_65, sh_66, sh_67, sh_68, hl, hvw9, Nat.reduceLT, Nat.reduceAdd, Nat.reduceMul, ne_eq, Nat.reduceEqDiff, not_false_eq_true, or_true, true_or, or_false, false_or, and_true, true_and, and_self, Nat.reduceLeDiff, am_ci, am_cr, am_cn0, Option.toList_some, Option.toList_none, List.cons_append, List.nil_append, am_s0, am_s1, am_s1r, am_s2, am_s2r, am_s3r, nI_add, am_u_ne, am_u_at, am_u_n1, am_u_n2, am_w_ne, h, ↓reduceIte]
  · simp only [am_lv_of, rX3_moveBy_0, rX3_moveBy_1, rX3_moveBy_2, rX3_moveBy_5, rX3_moveBy_6, rX3_moveBy_9, rX3_moveBy_10, rX3_moveBy_11, rX3_moveBy_14, rX3_moveBy_15, rX3_moveBy_18, rX3_moveBy_19, rX3_moveBy_20, rX3_moveBy_23, rX3_moveBy_24, rX3_moveBy_27, rX3_moveBy_28, rX3_moveBy_29, rX3_moveBy_30, rX3_moveBy_31, rX3_moveBy_32, rX3_moveBy_33, ro_0_0 hR, ro_0_3 hR, ro_0_4 hR, ro_0_5 hR, ro_0_6 hR, ro_0_7 hR, ro_0_8 hR, ro_0_9 hR, ro_0_10 hR, ro_0_11 hR, ro_2_6 hR, ro_2_7 hR, ro_2_8 hR, ro_2_9 hR, ro_2_10 hR, ro_2_11 hR, ro_2_12 hR, ro_2_13 hR, ro_9_0 hR, ro_9_1 hR, ro_9_2 hR, ro_14_0 hR, ro_14_1 hR, ro_14_2 hR, ro_14_7 hR, ro_15_0 hR, ro_15_1 hR, ro_15_2 hR, ro_15_3 hR, ro_20_6 hR, ro_20_7 hR, ro_20_8 hR, ro_20_9 hR, ro_20_10 hR, ro_20_11 hR, ro_20_12 hR, ro_20_13 hR, ro_27_0 hR, ro_27_1 hR, ro_27_2 hR, ro_32_0 hR, ro_32_1 hR, ro_34_10 hR, ro_34_11 hR, ro_34_12 hR, ro_34_13 hR, ro_39_0 hR, ro_39_1 hR, ro_42_0 hR, ro_42_1 hR, ro_47_0 hR, ro_47_1 hR, ro_47_2 hR, ro_47_3 hR, ro_55_0 hR, ro_55_1 hR, ro_55_2 hR, ro_57_0 hR, ro_57_1 hR, ro_57_2 hR, ro_57_3 hR, ro_57_4 hR, ro_57_5 hR, ro_57_8 hR, sh_0, sh_1, sh_2, sh_3, sh_4, sh_5, sh_6, sh_7, sh_8, sh_9, sh_10, sh_11, sh_12, sh_13, sh_14, sh_15, sh_16, sh_17, sh_18, sh_19, sh_20, sh_21, sh_22, sh_23, sh_24, sh_25, sh_26, sh_27, sh_28, sh_29, sh_30, sh_31, sh_32, sh_33, sh_34, sh_35, sh_36, sh_37, sh_38, sh_39, sh_40, sh_41, sh_42, sh_43, sh_44, sh_45, sh_46, sh_47, sh_48, sh_49, sh_50, sh_51, sh_52, sh_53, sh_54, sh_55, sh_56, sh_57, sh_58, sh_59, sh_60, sh_61, sh_62, sh_63, sh_64, sh_65, sh_66, sh_67, sh_68, hl, hvw9, Nat.reduceLT, Nat.reduceAdd, Nat.reduceMul, ne_eq, Nat.reduceEqDiff, not_false_eq_true, or_true, true_or, or_false, false_or, and_true, true_and, and_self, Nat.reduceLeDiff, am_ci, am_cr, am_cn0, Option.toList_some, Option.toList_none, List.cons_append, List.nil_append, am_s0, am_s1, am_s1r, am_s2, am_s2r, am_s3r, nI_add, am_u_ne, am_u_at, am_u_n1, am_u_n2, am_w_ne, hn, h, ↓reduceIte, z0, z1, hq]
theorem l_pullsC {K : Nat} {J : Nat → Nat → Int32} {l1 l2 : Option Value} (hR : am_OR R) (hN : 116 ≤ n) (hn : n ≤ 1000) (H : rf_S J σ) (hK : J 104 30 = nI K) (hK2 : K ≤ 12) (hQ : ∀ I' v, v ≤ 2 → rVerd σ (rEn0 (J 104)) = nI v → am_ag sc2 J I' → I' 104 = rKp (p_P σ) (rEnd σ (J 104)) v K → Q none (n, I', L, R)) : am_E X (d + 6) mX13_pulls 97 [some (.ref 69), l1, l2] [] (n, J, L, R) Q := by
  have hl := am_lt hN
  have hvw9 := am_lw hN
  simp only [am_lv_of, rX13_pulls_97, rX13_pulls_98, sh_69, hl, hvw9, Nat.reduceLT, Nat.reduceAdd, Nat.reduceMul, ne_eq, Nat.reduceEqDiff, not_false_eq_true, or_true, true_or, or_false, false_or, and_true, true_and, and_self, Nat.reduceLeDiff, am_ci, am_cr, am_cn0, Option.toList_some, Option.toList_none, List.cons_append, List.nil_append, am_s0, am_s1, am_s1r, am_s2, am_s2r, am_s3r, nI_add, am_u_ne, am_u_at, am_u_n1, am_u_n2, am_w_ne]
  refine c_turnEnds hR hN hn H (fun I1 g1 e1 _ => ?_)
  have H1 := H.ag g1
  obtain ⟨v, hv, ev⟩ := rVd_ok (lawO (rV (rEn0 (J 104)) (p_P σ)) (nI 0) (p_lw σ 1))
  have ev : rVerd σ (rEn0 (J 104)) = nI v := ev
  simp only [am_lv_of, Option.toList_none, List.nil_append, rX13_pulls_101, rX13_pulls_102, sh_69, hl, hvw9, Nat.reduceLT, Nat.reduceAdd, Nat.reduceMul, ne_eq, Nat.reduceEqDiff, not_false_eq_true, or_true, true_or, or_false, false_or, and_true, true_and, and_self, Nat.reduceLeDiff, am_ci, am_cr, am_cn0, Option.toList_some, Option.toList_none, List.cons_append, List.nil_append, am_s0, am_s1, am_s1r, am_s2, am_s2r, am_s3r, nI_add, am_u_ne, am_u_at, am_u_n1, am_u_n2, am_w_ne]
  refine c_keepsCase hR hN hn H1 hK2 hv (by rw [e1, rEnd_n (by omega) (by omega) (by omega)]; exact hK) (by rw [e1, rEnd_17]; exact ev) (fun I2 g2 e2 => ?_)
  simp only [am_lv_of, Option.toList_none, List.nil_append, rX13_pulls_105]
  exact hQ I2 v hv ev (g1.trans (g2.mono (fun k j z => by unfold sc2; omega))) (by rw [e2, e1])
theorem l_pullsB {K q : Nat} {J : Nat → Nat → Int32} {l1 : Option Value} (hR : am_OR R) (hN : 116 ≤ n) (hn : n ≤ 1000) (H : rf_S J σ) (hq : q < p_S σ) (hK : J 104 30 = nI K) (hK2 : K ≤ 12) (hQ : ∀ I' v, v ≤ 2 → rVerd σ (rEn0 (rMvP σ (J 104) q)) = nI v → am_ag sc2 J I' → I' 104 = rKp (p_P σ) (rEnd σ (rMvP σ (J 104) q)) v K → Q none (n, I', L, R)) : am_E X (d + 6) mX13_pulls 75 [some (.ref 69), l1, some (.int (nI q))] [] (n, J, L, R) Q := by
  have hl := am_lt hN
  have hvw9 := am_lw hN
  have S7 := H.2.2.2.2.2.1
  have P5 := H.2.2.2.1
  have how := (H.2.2.2.2.2.2.2.2.1 q hq).2.1
  have z0 : ¬ nI q < 0 := nI_pos (by omega)
  simp only [am_lv_of, rX13_pulls_75, rX13_pulls_76, rX13_pulls_79, rX13_pulls_80, rX13_pulls_81, sh_69, hl, hvw9, Nat.reduceLT, Nat.reduceAdd, Nat.reduceMul, ne_eq, Nat.reduceEqDiff, not_false_eq_true, or_true, true_or, or_false, false_or, and_true, true_and, and_self, Nat.reduceLeDiff, am_ci, am_cr, am_cn0, Option.toList_some, Option.toList_none, List.cons_append, List.nil_append, am_s0, am_s1, am_s1r, am_s2, am_s2r, am_s3r, nI_add, am_u_ne, am_u_at, am_u_n1, am_u_n2, am_w_ne, ↓reduceIte, z0]
  refine c_moves hR hN hn H hq (fun I1 g1 e1 => ?_)
  have i1 : 21 + q < 68 := by omega
  simp only [am_lv_of, Option.toList_none, List.nil_append, rX13_pulls_84, rX13_pulls_85, rX13_pulls_88, rX13_pulls_90, rX13_pulls_91, rX13_pulls_92, rX13_pulls_93, rX13_pulls_94, rX13_pulls_95, rX13_pulls_96, ro_69_1 hR, ro_69_3 hR, ro_69_5 hR, ro_69_6 hR, ro_69_7 hR, ro_69_8 hR, ro_69_9 hR, ro_69_21 hR, ro_69_22 hR, ro_69_23 hR, ro_69_24 hR, ro_69_25 hR, ro_69_26 hR, ro_69_27 hR, ro_69_28 hR, ro_69_29 hR, ro_69_30 hR, ro_69_31 hR, ro_69_32 hR, ro_69_33 hR, ro_69_34 hR, ro_69_35 hR, ro_69_36 hR, ro_69_38 hR, ro_69_39 hR, ro_69_40 hR, ro_69_41 hR, ro_69_42 hR, ro_69_44 hR, ro_69_45 hR, ro_69_46 hR, ro_69_48 hR, ro_69_49 hR, ro_69_51 hR, ro_69_52 hR, ro_69_55 hR, ro_69_56 hR, ro_69_57 hR, ro_69_58 hR, ro_69_59 hR, ro_69_61 hR, ro_69_62 hR, ro_69_63 hR, ro_69_64 hR, ro_69_65 hR, ro_69_66 hR, sh_69, sh_70, sh_71, sh_72, sh_73, sh_74, sh_75, sh_76, sh_77, sh_78, sh_79, sh_80, sh_81, sh_82, sh_83, sh_84, sh_85, sh_86, sh_87, sh_88, sh_89, sh_90, sh_91, sh_92, sh_93, sh_94, sh_95, sh_96, sh_97, sh_98, sh_99, sh_100, sh_101, sh_102, sh_103, sh_104, sh_105, sh_106, sh_107, sh_108, sh_109, sh_110, sh_111, sh_112, sh_113, sh_114, sh_115, hl, hvw9, Nat.reduceLT, Nat.reduceAdd, Nat.reduceMul, ne_eq, Nat.reduceEqDiff, not_false_eq_true, or_true, true_or, or_false, false_or, and_true, true_and, and_self, Nat.reduceLeDiff, am_ci, am_cr, am_cn0, Option.toList_some, Option.toList_none, List.cons_append, List.nil_append, am_s0, am_s1, am_s1r, am_s2, am_s2r, am_s3r, nI_add, am_u_ne, am_u_at, am_u_n1, am_u_n2, am_w_ne, hn, i1]
  have hag : am_ag sc2 J (am_u I1 104 (21 + q) (I1 104 (21 + q) + nI 1)) := (g1.mono (fun k j z => by unfold sc2; omega)).u (by unfold sc2; omega)
  have ee : am_u I1 104 (21 + q) (I1 104 (21 + q) + nI 1) 104 = rMvP σ (J 104) q := by rw [am_u_upd, e1]; rfl
  refine l_pullsC hR hN hn (H.ag hag) ?_ hK2 (fun I2 v v1 v2 v3 v4 => hQ I2 v v1 (by rw [ee] at v2; exact v2) (hag.trans v3) (by rw [ee] at v4; exact v4))
  rw [am_u_n2 (by omega), e1]
  unfold rMv
  rw [upd_n (by omega), upd_n (by omega), upd_n (by omega)]
  exact hK
theorem c_pulls {s K : Nat} {st sd : Int32} (hR : am_OR R) (hN : 116 ≤ n) (hn : n ≤ 1000) (H : rf_S I σ) (hs : s < p_S σ) (hK : I 104 30 = nI K) (hK2 : K ≤ 12) (hst : I 89 (p_lv σ) = st) (hsd : I 69 53 = sd) (hQ : ∀ I' v, v ≤ 2 → rVerd σ (rEn0 (rPb σ st sd (I 104) s)) = nI v → am_ag sc2 I I' → I' 104 = rKp (p_P σ) (rEnd σ (rPb σ st sd (I 104) s)) v K → Q none (n, I', L, R)) : am_E X (d + 6) mX13_pulls 0 [some (.ref 69), some (.int (nI s)), none] [] (n, I, L, R) Q := by
  have hl := am_lt hN
  have hvw9 := am_lw hN
  have S7 := H.2.2.2.2.2.1
  obtain ⟨f1, f2, f3, f4, f5, -⟩ := id H
  simp only [am_lv_of, rX13_pulls_0, rX13_pulls_1, rX13_pulls_2, rX13_pulls_3, rX13_pulls_4, rX13_pulls_5, rX13_pulls_8, rX13_pulls_10, rX13_pulls_11, rX13_pulls_12, rX13_pulls_14, rX13_pulls_17, rX13_pulls_18, rX13_pulls_21, rX13_pulls_22, rX13_pulls_25, ro_69_1 hR, ro_69_3 hR, ro_69_5 hR, ro_69_6 hR, ro_69_7 hR, ro_69_8 hR, ro_69_9 hR, ro_69_21 hR, ro_69_22 hR, ro_69_23 hR, ro_69_24 hR, ro_69_25 hR, ro_69_26 hR, ro_69_27 hR, ro_69_28 hR, ro_69_29 hR, ro_69_30 hR, ro_69_31 hR, ro_69_32 hR, ro_69_33 hR, ro_69_34 hR, ro_69_35 hR, ro_69_36 hR, ro_69_38 hR, ro_69_39 hR, ro_69_40 hR, ro_69_41 hR, ro_69_42 hR, ro_69_44 hR, ro_69_45 hR, ro_69_46 hR, ro_69_48 hR, ro_69_49 hR, ro_69_51 hR, ro_69_52 hR, ro_69_55 hR, ro_69_56 hR, ro_69_57 hR, ro_69_58 hR, ro_69_59 hR, ro_69_61 hR, ro_69_62 hR, ro_69_63 hR, ro_69_64 hR, ro_69_65 hR, ro_69_66 hR, sh_69, sh_70, sh_71, sh_72, sh_73, sh_74, sh_75, sh_76, sh_77, sh_78, sh_79, sh_80, sh_81, sh_82, sh_83, sh_84, sh_85, sh_86, sh_87, sh_88, sh_89, sh_90, sh_91, sh_92, sh_93, sh_94, sh_95, sh_96, sh_97, sh_98, sh_99, sh_100, sh_101, sh_102, sh_103, sh_104, sh_105, sh_106, sh_107, sh_108, sh_109, sh_110, sh_111, sh_112, sh_113, sh_114, sh_115, hl, hvw9, Nat.reduceLT, Nat.reduceAdd, Nat.reduceMul, ne_eq, Nat.reduceEqDiff, not_false_eq_true, or_true, true_or, or_false, false_or, and_true, true_and, and_self, Nat.reduceLeDiff, am_ci, am_cr, am_cn0, Option.toList_some, Option.toList_none, List.cons_append, List.nil_append, am_s0, am_s1, am_s1r, am_s2, am_s2r, am_s3r, nI_add, am_u_ne, am_u_at, am_u_n1, am_u_n2, am_w_ne, f1, f2, hst, c_lotOf hN (show 0 < 100 by omega) (show 100 < 2 ^ 31 by omega), hsd, rX13_pulls_26]
  by_cases hw : rStm st sd (I 104) = true
  · have hw' : nI (lotF sd (nI 4 * I 104 19) 100) < st := by unfold rStm at hw; exact of_decide_eq_true hw
    have h1 : ¬ st ≤ nI (lotF sd (nI 4 * I 104 19) 100) := Int32.not_le.mpr hw'
    have q19 : am_u I 104 20 (I 104 20 + nI 1) 104 19 = I 104 19 := am_u_n2 (by omega)
    simp only [am_lv_of, if_neg h1, rX13_pulls_29, rX13_pulls_30, rX13_pulls_33, rX13_pulls_35, rX13_pulls_36, rX13_pulls_37, rX13_pulls_38, rX13_pulls_39, rX13_pulls_40, rX13_pulls_41, rX13_pulls_42, rX13_pulls_43, rX13_pulls_46, rX13_pulls_48, rX13_pulls_49, rX13_pulls_50, rX13_pulls_51, rX13_pulls_52, rX13_pulls_53, rX13_pulls_56, rX13_pulls_57, rX13_pulls_60, ro_69_1 hR, ro_69_3 hR, ro_69_5 hR, ro_69_6 hR, ro_69_7 hR, ro_69_8 hR, ro_69_9 hR, ro_69_21 hR, ro_69_22 hR, ro_69_23 hR, ro_69_24 hR, ro_69_25 hR, ro_69_26 hR, ro_69_27 hR, ro_69_28 hR, ro_69_29 hR, ro_69_30 hR, ro_69_31 hR, ro_69_32 hR, ro_69_33 hR, ro_69_34 hR, ro_69_35 hR, ro_69_36 hR, ro_69_38 hR, ro_69_39 hR, ro_69_40 hR, ro_69_41 hR, ro_69_42 hR, ro_69_44 hR, ro_69_45 hR, ro_69_46 hR, ro_69_48 hR, ro_69_49 hR, ro_69_51 hR, ro_69_52 hR, ro_69_55 hR, ro_69_56 hR, ro_69_57 hR, ro_69_58 hR, ro_69_59 hR, ro_69_61 hR, ro_69_62 hR, ro_69_63 hR, ro_69_64 hR, ro_69_65 hR, ro_69_66 hR, sh_69, sh_70, sh_71, sh_72, sh_73, sh_74, sh_75, sh_76, sh_77, sh_78, sh_79, sh_80, sh_81, sh_82, sh_83, sh_84, sh_85, sh_86, sh_87, sh_88, sh_89, sh_90, sh_91, sh_92, sh_93, sh_94, sh_95, sh_96, sh_97, sh_98, sh_99, sh_100, sh_101, sh_102, sh_103, sh_104, sh_105, sh_106, sh_107, sh_108, sh_109, sh_110, sh_111, sh_112, sh_113, sh_114, sh_115, hl, hvw9, Nat.reduceLT, Nat.reduceAdd, Nat.reduceMul, ne_eq, Nat.reduceEqDiff, not_false_eq_true, or_true, true_or, or_false, false_or, and_true, true_and, and_self, Nat.reduceLeDiff, am_ci, am_cr, am_cn0, Option.toList_some, Option.toList_none, List.cons_append, List.nil_append, am_s0, am_s1, am_s1r, am_s2, am_s2r, am_s3r, nI_add, am_u_ne, am_u_at, am_u_n1, am_u_n2, am_w_ne, hn, f1, f2, f5]
    simp only [am_lv_of, rX13_pulls_61, sh_69, hl, hvw9, Nat.reduceLT, Nat.reduceAdd, Nat.reduceMul, ne_eq, Nat.reduceEqDiff, not_false_eq_true, or_true, true_or, or_false, false_or, and_true, true_and, and_self, Nat.reduceLeDiff, am_ci, am_cr, am_cn0, Option.toList_some, Option.toList_none, List.cons_append, List.nil_append, am_s0, am_s1, am_s1r, am_s2, am_s2r, am_s3r, nI_add, am_u_ne, am_u_at, am_u_n1, am_u_n2, am_w_ne]
    rw [c_lotOf hN (show 0 < p_S σ by omega) (show p_S σ < 2 ^ 31 by omega)]
    have e53 : am_u I 104 20 (I 104 20 + nI 1) 69 53 = sd := by rw [am_u_n1 (by omega)]; exact hsd
    have eq : lotF (am_u I 104 20 (I 104 20 + nI 1) 69 53) (nI 4 * I 104 19 + nI 1) (p_S σ) = rDrw σ sd (I 104) := by rw [e53]; rfl
    rw [eq]
    have hq : rDrw σ sd (I 104) < p_S σ := lotF_lt (by omega)
    have hag : am_ag sc2 I (am_u I 104 20 (I 104 20 + nI 1)) := am_ag.refl.u (by unfold sc2; omega)
    have HJ := H.ag hag
    have eJ : am_u I 104 20 (I 104 20 + nI 1) 104 = rS20 (I 104) := am_u_upd
    have hKJ : am_u I 104 20 (I 104 20 + nI 1) 104 30 = nI K := by rw [am_u_n2 (by omega)]; exact hK
    generalize am_u I 104 20 (I 104 20 + nI 1) = J at hag HJ eJ hKJ ⊢
    simp only [am_lv_of, rX13_pulls_64, rX13_pulls_65, rX13_pulls_66, rX13_pulls_67, sh_69, hl, hvw9, Nat.reduceLT, Nat.reduceAdd, Nat.reduceMul, ne_eq, Nat.reduceEqDiff, not_false_eq_true, or_true, true_or, or_false, false_or, and_true, true_and, and_self, Nat.reduceLeDiff, am_ci, am_cr, am_cn0, Option.toList_some, Option.toList_none, List.cons_append, List.nil_append, am_s0, am_s1, am_s1r, am_s2, am_s2r, am_s3r, nI_add, am_u_ne, am_u_at, am_u_n1, am_u_n2, am_w_ne, c_staysWithin hR hN HJ hq, eJ, rX13_pulls_70, bI_ne]
    by_cases hst2 : rSt σ (rS20 (I 104)) (rDrw σ sd (I 104)) = true
    · have ep : rPb σ st sd (I 104) s = rMvP σ (rS20 (I 104)) (rDrw σ sd (I 104)) := by unfold rPb; rw [if_pos hw, if_pos hst2]
      rw [ep] at hQ
      simp only [hst2, Bool.true_eq_false, not_false_eq_true, if_true]
      refine l_pullsB hR hN hn HJ hq hKJ hK2 (fun I2 v v1 v2 v3 v4 => ?_)
      rw [eJ] at v2 v4
      exact hQ I2 v v1 v2 (hag.trans v3) v4
    · have ep : rPb σ st sd (I 104) s = rS20 (I 104) := by unfold rPb; rw [if_pos hw, if_neg hst2]
      rw [ep] at hQ
      have hst3 : rSt σ (rS20 (I 104)) (rDrw σ sd (I 104)) = false := by simpa using hst2
      have zm : (-1 : Int32) < 0 := by decide
      simp only [am_lv_of, hst3, not_true_eq_false, if_false, rX13_pulls_73, rX13_pulls_74, rX13_pulls_75, rX13_pulls_76, hl, hvw9, Nat.reduceLT, Nat.reduceAdd, Nat.reduceMul, ne_eq, Nat.reduceEqDiff, not_false_eq_true, or_true, true_or, or_false, false_or, and_true, true_and, and_self, Nat.reduceLeDiff, am_ci, am_cr, am_cn0, Option.toList_some, Option.toList_none, List.cons_append, List.nil_append, am_s0, am_s1, am_s1r, am_s2, am_s2r, am_s3r, nI_add, am_u_ne, am_u_at, am_u_n1, am_u_n2, am_w_ne, if_pos zm]
      refine l_pullsC hR hN hn HJ hKJ hK2 (fun I2 v v1 v2 v3 v4 => ?_)
      rw [eJ] at v2 v4
      exact hQ I2 v v1 v2 (hag.trans v3) v4
  · have hw' : ¬ nI (lotF sd (nI 4 * I 104 19) 100) < st := fun z => hw (by unfold rStm; exact decide_eq_true z)
    have h1 : st ≤ nI (lotF sd (nI 4 * I 104 19) 100) := Int32.not_lt.mp hw'
    have ep : rPb σ st sd (I 104) s = rMvP σ (I 104) s := by unfold rPb; rw [if_neg hw]
    rw [ep] at hQ
    simp only [if_pos h1]
    exact l_pullsB hR hN hn H hs hK hK2 hQ
theorem rMvP_n {r : Nat → Int32} {q j : Nat} (ho : ok_S σ) (hq : q < p_S σ) (h1 : 15 ≤ j) (h2 : j ≠ 21 + q) : rMvP σ r q j = r j := by
  have h5 : p_ow σ q < 5 := by have := (ho.2.2.2 q hq).1; have := ho.1; omega
  unfold rMvP rMv
  rw [upd_n h2, upd_n (by omega), upd_n (by omega), upd_n (by omega)]
theorem rMvP_at {r : Nat → Int32} {q : Nat} (ho : ok_S σ) (hq : q < p_S σ) : rMvP σ r q (21 + q) = r (21 + q) + nI 1 := by
  have h5 : p_ow σ q < 5 := by have := (ho.2.2.2 q hq).1; have := ho.1; omega
  unfold rMvP rMv
  rw [upd_at, upd_n (by omega), upd_n (by omega), upd_n (by omega)]
theorem rDrw_lt {sd : Int32} {r : Nat → Int32} (h : 0 < p_S σ) : rDrw σ sd r < p_S σ := lotF_lt h
theorem rPb_n {st sd : Int32} {r : Nat → Int32} {s j : Nat} (ho : ok_S σ) (hs : s < p_S σ) (h1 : 15 ≤ j) (h2 : j ≠ 20) (h3 : ¬ (21 ≤ j ∧ j < 28)) : rPb σ st sd r s j = r j := by
  have hq : rDrw σ sd r < p_S σ := rDrw_lt (by omega)
  have S7 := ho.2.1
  unfold rPb
  split
  · split
    · rw [rMvP_n ho hq h1 (by omega)]; unfold rS20; rw [upd_n h2]
    · unfold rS20; rw [upd_n h2]
  · rw [rMvP_n ho hs h1 (by omega)]
theorem rMvP_c {r r' : Nat → Int32} {s : Nat} (ho : ok_S σ) (hs : s < p_S σ) (g : ∀ j, j < 68 → r' j = r j) : ∀ j, j < 68 → rMvP σ r' s j = rMvP σ r s j := by
  have S7 := ho.2.1
  exact upd_c (by rw [rMv_c ho hs g _ (by omega)]) (rMv_c ho hs g)
theorem rS20_c {r r' : Nat → Int32} (g : ∀ j, j < 68 → r' j = r j) : ∀ j, j < 68 → rS20 r' j = rS20 r j := upd_c (by rw [g 20 (by omega)]) g
theorem rSt_c {r r' : Nat → Int32} {s : Nat} (ho : ok_S σ) (hs : s < p_S σ) (g : ∀ j, j < 15 → r' j = r j) : rSt σ r' s = rSt σ r s := by
  have h5 : p_ow σ s < 5 := by have := (ho.2.2.2 s hs).1; have := ho.1; omega
  unfold rSt rGo
  rw [g _ (by omega)]
theorem rPb_c {st sd : Int32} {r r' : Nat → Int32} {s : Nat} (ho : ok_S σ) (hs : s < p_S σ) (g : ∀ j, j < 68 → r' j = r j) : ∀ j, j < 68 → rPb σ st sd r' s j = rPb σ st sd r s j := by
  have e1 : rStm st sd r' = rStm st sd r := by unfold rStm; rw [g 19 (by omega)]
  have e2 : rDrw σ sd r' = rDrw σ sd r := by unfold rDrw; rw [g 19 (by omega)]
  have hq : rDrw σ sd r < p_S σ := rDrw_lt (by omega)
  have e3 : rSt σ (rS20 r') (rDrw σ sd r) = rSt σ (rS20 r) (rDrw σ sd r) := rSt_c ho hq (fun j hj => rS20_c g j (by omega))
  unfold rPb
  rw [e1, e2, e3]
  split
  · split
    · exact rMvP_c ho hq (rS20_c g)
    · exact rS20_c g
  · exact rMvP_c ho hs g
theorem crs_mv {J : Nat → Nat → Int32} {q w : Nat} {r : Nat → Int32} (ho : ok_S σ) (hq : q < p_S σ) (h : crs I 34 (p_P σ) (p_S σ) r) (hst : rSt σ r q = true) (cw : I 34 0 = nI w) (cp : psr w (p_P σ) r) (g0 : J 34 0 = nI (cMv σ w q)) (g1 : ∀ j, j ≠ 0 → J 34 j = I 34 j) (g2 : J 35 q = I 35 q + nI 1) (g3 : ∀ j, j ≠ q → J 35 j = I 35 j) (g4 : ∀ k j, 36 ≤ k → k < 39 → J k j = I k j) : crs J 34 (p_P σ) (p_S σ) (rMvP σ r q) := by
  have S7 := ho.2.1
  obtain ⟨w0, K, h1, h2, h3, h4, h5, h6, h7, h8, h9, h10, h11, h12, h13, h14, h15, h16, h17⟩ := h
  have es : ∀ j, 15 ≤ j → j ≠ 21 + q → rMvP σ r q j = r j := fun j j1 j2 => rMvP_n ho hq j1 j2
  have p2 : psr (cMv σ w q) (p_P σ) (rMvP σ r q) := (cp.mv ho hq hst).mv' (fun j hj => by unfold rMvP; rw [upd_n (by omega)])
  refine ⟨cMv σ w q, K, g0, p2, ?_, ?_, ?_, ?_, ?_, ?_, ?_, ?_, ?_, ?_, h13, fun s hs => ?_, fun i hi => ?_, ?_, ?_⟩
  · rw [g1 _ (by omega), es _ (by omega) (by omega)]; exact h3
  · rw [g1 _ (by omega), es _ (by omega) (by omega)]; exact h4
  · rw [g1 _ (by omega), es _ (by omega) (by omega)]; exact h5
  · rw [g1 _ (by omega), es _ (by omega) (by omega)]; exact h6
  · rw [g1 _ (by omega), es _ (by omega) (by omega)]; exact h7
  · rw [g1 _ (by omega), es _ (by omega) (by omega)]; exact h8
  · rw [g1 _ (by omega), es _ (by omega) (by omega)]; exact h9
  · rw [g1 _ (by omega), es _ (by omega) (by omega)]; exact h10
  · rw [g1 _ (by omega)]; exact h11
  · rw [es _ (by omega) (by omega)]; exact h12
  · by_cases e : s = q
    · subst e
      rw [rMvP_at ho hq]
      exact ⟨by rw [g2, (h14 s hs).1], fun z => absurd hq (by omega)⟩
    · rw [g3 _ e, es _ (by omega) (by omega)]; exact h14 s hs
  · rw [g4 _ _ (by omega) (by omega), g4 _ _ (by omega) (by omega), g4 _ _ (by omega) (by omega), es _ (by omega) (by omega), es _ (by omega) (by omega), es _ (by omega) (by omega)]; exact h15 i hi
  · rw [es _ (by omega) (by omega)]; exact h16
  · rw [es _ (by omega) (by omega)]; exact h17
theorem crs_20 {J : Nat → Nat → Int32} {P S : Nat} {r : Nat → Int32} (h : crs I 34 P S r) (g0 : J 34 6 = I 34 6 + nI 1) (g1 : ∀ j, j ≠ 6 → J 34 j = I 34 j) (g4 : ∀ k j, 35 ≤ k → k < 39 → J k j = I k j) : crs J 34 P S (rS20 r) := by
  obtain ⟨w0, K, h1, h2, h3, h4, h5, h6, h7, h8, h9, h10, h11, h12, h13, h14, h15, h16, h17⟩ := h
  have es : ∀ j, j ≠ 20 → rS20 r j = r j := fun j j1 => by unfold rS20; rw [upd_n j1]
  refine ⟨w0, K, ?_, h2.mv' (fun j hj => es j (by omega)), ?_, ?_, ?_, ?_, ?_, ?_, ?_, ?_, ?_, ?_, h13, fun s hs => ?_, fun i hi => ?_, ?_, ?_⟩
  · rw [g1 _ (by omega)]; exact h1
  · rw [g1 _ (by omega), es _ (by omega)]; exact h3
  · rw [g1 _ (by omega), es _ (by omega)]; exact h4
  · rw [g1 _ (by omega), es _ (by omega)]; exact h5
  · rw [g1 _ (by omega), es _ (by omega)]; exact h6
  · rw [g1 _ (by omega), es _ (by omega)]; exact h7
  · rw [g0, h8]; unfold rS20; rw [upd_at]
  · rw [g1 _ (by omega), es _ (by omega)]; exact h9
  · rw [g1 _ (by omega), es _ (by omega)]; exact h10
  · rw [g1 _ (by omega)]; exact h11
  · rw [es _ (by omega)]; exact h12
  · rw [g4 _ _ (by omega) (by omega), es _ (by omega)]; exact h14 s hs
  · rw [g4 _ _ (by omega) (by omega), g4 _ _ (by omega) (by omega), g4 _ _ (by omega) (by omega), es _ (by omega), es _ (by omega), es _ (by omega)]; exact h15 i hi
  · rw [es _ (by omega)]; exact h16
  · rw [es _ (by omega)]; exact h17
/-- the class: the string is pulled (from 103 on) -/
theorem l_pullC {q w : Nat} {l1 : Option Value} {r : Nat → Int32} (hR : am_OR R) (hN : 116 ≤ n) (hn : n ≤ 1000) (ho : ok_S σ) (H : cl_S I σ) (hq : q < p_S σ) (h : crs I 34 (p_P σ) (p_S σ) r) (hQ : ∀ I', am_ag (coP 34) I I' → crs I' 34 (p_P σ) (p_S σ) (if rSt σ r q = true then rMvP σ r q else r) → am_E X (d + 10) mX12_pull 126 [some (.ref 0), l1, some (.int (nI q))] [] (n, I', L, R) Q) : am_E X (d + 10) mX12_pull 103 [some (.ref 0), l1, some (.int (nI q))] [] (n, I, L, R) Q := by
  have hl := am_lt hN
  have hvw9 := am_lw hN
  have S7 := ho.2.1
  obtain ⟨w, K, cw, cp, -⟩ := id h
  simp only [am_lv_of, rX12_pull_103, rX12_pull_104, rX12_pull_107, rX12_pull_108, rX12_pull_111, rX12_pull_112, rX12_pull_115, rX12_pull_118, rX12_pull_119, rX12_pull_122, ro_0_0 hR, ro_0_3 hR, ro_0_4 hR, ro_0_5 hR, ro_0_6 hR, ro_0_7 hR, ro_0_8 hR, ro_0_9 hR, ro_0_10 hR, ro_0_11 hR, ro_2_6 hR, ro_2_7 hR, ro_2_8 hR, ro_2_9 hR, ro_2_10 hR, ro_2_11 hR, ro_2_12 hR, ro_2_13 hR, ro_9_0 hR, ro_9_1 hR, ro_9_2 hR, ro_14_0 hR, ro_14_1 hR, ro_14_2 hR, ro_14_7 hR, ro_15_0 hR, ro_15_1 hR, ro_15_2 hR, ro_15_3 hR, ro_20_6 hR, ro_20_7 hR, ro_20_8 hR, ro_20_9 hR, ro_20_10 hR, ro_20_11 hR, ro_20_12 hR, ro_20_13 hR, ro_27_0 hR, ro_27_1 hR, ro_27_2 hR, ro_32_0 hR, ro_32_1 hR, ro_34_10 hR, ro_34_11 hR, ro_34_12 hR, ro_34_13 hR, ro_39_0 hR, ro_39_1 hR, ro_42_0 hR, ro_42_1 hR, ro_47_0 hR, ro_47_1 hR, ro_47_2 hR, ro_47_3 hR, ro_55_0 hR, ro_55_1 hR, ro_55_2 hR, ro_57_0 hR, ro_57_1 hR, ro_57_2 hR, ro_57_3 hR, ro_57_4 hR, ro_57_5 hR, ro_57_8 hR, sh_0, sh_1, sh_2, sh_3, sh_4, sh_5, sh_6, sh_7, sh_8, sh_9, sh_10, sh_11, sh_12, sh_13, sh_14, sh_15, sh_16, sh_17, sh_18, sh_19, sh_20, sh_21, sh_22, sh_23, sh_24, sh_25, sh_26, sh_27, sh_28, sh_29, sh_30, sh_31, sh_32, sh_33, sh_34, sh_35, sh_36, sh_37, sh_38, sh_39, sh_40, sh_41, sh_42, sh_43, sh_44, sh_45, sh_46, sh_47, sh_48, sh_49, sh_50, sh_51, sh_52, sh_53, sh_54, sh_55, sh_56, sh_57, sh_58, sh_59, sh_60, sh_61, sh_62, sh_63, sh_64, sh_65, sh_66, sh_67, sh_68, hl, hvw9, Nat.reduceLT, Nat.reduceAdd, Nat.reduceMul, ne_eq, Nat.reduceEqDiff, not_false_eq_true, or_true, true_or, or_false, false_or, and_true, true_and, and_self, Nat.reduceLeDiff, am_ci, am_cr, am_cn0, Option.toList_some, Option.toList_none, List.cons_append, List.nil_append, am_s0, am_s1, am_s1r, am_s2, am_s2r, am_s3r, nI_add, am_u_ne, am_u_at, am_u_n1, am_u_n2, am_w_ne, cw, c_moved hR hN hn ho H hq cp]
  simp only [am_lv_of, rX12_pull_123, sh_34, hl, hvw9, Nat.reduceLT, Nat.reduceAdd, Nat.reduceMul, ne_eq, Nat.reduceEqDiff, not_false_eq_true, or_true, true_or, or_false, false_or, and_true, true_and, and_self, Nat.reduceLeDiff, am_ci, am_cr, am_cn0, Option.toList_some, Option.toList_none, List.cons_append, List.nil_append, am_s0, am_s1, am_s1r, am_s2, am_s2r, am_s3r, nI_add, am_u_ne, am_u_at, am_u_n1, am_u_n2, am_w_ne]
  rw [c_moveBy hR hN hn (by omega)]
  simp only [Option.toList_none, List.nil_append]
  by_cases hst : rSt σ r q = true
  · have hne := cMv_ne ho hq cp hst
    rw [if_pos hst] at hQ
    rw [if_pos hst, if_neg hne]
    refine hQ _ (fun k j hk => ?_) (crs_mv ho hq h hst cw cp ?_ (fun j hj => ?_) ?_ (fun j hj => ?_) (fun k j k1 k2 => ?_))
    · unfold coP at hk; rw [am_u_n1 (by omega), am_u_n1 (by omega)]
    · rw [am_u_n1 (by omega), am_u_at]
    · rw [am_u_n1 (by omega), am_u_n2 hj]
    · rw [am_u_at]
    · rw [am_u_n2 hj, am_u_n1 (by omega)]
    · rw [am_u_n1 (by omega), am_u_n1 (by omega)]
  · rw [if_neg hst] at hQ
    rw [if_neg hst, if_pos rfl]
    exact hQ I am_ag.refl h
theorem s_pull {a : Int32} (H : REL (n, I, L, R)) : sim X (d + 30) mX12_pull mX13_pull [some (.ref 0), some (.int a), none] [some (.ref 69), some (.int a)] (n, I, L, R) := by
  obtain ⟨σ, H⟩ := H
  have hR := H.1.1
  have hN := H.1.N
  have hn := H.1.n
  have hl := am_lt hN
  have hvw9 := am_lw hN
  obtain ⟨S1, S2, S3, S4, S5, S6, S7, ws, S8, S9⟩ := id (show relS I σ from H.2.2.1)
  obtain ⟨o1, o2, o3, o4⟩ := id S3
  obtain ⟨b1, b2, b3, b4, bz, b5, b6, b7⟩ := id S2
  obtain ⟨f1, f2, f3, f4, f5, f6, f7, f8, f9, f10⟩ := id S1
  obtain ⟨w, K, cw, cp, c16, c15, c17, c18, c19, c20, c28, c29, cK, c30, cK12, cpl, cpr, cs, cv⟩ := id (show crs I 34 (p_P σ) (p_S σ) (I 103) from H.2.2.2.2.1)
  unfold sim
  obtain ⟨u, nx, u1, u2, u3, u4, u5, u6⟩ : relU I R (p_P σ) (p_S σ) := H.2.2.2.2.2.1
  simp only [am_lv_of, rX12_pull_0, rX12_pull_1, rX12_pull_4, rX12_pull_5, ro_0_0 hR, ro_0_3 hR, ro_0_4 hR, ro_0_5 hR, ro_0_6 hR, ro_0_7 hR, ro_0_8 hR, ro_0_9 hR, ro_0_10 hR, ro_0_11 hR, ro_2_6 hR, ro_2_7 hR, ro_2_8 hR, ro_2_9 hR, ro_2_10 hR, ro_2_11 hR, ro_2_12 hR, ro_2_13 hR, ro_9_0 hR, ro_9_1 hR, ro_9_2 hR, ro_14_0 hR, ro_14_1 hR, ro_14_2 hR, ro_14_7 hR, ro_15_0 hR, ro_15_1 hR, ro_15_2 hR, ro_15_3 hR, ro_20_6 hR, ro_20_7 hR, ro_20_8 hR, ro_20_9 hR, ro_20_10 hR, ro_20_11 hR, ro_20_12 hR, ro_20_13 hR, ro_27_0 hR, ro_27_1 hR, ro_27_2 hR, ro_32_0 hR, ro_32_1 hR, ro_34_10 hR, ro_34_11 hR, ro_34_12 hR, ro_34_13 hR, ro_39_0 hR, ro_39_1 hR, ro_42_0 hR, ro_42_1 hR, ro_47_0 hR, ro_47_1 hR, ro_47_2 hR, ro_47_3 hR, ro_55_0 hR, ro_55_1 hR, ro_55_2 hR, ro_57_0 hR, ro_57_1 hR, ro_57_2 hR, ro_57_3 hR, ro_57_4 hR, ro_57_5 hR, ro_57_8 hR, sh_0, sh_1, sh_2, sh_3, sh_4, sh_5, sh_6, sh_7, sh_8, sh_9, sh_10, sh_11, sh_12, sh_13, sh_14, sh_15, sh_16, sh_17, sh_18, sh_19, sh_20, sh_21, sh_22, sh_23, sh_24, sh_25, sh_26, sh_27, sh_28, sh_29, sh_30, sh_31, sh_32, sh_33, sh_34, sh_35, sh_36, sh_37, sh_38, sh_39, sh_40, sh_41, sh_42, sh_43, sh_44, sh_45, sh_46, sh_47, sh_48, sh_49, sh_50, sh_51, sh_52, sh_53, sh_54, sh_55, sh_56, sh_57, sh_58, sh_59, sh_60, sh_61, sh_62, sh_63, sh_64, sh_65, sh_66, sh_67, sh_68, hl, hvw9, Nat.reduceLT, Nat.reduceAdd, Nat.reduceMul, ne_eq, Nat.reduceEqDiff, not_false_eq_true, or_true, true_or, or_false, false_or, and_true, true_and, and_self, Nat.reduceLeDiff, am_ci, am_cr, am_cn0, Option.toList_some, Option.toList_none, List.cons_append, List.nil_append, am_s0, am_s1, am_s1r, am_s2, am_s2r, am_s3r, nI_add, am_u_ne, am_u_at, am_u_n1, am_u_n2, am_w_ne, c_hasString hN b2 o2]
  by_cases hp : isN (p_S σ) a = true
  · obtain ⟨s, hs, rfl⟩ := (isN_iff (by omega)).mp hp
    simp only [am_lv_of, hp, rX12_pull_8, rX12_pull_11, rX12_pull_12, rX12_pull_13, rX12_pull_14, rX12_pull_15, rX12_pull_18, rX12_pull_21, rX12_pull_22, ro_0_0 hR, ro_0_3 hR, ro_0_4 hR, ro_0_5 hR, ro_0_6 hR, ro_0_7 hR, ro_0_8 hR, ro_0_9 hR, ro_0_10 hR, ro_0_11 hR, ro_2_6 hR, ro_2_7 hR, ro_2_8 hR, ro_2_9 hR, ro_2_10 hR, ro_2_11 hR, ro_2_12 hR, ro_2_13 hR, ro_9_0 hR, ro_9_1 hR, ro_9_2 hR, ro_14_0 hR, ro_14_1 hR, ro_14_2 hR, ro_14_7 hR, ro_15_0 hR, ro_15_1 hR, ro_15_2 hR, ro_15_3 hR, ro_20_6 hR, ro_20_7 hR, ro_20_8 hR, ro_20_9 hR, ro_20_10 hR, ro_20_11 hR, ro_20_12 hR, ro_20_13 hR, ro_27_0 hR, ro_27_1 hR, ro_27_2 hR, ro_32_0 hR, ro_32_1 hR, ro_34_10 hR, ro_34_11 hR, ro_34_12 hR, ro_34_13 hR, ro_39_0 hR, ro_39_1 hR, ro_42_0 hR, ro_42_1 hR, ro_47_0 hR, ro_47_1 hR, ro_47_2 hR, ro_47_3 hR, ro_55_0 hR, ro_55_1 hR, ro_55_2 hR, ro_57_0 hR, ro_57_1 hR, ro_57_2 hR, ro_57_3 hR, ro_57_4 hR, ro_57_5 hR, ro_57_8 hR, sh_0, sh_1, sh_2, sh_3, sh_4, sh_5, sh_6, sh_7, sh_8, sh_9, sh_10, sh_11, sh_12, sh_13, sh_14, sh_15, sh_16, sh_17, sh_18, sh_19, sh_20, sh_21, sh_22, sh_23, sh_24, sh_25, sh_26, sh_27, sh_28, sh_29, sh_30, sh_31, sh_32, sh_33, sh_34, sh_35, sh_36, sh_37, sh_38, sh_39, sh_40, sh_41, sh_42, sh_43, sh_44, sh_45, sh_46, sh_47, sh_48, sh_49, sh_50, sh_51, sh_52, sh_53, sh_54, sh_55, sh_56, sh_57, sh_58, sh_59, sh_60, sh_61, sh_62, sh_63, sh_64, sh_65, sh_66, sh_67, sh_68, hl, hvw9, Nat.reduceLT, Nat.reduceAdd, Nat.reduceMul, ne_eq, Nat.reduceEqDiff, not_false_eq_true, or_true, true_or, or_false, false_or, and_true, true_and, and_self, Nat.reduceLeDiff, am_ci, am_cr, am_cn0, Option.toList_some, Option.toList_none, List.cons_append, List.nil_append, am_s0, am_s1, am_s1r, am_s2, am_s2r, am_s3r, nI_add, am_u_ne, am_u_at, am_u_n1, am_u_n2, am_w_ne, ↓reduceIte, b_t, c15]
    refine c_mayBy hR hN hn S3 S2 hs cw c16 c17 cp (fun Ia ga => ?_)
    have Ha := H.scr (sk_scr ga)
    have ea : ∀ k j, k ≠ 33 → k ≠ 12 → Ia k j = I k j := fun k j k1 k2 => ga k j (by unfold skc; omega)
    have e103 : Ia 103 = I 103 := funext fun j => ea 103 j (by omega) (by omega)
    simp only [am_lv_of, Option.toList_some, List.cons_append, List.nil_append, rX12_pull_25, bI_ne]
    by_cases hm : rMayB σ (I 103) s (I 103 15) = true
    · have h0 : I 103 17 = 0 := by unfold rMayB at hm; simp at hm; exact hm.1
      have hst : rSt σ (I 103) s = true := by unfold rMayB rMay at hm; simp at hm; exact hm.2.1.2
      simp only [am_lv_of, hm, Bool.true_eq_false, not_false_eq_true, ↓reduceIte, rX12_pull_31, rX12_pull_32, rX12_pull_35, rX12_pull_36, rX12_pull_39, ro_0_0 hR, ro_0_3 hR, ro_0_4 hR, ro_0_5 hR, ro_0_6 hR, ro_0_7 hR, ro_0_8 hR, ro_0_9 hR, ro_0_10 hR, ro_0_11 hR, ro_2_6 hR, ro_2_7 hR, ro_2_8 hR, ro_2_9 hR, ro_2_10 hR, ro_2_11 hR, ro_2_12 hR, ro_2_13 hR, ro_9_0 hR, ro_9_1 hR, ro_9_2 hR, ro_14_0 hR, ro_14_1 hR, ro_14_2 hR, ro_14_7 hR, ro_15_0 hR, ro_15_1 hR, ro_15_2 hR, ro_15_3 hR, ro_20_6 hR, ro_20_7 hR, ro_20_8 hR, ro_20_9 hR, ro_20_10 hR, ro_20_11 hR, ro_20_12 hR, ro_20_13 hR, ro_27_0 hR, ro_27_1 hR, ro_27_2 hR, ro_32_0 hR, ro_32_1 hR, ro_34_10 hR, ro_34_11 hR, ro_34_12 hR, ro_34_13 hR, ro_39_0 hR, ro_39_1 hR, ro_42_0 hR, ro_42_1 hR, ro_47_0 hR, ro_47_1 hR, ro_47_2 hR, ro_47_3 hR, ro_55_0 hR, ro_55_1 hR, ro_55_2 hR, ro_57_0 hR, ro_57_1 hR, ro_57_2 hR, ro_57_3 hR, ro_57_4 hR, ro_57_5 hR, ro_57_8 hR, sh_0, sh_1, sh_2, sh_3, sh_4, sh_5, sh_6, sh_7, sh_8, sh_9, sh_10, sh_11, sh_12, sh_13, sh_14, sh_15, sh_16, sh_17, sh_18, sh_19, sh_20, sh_21, sh_22, sh_23, sh_24, sh_25, sh_26, sh_27, sh_28, sh_29, sh_30, sh_31, sh_32, sh_33, sh_34, sh_35, sh_36, sh_37, sh_38, sh_39, sh_40, sh_41, sh_42, sh_43, sh_44, sh_45, sh_46, sh_47, sh_48, sh_49, sh_50, sh_51, sh_52, sh_53, sh_54, sh_55, sh_56, sh_57, sh_58, sh_59, sh_60, sh_61, sh_62, sh_63, sh_64, sh_65, sh_66, sh_67, sh_68, hl, hvw9, Nat.reduceLT, Nat.reduceAdd, Nat.reduceMul, ne_eq, Nat.reduceEqDiff, not_false_eq_true, or_true, true_or, or_false, false_or, and_true, true_and, and_self, Nat.reduceLeDiff, am_ci, am_cr, am_cn0, Option.toList_some, Option.toList_none, List.cons_append, List.nil_append, am_s0, am_s1, am_s1r, am_s2, am_s2r, am_s3r, nI_add, am_u_ne, am_u_at, am_u_n1, am_u_n2, am_w_ne]
      refine c_remember Ha.1 (by rw [ea 39 4 (by omega) (by omega)]; exact u3) u1 (by rw [ea 39 3 (by omega) (by omega)]; exact u5) u2 (fun n1 I1 L1 R1 c m1 m2 m3 m4 m5 m6 m7 m8 m9 m10 m11 => ?_)
      have hR1 := m2.1
      have hN1 := m2.N
      have hn1 := m2.n
      have hl1 := am_lt hN1
      have hvw91 := am_lw hN1
      have c116 := m3.1
      have low1 : ∀ k j, k < 116 → ¬ (k = 39 ∧ (j = 3 ∨ j = 4)) → I1 k j = Ia k j := fun k j k1 k2 => m8 k j (by omega) (by unfold coP; omega) k2
      have C1 : cl_S I1 σ := Ha.cl.ag (fun k j hk => low1 k j (by omega) (by omega))
      have co1 : crs I1 34 (p_P σ) (p_S σ) (I 103) := H.co.mv (fun k j k1 k2 => (low1 k j (by omega) (by omega)).trans (ea k j (by omega) (by omega))) (fun _ _ => rfl)
      clear hl hR hn
      have hl := hl1
      have hvw9 := hvw91
      have hR := hR1
      have hn := hn1
      have q24 : I1 2 4 = I 90 (p_lv σ) := by rw [low1 2 4 (by omega) (by omega), ea 2 4 (by omega) (by omega)]; exact S5
      have q23 : I1 2 3 = I 89 (p_lv σ) := by rw [low1 2 3 (by omega) (by omega), ea 2 3 (by omega) (by omega)]; exact S4
      have q345 : I1 34 5 = I 103 19 := by rw [low1 34 5 (by omega) (by omega), ea 34 5 (by omega) (by omega)]; exact c19
      have q346 : I1 34 6 = I 34 6 := by rw [low1 34 6 (by omega) (by omega), ea 34 6 (by omega) (by omega)]
      -- both ways lead to a course with the row behind the pull
      have fin : ∀ {I2 : Nat → Nat → Int32} {q : Nat}, am_ag (coP 34) I1 I2 → crs I2 34 (p_P σ) (p_S σ) (rPb σ (I 89 (p_lv σ)) (I 90 (p_lv σ)) (I 103) s) → am_E X (d + 30) mX12_pull 126 [some (.ref 0), some (.int (nI s)), some (.int (nI q))] [] (n1, I2, L1, R1) (fun v M1 => am_E X (d + 30) mX13_pull 0 [some (.ref 69), some (.int (nI s))] [] M1 (fun v' M2 => v = v' ∧ REL M2)) := by
        intro I2 q g2 co2
        have C2 : cl_S I2 σ := C1.ag (fun k j hk => g2 k j (by unfold coP; omega))
        have h0' : rPb σ (I 89 (p_lv σ)) (I 90 (p_lv σ)) (I 103) s 17 = nI 0 := by rw [rPb_n S3 hs (by omega) (by omega) (by omega)]; exact h0
        simp only [am_lv_of, rX12_pull_126, rX12_pull_127, sh_0, hl, hvw9, Nat.reduceLT, Nat.reduceAdd, Nat.reduceMul, ne_eq, Nat.reduceEqDiff, not_false_eq_true, or_true, true_or, or_false, false_or, and_true, true_and, and_self, Nat.reduceLeDiff, am_ci, am_cr, am_cn0, Option.toList_some, Option.toList_none, List.cons_append, List.nil_append, am_s0, am_s1, am_s1r, am_s2, am_s2r, am_s3r, nI_add, am_u_ne, am_u_at, am_u_n1, am_u_n2, am_w_ne]
        refine c_endTurn hR1 hN1 hn1 S3 C2 co2 h0' (fun I3 v K v1 v2 v3 v4 g3 co3 => ?_)
        have g13 : am_ag ctP I1 I3 := (g2.mono (fun k j z => Or.inl z)).trans g3
        have M := rem_ct m1 m2 m3 m4 m5 m6 m7 m8 m9 m10 m11 Ha.co g13
        have low3' := M.low hN
        have low3 : ∀ k j, k < 116 → ¬ (34 ≤ k ∧ k < 39) → k ≠ 33 → k ≠ 12 → ¬ (k = 39 ∧ (j = 3 ∨ j = 4)) → I3 k j = I k j := fun k j k1 k2 k3 k4 k5 => (low3' k j k1 k2 k3 k4 k5).trans (ea k j k3 k4)
        obtain ⟨w3, K3, y1, y2, y16, y15, y17, -⟩ := id co3
        have r34 := ro_0_6 hR1
        simp only [am_lv_of, Option.toList_none, List.nil_append, rX12_pull_130, rX12_pull_131, rX12_pull_134, rX12_pull_137, r34, sh_0, sh_34, hl, hvw9, Nat.reduceLT, Nat.reduceAdd, Nat.reduceMul, ne_eq, Nat.reduceEqDiff, not_false_eq_true, or_true, true_or, or_false, false_or, and_true, true_and, and_self, Nat.reduceLeDiff, am_ci, am_cr, am_cn0, Option.toList_some, Option.toList_none, List.cons_append, List.nil_append, am_s0, am_s1, am_s1r, am_s2, am_s2r, am_s3r, nI_add, am_u_ne, am_u_at, am_u_n1, am_u_n2, am_w_ne, y17]
        have T3 : relS I3 σ := relS.fr H.2.2.1 (fun k j hk => low3 k j (by omega) (by omega) (by omega) (by omega) (by omega))
        simp only [am_lv_of, rX13_pull_0, rX13_pull_1, rX13_pull_2, rX13_pull_5, rX13_pull_8, rX13_pull_9, rX13_pull_10, rX13_pull_11, ro_69_1 hR, ro_69_3 hR, ro_69_5 hR, ro_69_6 hR, ro_69_7 hR, ro_69_8 hR, ro_69_9 hR, ro_69_21 hR, ro_69_22 hR, ro_69_23 hR, ro_69_24 hR, ro_69_25 hR, ro_69_26 hR, ro_69_27 hR, ro_69_28 hR, ro_69_29 hR, ro_69_30 hR, ro_69_31 hR, ro_69_32 hR, ro_69_33 hR, ro_69_34 hR, ro_69_35 hR, ro_69_36 hR, ro_69_38 hR, ro_69_39 hR, ro_69_40 hR, ro_69_41 hR, ro_69_42 hR, ro_69_44 hR, ro_69_45 hR, ro_69_46 hR, ro_69_48 hR, ro_69_49 hR, ro_69_51 hR, ro_69_52 hR, ro_69_55 hR, ro_69_56 hR, ro_69_57 hR, ro_69_58 hR, ro_69_59 hR, ro_69_61 hR, ro_69_62 hR, ro_69_63 hR, ro_69_64 hR, ro_69_65 hR, ro_69_66 hR, sh_69, sh_70, sh_71, sh_72, sh_73, sh_74, sh_75, sh_76, sh_77, sh_78, sh_79, sh_80, sh_81, sh_82, sh_83, sh_84, sh_85, sh_86, sh_87, sh_88, sh_89, sh_90, sh_91, sh_92, sh_93, sh_94, sh_95, sh_96, sh_97, sh_98, sh_99, sh_100, sh_101, sh_102, sh_103, sh_104, sh_105, sh_106, sh_107, sh_108, sh_109, sh_110, sh_111, sh_112, sh_113, sh_114, sh_115, hl, hvw9, Nat.reduceLT, Nat.reduceAdd, Nat.reduceMul, ne_eq, Nat.reduceEqDiff, not_false_eq_true, or_true, true_or, or_false, false_or, and_true, true_and, and_self, Nat.reduceLeDiff, am_ci, am_cr, am_cn0, Option.toList_some, Option.toList_none, List.cons_append, List.nil_append, am_s0, am_s1, am_s1r, am_s2, am_s2r, am_s3r, nI_add, am_u_ne, am_u_at, am_u_n1, am_u_n2, am_w_ne, ↓reduceIte, c_isString hR1 hN1 T3.1, hp, b_t, not_false_eq_true]
        refine c_copies hR1 hN1 hn1 T3.1 (fun I4 g4 e4 e4' => ?_)
        have e4 : ∀ j, j < 68 → I4 104 j = I 103 j := fun j hj => by rw [e4 j hj, low3 103 j (by omega) (by omega) (by omega) (by omega) (by omega)]
        have s4 : am_ag sc2 I3 I4 := g4.mono (fun k j z => by unfold sc2; omega)
        have T4 := T3.1.ag s4
        simp only [am_lv_of, Option.toList_none, List.nil_append, rX13_pull_14, rX13_pull_15, rX13_pull_16, sh_69, hl, hvw9, Nat.reduceLT, Nat.reduceAdd, Nat.reduceMul, ne_eq, Nat.reduceEqDiff, not_false_eq_true, or_true, true_or, or_false, false_or, and_true, true_and, and_self, Nat.reduceLeDiff, am_ci, am_cr, am_cn0, Option.toList_some, Option.toList_none, List.cons_append, List.nil_append, am_s0, am_s1, am_s1r, am_s2, am_s2r, am_s3r, nI_add, am_u_ne, am_u_at, am_u_n1, am_u_n2, am_w_ne]
        refine c_mayNow hR1 hN1 hn1 T4 hs (fun I5 g5 => ?_)
        have T5 := T4.ag (ag1_2 g5)
        have s5 : am_ag sc2 I3 I5 := s4.trans (ag1_2 g5)
        have e5 : ∀ j, j < 68 → I5 104 j = I 103 j := fun j hj => by rw [ag1_104 g5]; exact e4 j hj
        have hmn : rMayN σ (I4 104) s = true := by rw [rMayN_c S3 hs e4]; exact hm
        simp only [am_lv_of, Option.toList_some, List.cons_append, List.nil_append, hmn, rX13_pull_19, rX13_pull_22, rX13_pull_24, rX13_pull_25, rX13_pull_26, rX13_pull_27, sh_69, hl, hvw9, Nat.reduceLT, Nat.reduceAdd, Nat.reduceMul, ne_eq, Nat.reduceEqDiff, not_false_eq_true, or_true, true_or, or_false, false_or, and_true, true_and, and_self, Nat.reduceLeDiff, am_ci, am_cr, am_cn0, Option.toList_some, Option.toList_none, List.cons_append, List.nil_append, am_s0, am_s1, am_s1r, am_s2, am_s2r, am_s3r, nI_add, am_u_ne, am_u_at, am_u_n1, am_u_n2, am_w_ne, ↓reduceIte, b_t, not_false_eq_true]
        have x89 : I5 89 (p_lv σ) = I 89 (p_lv σ) := by rw [s5 89 _ (by unfold sc2 sc1; omega)]; exact low3 89 _ (by omega) (by omega) (by omega) (by omega) (by omega)
        have x53 : I5 69 53 = I 90 (p_lv σ) := by rw [g5 69 53 (by unfold sc1; omega), e4', low3 90 _ (by omega) (by omega) (by omega) (by omega) (by omega)]
        have v3' : I 103 30 = nI K := by rw [← v3, rPb_n S3 hs (by omega) (by omega) (by omega)]
        refine c_pulls hR1 hN1 hn1 T5 hs (K := K) (by rw [e5 30 (by omega)]; exact v3') v4 x89 x53 (fun I6 v' w1 w2 w3 w4 => ?_)
        have ep : ∀ j, j < 68 → rPb σ (I 89 (p_lv σ)) (I 90 (p_lv σ)) (I5 104) s j = rPb σ (I 89 (p_lv σ)) (I 90 (p_lv σ)) (I 103) s j := rPb_c S3 hs e5
        have ev : v' = v := by
          have : nI v' = nI v := by rw [← w2, ← v2]; exact rVerd_c S3 (fun j hj => rEn0_c ep j (by omega))
          exact (nI_eq (by omega) (by omega)).mp this
        subst ev
        have x6 : ∀ j, j < 68 → I6 104 j = rKp (p_P σ) (rEnd σ (rPb σ (I 89 (p_lv σ)) (I 90 (p_lv σ)) (I 103) s)) v' K j := fun j hj => by rw [w4]; exact rKp_c o1 w1 (rEnd_c S3 ep) j hj
        have s6 : am_ag sc2 I3 I6 := s5.trans w3
        have u6' : I6 69 54 = nI u := by rw [s6 69 54 (by unfold sc2 sc1; omega), low3 69 54 (by omega) (by omega) (by omega) (by omega) (by omega)]; exact u4
        simp only [am_lv_of, Option.toList_none, List.nil_append, rX13_pull_30, rX13_pull_31, sh_69, hl, hvw9, Nat.reduceLT, Nat.reduceAdd, Nat.reduceMul, ne_eq, Nat.reduceEqDiff, not_false_eq_true, or_true, true_or, or_false, false_or, and_true, true_and, and_self, Nat.reduceLeDiff, am_ci, am_cr, am_cn0, Option.toList_some, Option.toList_none, List.cons_append, List.nil_append, am_s0, am_s1, am_s1r, am_s2, am_s2r, am_s3r, nI_add, am_u_ne, am_u_at, am_u_n1, am_u_n2, am_w_ne]
        refine c_keeps hR1 hN1 hn1 u6' u1 (fun I7 g7 h7 e7 => ?_)
        have x7 : ∀ j, j < 68 → I7 103 j = rKp (p_P σ) (rEnd σ (rPb σ (I 89 (p_lv σ)) (I 90 (p_lv σ)) (I 103) s)) v' K j := fun j hj => by rw [e7 j hj]; exact x6 j hj
        have r103 := ro_69_51 hR1
        simp only [am_lv_of, Option.toList_none, List.nil_append, rX13_pull_34, rX13_pull_35, rX13_pull_38, rX13_pull_40, rX13_pull_41, r103, sh_69, sh_103, hl, hvw9, Nat.reduceLT, Nat.reduceAdd, Nat.reduceMul, ne_eq, Nat.reduceEqDiff, not_false_eq_true, or_true, true_or, or_false, false_or, and_true, true_and, and_self, Nat.reduceLeDiff, am_ci, am_cr, am_cn0, Option.toList_some, Option.toList_none, List.cons_append, List.nil_append, am_s0, am_s1, am_s1r, am_s2, am_s2r, am_s3r, nI_add, am_u_ne, am_u_at, am_u_n1, am_u_n2, am_w_ne, x7 17 (by omega)]
        have q6 : ∀ k j, k = 105 ∨ k = 103 → I6 k j = I k j := fun k j hk => by
          rw [s6 k j (by unfold sc2 sc1; omega)]
          exact low3 k j (by omega) (by omega) (by omega) (by omega) (by omega)
        have ea105 : ∀ j, Ia 105 j = I 105 j := fun j => ea 105 j (by omega) (by omega)
        refine ⟨σ, REL_step Ha (by rw [ea 69 54 (by omega) (by omega)]; exact u4) u1 (by rw [ea 39 3 (by omega) (by omega)]; exact u5) u2 M co3 ((s6.mono (fun k j z => Or.inl z)).trans (g7.mono (fun k j z => Or.inr z))) h7.1 (fun i j hi hj => ?_) (fun j hj => ?_) x7⟩
        · rw [h7.2.1 i j hi hj, q6 105 _ (Or.inl rfl), ea105]
        · rw [h7.2.2 j hj, q6 103 _ (Or.inr rfl), e103]
      simp only [am_lv_of, Option.toList_none, List.nil_append, rX12_pull_42, rX12_pull_43, rX12_pull_44, rX12_pull_45, rX12_pull_48, rX12_pull_49, rX12_pull_52, rX12_pull_55, rX12_pull_56, rX12_pull_59, rX12_pull_62, ro_0_0 hR, ro_0_3 hR, ro_0_4 hR, ro_0_5 hR, ro_0_6 hR, ro_0_7 hR, ro_0_8 hR, ro_0_9 hR, ro_0_10 hR, ro_0_11 hR, ro_2_6 hR, ro_2_7 hR, ro_2_8 hR, ro_2_9 hR, ro_2_10 hR, ro_2_11 hR, ro_2_12 hR, ro_2_13 hR, ro_9_0 hR, ro_9_1 hR, ro_9_2 hR, ro_14_0 hR, ro_14_1 hR, ro_14_2 hR, ro_14_7 hR, ro_15_0 hR, ro_15_1 hR, ro_15_2 hR, ro_15_3 hR, ro_20_6 hR, ro_20_7 hR, ro_20_8 hR, ro_20_9 hR, ro_20_10 hR, ro_20_11 hR, ro_20_12 hR, ro_20_13 hR, ro_27_0 hR, ro_27_1 hR, ro_27_2 hR, ro_32_0 hR, ro_32_1 hR, ro_34_10 hR, ro_34_11 hR, ro_34_12 hR, ro_34_13 hR, ro_39_0 hR, ro_39_1 hR, ro_42_0 hR, ro_42_1 hR, ro_47_0 hR, ro_47_1 hR, ro_47_2 hR, ro_47_3 hR, ro_55_0 hR, ro_55_1 hR, ro_55_2 hR, ro_57_0 hR, ro_57_1 hR, ro_57_2 hR, ro_57_3 hR, ro_57_4 hR, ro_57_5 hR, ro_57_8 hR, sh_0, sh_1, sh_2, sh_3, sh_4, sh_5, sh_6, sh_7, sh_8, sh_9, sh_10, sh_11, sh_12, sh_13, sh_14, sh_15, sh_16, sh_17, sh_18, sh_19, sh_20, sh_21, sh_22, sh_23, sh_24, sh_25, sh_26, sh_27, sh_28, sh_29, sh_30, sh_31, sh_32, sh_33, sh_34, sh_35, sh_36, sh_37, sh_38, sh_39, sh_40, sh_41, sh_42, sh_43, sh_44, sh_45, sh_46, sh_47, sh_48, sh_49, sh_50, sh_51, sh_52, sh_53, sh_54, sh_55, sh_56, sh_57, sh_58, sh_59, sh_60, sh_61, sh_62, sh_63, sh_64, sh_65, sh_66, sh_67, sh_68, hl, hvw9, Nat.reduceLT, Nat.reduceAdd, Nat.reduceMul, ne_eq, Nat.reduceEqDiff, not_false_eq_true, or_true, true_or, or_false, false_or, and_true, true_and, and_self, Nat.reduceLeDiff, am_ci, am_cr, am_cn0, Option.toList_some, Option.toList_none, List.cons_append, List.nil_append, am_s0, am_s1, am_s1r, am_s2, am_s2r, am_s3r, nI_add, am_u_ne, am_u_at, am_u_n1, am_u_n2, am_w_ne, q24, q345, c_stormsAt hN1, q23, rX12_pull_65, bI_ne]
      by_cases hw : rStm (I 89 (p_lv σ)) (I 90 (p_lv σ)) (I 103) = true
      · have hw' : nI (lotF (I 90 (p_lv σ)) (nI 4 * I 103 19) 100) < I 89 (p_lv σ) := by unfold rStm at hw; exact of_decide_eq_true hw
        simp only [am_lv_of, decide_eq_true hw', Bool.true_eq_false, if_false, rX12_pull_68, rX12_pull_69, rX12_pull_72, rX12_pull_73, rX12_pull_76, rX12_pull_77, rX12_pull_78, rX12_pull_81, rX12_pull_82, rX12_pull_85, rX12_pull_86, rX12_pull_89, rX12_pull_92, rX12_pull_93, rX12_pull_96, ro_0_0 hR, ro_0_3 hR, ro_0_4 hR, ro_0_5 hR, ro_0_6 hR, ro_0_7 hR, ro_0_8 hR, ro_0_9 hR, ro_0_10 hR, ro_0_11 hR, ro_2_6 hR, ro_2_7 hR, ro_2_8 hR, ro_2_9 hR, ro_2_10 hR, ro_2_11 hR, ro_2_12 hR, ro_2_13 hR, ro_9_0 hR, ro_9_1 hR, ro_9_2 hR, ro_14_0 hR, ro_14_1 hR, ro_14_2 hR, ro_14_7 hR, ro_15_0 hR, ro_15_1 hR, ro_15_2 hR, ro_15_3 hR, ro_20_6 hR, ro_20_7 hR, ro_20_8 hR, ro_20_9 hR, ro_20_10 hR, ro_20_11 hR, ro_20_12 hR, ro_20_13 hR, ro_27_0 hR, ro_27_1 hR, ro_27_2 hR, ro_32_0 hR, ro_32_1 hR, ro_34_10 hR, ro_34_11 hR, ro_34_12 hR, ro_34_13 hR, ro_39_0 hR, ro_39_1 hR, ro_42_0 hR, ro_42_1 hR, ro_47_0 hR, ro_47_1 hR, ro_47_2 hR, ro_47_3 hR, ro_55_0 hR, ro_55_1 hR, ro_55_2 hR, ro_57_0 hR, ro_57_1 hR, ro_57_2 hR, ro_57_3 hR, ro_57_4 hR, ro_57_5 hR, ro_57_8 hR, sh_0, sh_1, sh_2, sh_3, sh_4, sh_5, sh_6, sh_7, sh_8, sh_9, sh_10, sh_11, sh_12, sh_13, sh_14, sh_15, sh_16, sh_17, sh_18, sh_19, sh_20, sh_21, sh_22, sh_23, sh_24, sh_25, sh_26, sh_27, sh_28, sh_29, sh_30, sh_31, sh_32, sh_33, sh_34, sh_35, sh_36, sh_37, sh_38, sh_39, sh_40, sh_41, sh_42, sh_43, sh_44, sh_45, sh_46, sh_47, sh_48, sh_49, sh_50, sh_51, sh_52, sh_53, sh_54, sh_55, sh_56, sh_57, sh_58, sh_59, sh_60, sh_61, sh_62, sh_63, sh_64, sh_65, sh_66, sh_67, sh_68, hl, hvw9, Nat.reduceLT, Nat.reduceAdd, Nat.reduceMul, ne_eq, Nat.reduceEqDiff, not_false_eq_true, or_true, true_or, or_false, false_or, and_true, true_and, and_self, Nat.reduceLeDiff, am_ci, am_cr, am_cn0, Option.toList_some, Option.toList_none, List.cons_append, List.nil_append, am_s0, am_s1, am_s1r, am_s2, am_s2r, am_s3r, nI_add, am_u_ne, am_u_at, am_u_n1, am_u_n2, am_w_ne, hn, q24, q345, q346]
        simp only [am_lv_of, rX12_pull_99, sh_2, hl, hvw9, Nat.reduceLT, Nat.reduceAdd, Nat.reduceMul, ne_eq, Nat.reduceEqDiff, not_false_eq_true, or_true, true_or, or_false, false_or, and_true, true_and, and_self, Nat.reduceLeDiff, am_ci, am_cr, am_cn0, Option.toList_some, Option.toList_none, List.cons_append, List.nil_append, am_s0, am_s1, am_s1r, am_s2, am_s2r, am_s3r, nI_add, am_u_ne, am_u_at, am_u_n1, am_u_n2, am_w_ne]
        have q21 : am_u I1 34 6 (I 34 6 + nI 1) 2 1 = nI (p_S σ) := by rw [am_u_n1 (by omega)]; exact C1.2.1
        rw [c_drawnAt hN1 q21 (by omega) o2]
        simp only [am_lv_of, Option.toList_some, List.cons_append, List.nil_append, rX12_pull_102, hl, hvw9, Nat.reduceLT, Nat.reduceAdd, Nat.reduceMul, ne_eq, Nat.reduceEqDiff, not_false_eq_true, or_true, true_or, or_false, false_or, and_true, true_and, and_self, Nat.reduceLeDiff, am_ci, am_cr, am_cn0, Option.toList_some, Option.toList_none, List.cons_append, List.nil_append, am_s0, am_s1, am_s1r, am_s2, am_s2r, am_s3r, nI_add, am_u_ne, am_u_at, am_u_n1, am_u_n2, am_w_ne]
        have hq : rDrw σ (I 90 (p_lv σ)) (I 103) < p_S σ := rDrw_lt (by omega)
        have co2 : crs (am_u I1 34 6 (I 34 6 + nI 1)) 34 (p_P σ) (p_S σ) (rS20 (I 103)) := crs_20 co1 (by rw [am_u_at, q346]) (fun j hj => am_u_n2 hj) (fun k j k1 k2 => am_u_n1 (by omega))
        have C2 : cl_S (am_u I1 34 6 (I 34 6 + nI 1)) σ := C1.ag (fun k j hk => am_u_n1 (by omega))
        refine l_pullC (w := 0) hR1 hN1 hn1 S3 C2 hq co2 (fun I2 g2 co3 => fin (fun k j hk => ?_) ?_)
        · rw [g2 k j hk, am_u_n1 (by unfold coP at hk; omega)]
        · unfold rPb
          rw [if_pos hw]
          exact co3
      · have hw' : ¬ nI (lotF (I 90 (p_lv σ)) (nI 4 * I 103 19) 100) < I 89 (p_lv σ) := fun z => hw (by unfold rStm; exact decide_eq_true z)
        simp only [decide_eq_false hw', if_true]
        refine l_pullC (w := 0) hR1 hN1 hn1 S3 C1 hs co1 (fun I2 g2 co3 => fin g2 ?_)
        rw [if_pos hst] at co3
        unfold rPb
        rw [if_neg hw]
        exact co3
    · have hm : rMayB σ (I 103) s (I 103 15) = false := by simpa using hm
      simp only [am_lv_of, hm, not_true_eq_false, ↓reduceIte, rX12_pull_28, rX12_pull_30, hl, hvw9, Nat.reduceLT, Nat.reduceAdd, Nat.reduceMul, ne_eq, Nat.reduceEqDiff, not_false_eq_true, or_true, true_or, or_false, false_or, and_true, true_and, and_self, Nat.reduceLeDiff, am_ci, am_cr, am_cn0, Option.toList_some, Option.toList_none, List.cons_append, List.nil_append, am_s0, am_s1, am_s1r, am_s2, am_s2r, am_s3r, nI_add, am_u_ne, am_u_at, am_u_n1, am_u_n2, am_w_ne]
      simp only [am_lv_of, rX13_pull_0, rX13_pull_1, rX13_pull_2, rX13_pull_5, rX13_pull_8, rX13_pull_9, rX13_pull_10, rX13_pull_11, ro_69_1 hR, ro_69_3 hR, ro_69_5 hR, ro_69_6 hR, ro_69_7 hR, ro_69_8 hR, ro_69_9 hR, ro_69_21 hR, ro_69_22 hR, ro_69_23 hR, ro_69_24 hR, ro_69_25 hR, ro_69_26 hR, ro_69_27 hR, ro_69_28 hR, ro_69_29 hR, ro_69_30 hR, ro_69_31 hR, ro_69_32 hR, ro_69_33 hR, ro_69_34 hR, ro_69_35 hR, ro_69_36 hR, ro_69_38 hR, ro_69_39 hR, ro_69_40 hR, ro_69_41 hR, ro_69_42 hR, ro_69_44 hR, ro_69_45 hR, ro_69_46 hR, ro_69_48 hR, ro_69_49 hR, ro_69_51 hR, ro_69_52 hR, ro_69_55 hR, ro_69_56 hR, ro_69_57 hR, ro_69_58 hR, ro_69_59 hR, ro_69_61 hR, ro_69_62 hR, ro_69_63 hR, ro_69_64 hR, ro_69_65 hR, ro_69_66 hR, sh_69, sh_70, sh_71, sh_72, sh_73, sh_74, sh_75, sh_76, sh_77, sh_78, sh_79, sh_80, sh_81, sh_82, sh_83, sh_84, sh_85, sh_86, sh_87, sh_88, sh_89, sh_90, sh_91, sh_92, sh_93, sh_94, sh_95, sh_96, sh_97, sh_98, sh_99, sh_100, sh_101, sh_102, sh_103, sh_104, sh_105, sh_106, sh_107, sh_108, sh_109, sh_110, sh_111, sh_112, sh_113, sh_114, sh_115, hl, hvw9, Nat.reduceLT, Nat.reduceAdd, Nat.reduceMul, ne_eq, Nat.reduceEqDiff, not_false_eq_true, or_true, true_or, or_false, false_or, and_true, true_and, and_self, Nat.reduceLeDiff, am_ci, am_cr, am_cn0, Option.toList_some, Option.toList_none, List.cons_append, List.nil_append, am_s0, am_s1, am_s1r, am_s2, am_s2r, am_s3r, nI_add, am_u_ne, am_u_at, am_u_n1, am_u_n2, am_w_ne, ↓reduceIte, c_isString hR hN Ha.rf, hp, b_t, not_false_eq_true]
      refine c_copies hR hN hn Ha.rf (fun I2 g2 g3 g4 => ?_)
      have H2 := Ha.scr (cop_scr g2)
      simp only [am_lv_of, Option.toList_none, List.nil_append, rX13_pull_14, rX13_pull_15, rX13_pull_16, ro_69_1 hR, ro_69_3 hR, ro_69_5 hR, ro_69_6 hR, ro_69_7 hR, ro_69_8 hR, ro_69_9 hR, ro_69_21 hR, ro_69_22 hR, ro_69_23 hR, ro_69_24 hR, ro_69_25 hR, ro_69_26 hR, ro_69_27 hR, ro_69_28 hR, ro_69_29 hR, ro_69_30 hR, ro_69_31 hR, ro_69_32 hR, ro_69_33 hR, ro_69_34 hR, ro_69_35 hR, ro_69_36 hR, ro_69_38 hR, ro_69_39 hR, ro_69_40 hR, ro_69_41 hR, ro_69_42 hR, ro_69_44 hR, ro_69_45 hR, ro_69_46 hR, ro_69_48 hR, ro_69_49 hR, ro_69_51 hR, ro_69_52 hR, ro_69_55 hR, ro_69_56 hR, ro_69_57 hR, ro_69_58 hR, ro_69_59 hR, ro_69_61 hR, ro_69_62 hR, ro_69_63 hR, ro_69_64 hR, ro_69_65 hR, ro_69_66 hR, sh_69, sh_70, sh_71, sh_72, sh_73, sh_74, sh_75, sh_76, sh_77, sh_78, sh_79, sh_80, sh_81, sh_82, sh_83, sh_84, sh_85, sh_86, sh_87, sh_88, sh_89, sh_90, sh_91, sh_92, sh_93, sh_94, sh_95, sh_96, sh_97, sh_98, sh_99, sh_100, sh_101, sh_102, sh_103, sh_104, sh_105, sh_106, sh_107, sh_108, sh_109, sh_110, sh_111, sh_112, sh_113, sh_114, sh_115, hl, hvw9, Nat.reduceLT, Nat.reduceAdd, Nat.reduceMul, ne_eq, Nat.reduceEqDiff, not_false_eq_true, or_true, true_or, or_false, false_or, and_true, true_and, and_self, Nat.reduceLeDiff, am_ci, am_cr, am_cn0, Option.toList_some, Option.toList_none, List.cons_append, List.nil_append, am_s0, am_s1, am_s1r, am_s2, am_s2r, am_s3r, nI_add, am_u_ne, am_u_at, am_u_n1, am_u_n2, am_w_ne]
      refine c_mayNow hR hN hn H2.rf hs (fun I3 g5 => ?_)
      rw [e103] at g3
      have hmn : rMayN σ (I2 104) s = false := by rw [rMayN_c S3 hs g3]; exact hm
      simp only [am_lv_of, Option.toList_some, List.cons_append, List.nil_append, hmn, b_f, rX13_pull_19, rX13_pull_22, rX13_pull_24, ro_69_1 hR, ro_69_3 hR, ro_69_5 hR, ro_69_6 hR, ro_69_7 hR, ro_69_8 hR, ro_69_9 hR, ro_69_21 hR, ro_69_22 hR, ro_69_23 hR, ro_69_24 hR, ro_69_25 hR, ro_69_26 hR, ro_69_27 hR, ro_69_28 hR, ro_69_29 hR, ro_69_30 hR, ro_69_31 hR, ro_69_32 hR, ro_69_33 hR, ro_69_34 hR, ro_69_35 hR, ro_69_36 hR, ro_69_38 hR, ro_69_39 hR, ro_69_40 hR, ro_69_41 hR, ro_69_42 hR, ro_69_44 hR, ro_69_45 hR, ro_69_46 hR, ro_69_48 hR, ro_69_49 hR, ro_69_51 hR, ro_69_52 hR, ro_69_55 hR, ro_69_56 hR, ro_69_57 hR, ro_69_58 hR, ro_69_59 hR, ro_69_61 hR, ro_69_62 hR, ro_69_63 hR, ro_69_64 hR, ro_69_65 hR, ro_69_66 hR, sh_69, sh_70, sh_71, sh_72, sh_73, sh_74, sh_75, sh_76, sh_77, sh_78, sh_79, sh_80, sh_81, sh_82, sh_83, sh_84, sh_85, sh_86, sh_87, sh_88, sh_89, sh_90, sh_91, sh_92, sh_93, sh_94, sh_95, sh_96, sh_97, sh_98, sh_99, sh_100, sh_101, sh_102, sh_103, sh_104, sh_105, sh_106, sh_107, sh_108, sh_109, sh_110, sh_111, sh_112, sh_113, sh_114, sh_115, hl, hvw9, Nat.reduceLT, Nat.reduceAdd, Nat.reduceMul, ne_eq, Nat.reduceEqDiff, not_false_eq_true, or_true, true_or, or_false, false_or, and_true, true_and, and_self, Nat.reduceLeDiff, am_ci, am_cr, am_cn0, Option.toList_some, Option.toList_none, List.cons_append, List.nil_append, am_s0, am_s1, am_s1r, am_s2, am_s2r, am_s3r, nI_add, am_u_ne, am_u_at, am_u_n1, am_u_n2, am_w_ne, ↓reduceIte, not_true_eq_false]
      exact ⟨σ, H2.scr (sc1_scr g5)⟩
  · have hp : isN (p_S σ) a = false := by simpa using hp
    simp only [am_lv_of, hp, b_f, rX12_pull_8, rX12_pull_11, rX12_pull_12, ro_0_0 hR, ro_0_3 hR, ro_0_4 hR, ro_0_5 hR, ro_0_6 hR, ro_0_7 hR, ro_0_8 hR, ro_0_9 hR, ro_0_10 hR, ro_0_11 hR, ro_2_6 hR, ro_2_7 hR, ro_2_8 hR, ro_2_9 hR, ro_2_10 hR, ro_2_11 hR, ro_2_12 hR, ro_2_13 hR, ro_9_0 hR, ro_9_1 hR, ro_9_2 hR, ro_14_0 hR, ro_14_1 hR, ro_14_2 hR, ro_14_7 hR, ro_15_0 hR, ro_15_1 hR, ro_15_2 hR, ro_15_3 hR, ro_20_6 hR, ro_20_7 hR, ro_20_8 hR, ro_20_9 hR, ro_20_10 hR, ro_20_11 hR, ro_20_12 hR, ro_20_13 hR, ro_27_0 hR, ro_27_1 hR, ro_27_2 hR, ro_32_0 hR, ro_32_1 hR, ro_34_10 hR, ro_34_11 hR, ro_34_12 hR, ro_34_13 hR, ro_39_0 hR, ro_39_1 hR, ro_42_0 hR, ro_42_1 hR, ro_47_0 hR, ro_47_1 hR, ro_47_2 hR, ro_47_3 hR, ro_55_0 hR, ro_55_1 hR, ro_55_2 hR, ro_57_0 hR, ro_57_1 hR, ro_57_2 hR, ro_57_3 hR, ro_57_4 hR, ro_57_5 hR, ro_57_8 hR, sh_0, sh_1, sh_2, sh_3, sh_4, sh_5, sh_6, sh_7, sh_8, sh_9, sh_10, sh_11, sh_12, sh_13, sh_14, sh_15, sh_16, sh_17, sh_18, sh_19, sh_20, sh_21, sh_22, sh_23, sh_24, sh_25, sh_26, sh_27, sh_28, sh_29, sh_30, sh_31, sh_32, sh_33, sh_34, sh_35, sh_36, sh_37, sh_38, sh_39, sh_40, sh_41, sh_42, sh_43, sh_44, sh_45, sh_46, sh_47, sh_48, sh_49, sh_50, sh_51, sh_52, sh_53, sh_54, sh_55, sh_56, sh_57, sh_58, sh_59, sh_60, sh_61, sh_62, sh_63, sh_64, sh_65, sh_66, sh_67, sh_68, hl, hvw9, Nat.reduceLT, Nat.reduceAdd, Nat.reduceMul, ne_eq, Nat.reduceEqDiff, not_false_eq_true, or_true, true_or, or_false, false_or, and_true, true_and, and_self, Nat.reduceLeDiff, am_ci, am_cr, am_cn0, Option.toList_some, Option.toList_none, List.cons_append, List.nil_append, am_s0, am_s1, am_s1r, am_s2, am_s2r, am_s3r, nI_add, am_u_ne, am_u_at, am_u_n1, am_u_n2, am_w_ne, ↓reduceIte, not_true_eq_false]
    simp only [am_lv_of, rX13_pull_0, rX13_pull_1, rX13_pull_2, rX13_pull_5, rX13_pull_8, rX13_pull_9, ro_69_1 hR, ro_69_3 hR, ro_69_5 hR, ro_69_6 hR, ro_69_7 hR, ro_69_8 hR, ro_69_9 hR, ro_69_21 hR, ro_69_22 hR, ro_69_23 hR, ro_69_24 hR, ro_69_25 hR, ro_69_26 hR, ro_69_27 hR, ro_69_28 hR, ro_69_29 hR, ro_69_30 hR, ro_69_31 hR, ro_69_32 hR, ro_69_33 hR, ro_69_34 hR, ro_69_35 hR, ro_69_36 hR, ro_69_38 hR, ro_69_39 hR, ro_69_40 hR, ro_69_41 hR, ro_69_42 hR, ro_69_44 hR, ro_69_45 hR, ro_69_46 hR, ro_69_48 hR, ro_69_49 hR, ro_69_51 hR, ro_69_52 hR, ro_69_55 hR, ro_69_56 hR, ro_69_57 hR, ro_69_58 hR, ro_69_59 hR, ro_69_61 hR, ro_69_62 hR, ro_69_63 hR, ro_69_64 hR, ro_69_65 hR, ro_69_66 hR, sh_69, sh_70, sh_71, sh_72, sh_73, sh_74, sh_75, sh_76, sh_77, sh_78, sh_79, sh_80, sh_81, sh_82, sh_83, sh_84, sh_85, sh_86, sh_87, sh_88, sh_89, sh_90, sh_91, sh_92, sh_93, sh_94, sh_95, sh_96, sh_97, sh_98, sh_99, sh_100, sh_101, sh_102, sh_103, sh_104, sh_105, sh_106, sh_107, sh_108, sh_109, sh_110, sh_111, sh_112, sh_113, sh_114, sh_115, hl, hvw9, Nat.reduceLT, Nat.reduceAdd, Nat.reduceMul, ne_eq, Nat.reduceEqDiff, not_false_eq_true, or_true, true_or, or_false, false_or, and_true, true_and, and_self, Nat.reduceLeDiff, am_ci, am_cr, am_cn0, Option.toList_some, Option.toList_none, List.cons_append, List.nil_append, am_s0, am_s1, am_s1r, am_s2, am_s2r, am_s3r, nI_add, am_u_ne, am_u_at, am_u_n1, am_u_n2, am_w_ne, c_isString hR hN S1, hp, b_f, ↓reduceIte, not_true_eq_false]
    exact ⟨σ, H⟩
end PL
