--! 36
/-! THE CLASS: poses. A pose is nI w: four bits of X for each puppet, then heads, then hands -/
def xw (w p : Nat) : Nat := w / 16 ^ p % 16
def hdw (w p : Nat) : Nat := w / 2 ^ (20 + p) % 2
def hnw (w p : Nat) : Nat := w / 2 ^ (25 + p) % 2
def bcF (x0 : Int32) : Int32 :=
  let x1 := x0 - ((x0.toUInt32 >>> ((nI 1).toUInt32 &&& Int32.toUInt32 31)).toInt32 &&& nI 1431655765)
  let x2 := (x1 &&& nI 858993459) + ((x1.toUInt32 >>> ((nI 2).toUInt32 &&& Int32.toUInt32 31)).toInt32 &&& nI 858993459)
  let x3 := (x2 + (x2.toUInt32 >>> ((nI 4).toUInt32 &&& Int32.toUInt32 31)).toInt32) &&& nI 252645135
  let x4 := x3 + (x3.toUInt32 >>> ((nI 8).toUInt32 &&& Int32.toUInt32 31)).toInt32
  let x5 := x4 + (x4.toUInt32 >>> ((nI 16).toUInt32 &&& Int32.toUInt32 31)).toInt32
  x5 &&& nI 63
theorem bcF_ok : ∀ y, y < 32 → bcF (nI y) = nI (y % 2 + y / 2 % 2 + y / 4 % 2 + y / 8 % 2 + y / 16 % 2) := by decide +kernel
theorem sh4 : ∀ p, p < 5 → (((nI 4 * nI p).toUInt32 &&& Int32.toUInt32 31).toBitVec % 32).toNat = 4 * p := by decide +kernel
theorem sh20 : ∀ p, p < 5 → (((nI (20 + p)).toUInt32 &&& Int32.toUInt32 31).toBitVec % 32).toNat = 20 + p := by decide +kernel
theorem sh25 : ∀ p, p < 5 → (((nI (25 + p)).toUInt32 &&& Int32.toUInt32 31).toBitVec % 32).toNat = 25 + p := by decide +kernel
section CLA
variable {X : am_X} {d n : Nat} {I : Nat → Nat → Int32} {L : Nat → Nat → Int64} {R : Nat → Nat → Option Nat} {Q : Option Value → am_M → Prop}
theorem c_xOf {w p : Nat} (hw : w < 2 ^ 30) (hp : p < 5) : am_E X d mX8_xOf 0 [some (.int (nI w)), some (.int (nI p))] [] (n, I, L, R) Q ↔ Q (some (.int (nI (xw w p)))) (n, I, L, R) := by
  simp only [am_lv_of, rX8_xOf_0, rX8_xOf_1, rX8_xOf_2, rX8_xOf_3, rX8_xOf_4, rX8_xOf_5, rX8_xOf_7, rX8_xOf_8, pk_ushrN (show w < 2 ^ 32 by omega) _ _ (sh4 p hp), pk_andN (show w / 2 ^ (4 * p) < 2 ^ 32 from Nat.lt_of_le_of_lt (Nat.div_le_self _ _) (by omega)) 4 (show (nI 15).toBitVec.toNat = 2 ^ 4 - 1 by decide)]
  have e : 2 ^ (4 * p) = 16 ^ p := by rw [Nat.pow_mul]
  rw [e]
  rfl
theorem c_headOf {w p : Nat} (hw : w < 2 ^ 30) (hp : p < 5) : am_E X d mX8_headOf 0 [some (.int (nI w)), some (.int (nI p))] [] (n, I, L, R) Q ↔ Q (some (.int (nI (hdw w p)))) (n, I, L, R) := by
  simp only [am_lv_of, rX8_headOf_0, rX8_headOf_1, rX8_headOf_3, rX8_headOf_4, rX8_headOf_5, rX8_headOf_6, rX8_headOf_7, rX8_headOf_8, nI_add, pk_ushrN (show w < 2 ^ 32 by omega) _ _ (sh20 p hp), pk_andN (show w / 2 ^ (20 + p) < 2 ^ 32 from Nat.lt_of_le_of_lt (Nat.div_le_self _ _) (by omega)) 1 (show (nI 1).toBitVec.toNat = 2 ^ 1 - 1 by decide)]
  rfl
theorem c_handOf {w p : Nat} (hw : w < 2 ^ 30) (hp : p < 5) : am_E X d mX8_handOf 0 [some (.int (nI w)), some (.int (nI p))] [] (n, I, L, R) Q ↔ Q (some (.int (nI (hnw w p)))) (n, I, L, R) := by
  simp only [am_lv_of, rX8_handOf_0, rX8_handOf_1, rX8_handOf_3, rX8_handOf_4, rX8_handOf_5, rX8_handOf_6, rX8_handOf_7, rX8_handOf_8, nI_add, pk_ushrN (show w < 2 ^ 32 by omega) _ _ (sh25 p hp), pk_andN (show w / 2 ^ (25 + p) < 2 ^ 32 from Nat.lt_of_le_of_lt (Nat.div_le_self _ _) (by omega)) 1 (show (nI 1).toBitVec.toNat = 2 ^ 1 - 1 by decide)]
  rfl
theorem c_apart {w : Nat} (hw : w < 2 ^ 30) : am_E X (d + 1) mX8_apart 0 [some (.int (nI w))] [] (n, I, L, R) Q ↔ Q (some (.int (nI (xw w 1) - nI (xw w 0)))) (n, I, L, R) := by
  simp only [am_lv_of, rX8_apart_0, rX8_apart_1, rX8_apart_2, rX8_apart_5, rX8_apart_6, rX8_apart_7, rX8_apart_10, rX8_apart_11, am_s0, am_s1, c_xOf hw (show 1 < 5 by omega), c_xOf hw (show 0 < 5 by omega), Option.toList_some, List.cons_append, List.nil_append]
theorem c_bitCount {x : Int32} : am_E X d mJ6_bitCount_0f7a4 0 [some (.int x)] [] (n, I, L, R) Q ↔ Q (some (.int (bcF x))) (n, I, L, R) := by
  simp only [am_lv_of, rJ6_bitCount_0f7a4_0, rJ6_bitCount_0f7a4_1, rJ6_bitCount_0f7a4_2, rJ6_bitCount_0f7a4_3, rJ6_bitCount_0f7a4_4, rJ6_bitCount_0f7a4_7, rJ6_bitCount_0f7a4_8, rJ6_bitCount_0f7a4_9, rJ6_bitCount_0f7a4_10, rJ6_bitCount_0f7a4_11, rJ6_bitCount_0f7a4_14, rJ6_bitCount_0f7a4_15, rJ6_bitCount_0f7a4_16, rJ6_bitCount_0f7a4_17, rJ6_bitCount_0f7a4_18, rJ6_bitCount_0f7a4_21, rJ6_bitCount_0f7a4_22, rJ6_bitCount_0f7a4_23, rJ6_bitCount_0f7a4_24, rJ6_bitCount_0f7a4_25, rJ6_bitCount_0f7a4_26, rJ6_bitCount_0f7a4_27, rJ6_bitCount_0f7a4_28, rJ6_bitCount_0f7a4_29, rJ6_bitCount_0f7a4_32, rJ6_bitCount_0f7a4_33, rJ6_bitCount_0f7a4_34, rJ6_bitCount_0f7a4_35, rJ6_bitCount_0f7a4_36, rJ6_bitCount_0f7a4_38, rJ6_bitCount_0f7a4_39, rJ6_bitCount_0f7a4_40, rJ6_bitCount_0f7a4_41, rJ6_bitCount_0f7a4_42, rJ6_bitCount_0f7a4_43, rJ6_bitCount_0f7a4_45, rJ6_bitCount_0f7a4_46, rJ6_bitCount_0f7a4_47, rJ6_bitCount_0f7a4_48, rJ6_bitCount_0f7a4_49, rJ6_bitCount_0f7a4_51, rJ6_bitCount_0f7a4_52, bcF]
theorem c_nods {w : Nat} (hw : w < 2 ^ 30) : am_E X (d + 1) mX8_nods 0 [some (.int (nI w))] [] (n, I, L, R) Q ↔ Q (some (.int (nI (hdw w 0 + hdw w 1 + hdw w 2 + hdw w 3 + hdw w 4)))) (n, I, L, R) := by
  have e1 : ((nI w).toUInt32 >>> ((nI 20).toUInt32 &&& Int32.toUInt32 31)).toInt32 = nI (w / 2 ^ 20) := pk_ushrN (show w < 2 ^ 32 by omega) _ _ (sh20 0 (by omega))
  have e2 : nI (w / 2 ^ 20) &&& nI 31 = nI (w / 2 ^ 20 % 2 ^ 5) := pk_andN (Nat.lt_of_le_of_lt (Nat.div_le_self _ _) (by omega)) 5 (by decide)
  have e3 : bcF (nI (w / 2 ^ 20 % 2 ^ 5)) = _ := bcF_ok _ (Nat.mod_lt _ (by omega))
  have e4 : w / 2 ^ 20 % 2 ^ 5 % 2 + w / 2 ^ 20 % 2 ^ 5 / 2 % 2 + w / 2 ^ 20 % 2 ^ 5 / 4 % 2 + w / 2 ^ 20 % 2 ^ 5 / 8 % 2 + w / 2 ^ 20 % 2 ^ 5 / 16 % 2 = hdw w 0 + hdw w 1 + hdw w 2 + hdw w 3 + hdw w 4 := by
    unfold hdw
    omega
  simp only [am_lv_of, rX8_nods_0, rX8_nods_1, rX8_nods_3, rX8_nods_4, rX8_nods_6, rX8_nods_7, rX8_nods_10, am_s0, e1, e2, c_bitCount, e3, e4, Option.toList_some, List.cons_append, List.nil_append]
theorem c_judgesHand {w : Nat} (hw : w < 2 ^ 30) : am_E X (d + 1) mX8_judgesHand 0 [some (.int (nI w))] [] (n, I, L, R) Q ↔ Q (some (.int (nI (hnw w 2)))) (n, I, L, R) := by
  simp only [am_lv_of, rX8_judgesHand_0, rX8_judgesHand_1, rX8_judgesHand_2, rX8_judgesHand_5, am_s0, c_handOf hw (show 2 < 5 by omega), Option.toList_some, List.cons_append, List.nil_append]
end CLA
section CLB
variable {X : am_X} {d n : Nat} {I : Nat → Nat → Int32} {L : Nat → Nat → Int64} {R : Nat → Nat → Option Nat} {Q : Option Value → am_M → Prop}
theorem isN_lo {P : Nat} {p : Int32} (h : p < 0) : isN P p = false := by
  unfold isN
  have : ¬ 0 ≤ p := Int32.not_le.mpr h
  simp [this]
theorem isN_hi {P : Nat} {p : Int32} (h : nI P ≤ p) : isN P p = false := by
  unfold isN
  have : ¬ p < nI P := Int32.not_lt.mpr h
  simp [this]
theorem isN_in {P : Nat} {p : Int32} (h1 : ¬ p < 0) (h2 : ¬ nI P ≤ p) : isN P p = true := by
  unfold isN
  simp [Int32.not_lt.mp h1, Int32.not_le.mp h2]
theorem nI_tr {P m : Nat} {p : Int32} (hP : P ≤ m) (hm : m < 2 ^ 31) (h2 : ¬ nI P ≤ p) : ¬ nI m ≤ p := fun z => h2 (Int32.le_trans (nI_le hP hm) z)
theorem c_hasPuppet {P : Nat} {p : Int32} (hN : 116 ≤ n) (hP : I 2 0 = nI P) (hP5 : P ≤ 5) : am_E X d mX10_hasPuppet 0 [some (.ref 2), some (.int p)] [] (n, I, L, R) Q ↔ Q (some (.int (bI (isN P p)))) (n, I, L, R) := by
  have hl := am_lt hN
  have hvw9 := am_lw hN
  simp only [am_lv_of, rX10_hasPuppet_0, rX10_hasPuppet_1, hl, hvw9, Nat.reduceLT, Nat.reduceAdd, Nat.reduceMul, ne_eq, Nat.reduceEqDiff, not_false_eq_true, or_true, true_or, or_false, false_or, and_true, true_and, and_self, Nat.reduceLeDiff, am_ci, am_cr, am_cn0, Option.toList_some, Option.toList_none, List.cons_append, List.nil_append, am_s0, am_s1, am_s1r, am_s2, am_s2r, am_s3r, nI_add, am_u_ne, am_u_at, am_u_n1, am_u_n2, am_w_ne]
  by_cases h1 : p < 0
  · simp only [am_lv_of, if_pos h1, rX10_hasPuppet_21, rX10_hasPuppet_22_0, hl, hvw9, Nat.reduceLT, Nat.reduceAdd, Nat.reduceMul, ne_eq, Nat.reduceEqDiff, not_false_eq_true, or_true, true_or, or_false, false_or, and_true, true_and, and_self, Nat.reduceLeDiff, am_ci, am_cr, am_cn0, Option.toList_some, Option.toList_none, List.cons_append, List.nil_append, am_s0, am_s1, am_s1r, am_s2, am_s2r, am_s3r, nI_add, am_u_ne, am_u_at, am_u_n1, am_u_n2, am_w_ne, isN_lo h1, bI, Bool.false_eq_true, if_false]
  · simp only [am_lv_of, if_neg h1, rX10_hasPuppet_4, rX10_hasPuppet_5, rX10_hasPuppet_6, rX10_hasPuppet_9, sh_2, hl, hvw9, Nat.reduceLT, Nat.reduceAdd, Nat.reduceMul, ne_eq, Nat.reduceEqDiff, not_false_eq_true, or_true, true_or, or_false, false_or, and_true, true_and, and_self, Nat.reduceLeDiff, am_ci, am_cr, am_cn0, Option.toList_some, Option.toList_none, List.cons_append, List.nil_append, am_s0, am_s1, am_s1r, am_s2, am_s2r, am_s3r, nI_add, am_u_ne, am_u_at, am_u_n1, am_u_n2, am_w_ne, hP]
    by_cases h2 : nI P ≤ p
    · simp only [am_lv_of, if_pos h2, rX10_hasPuppet_21, rX10_hasPuppet_22_0, hl, hvw9, Nat.reduceLT, Nat.reduceAdd, Nat.reduceMul, ne_eq, Nat.reduceEqDiff, not_false_eq_true, or_true, true_or, or_false, false_or, and_true, true_and, and_self, Nat.reduceLeDiff, am_ci, am_cr, am_cn0, Option.toList_some, Option.toList_none, List.cons_append, List.nil_append, am_s0, am_s1, am_s1r, am_s2, am_s2r, am_s3r, nI_add, am_u_ne, am_u_at, am_u_n1, am_u_n2, am_w_ne, isN_hi h2, bI, Bool.false_eq_true, if_false]
    · simp only [am_lv_of, if_neg h2, rX10_hasPuppet_12, rX10_hasPuppet_13, rX10_hasPuppet_14, hl, hvw9, Nat.reduceLT, Nat.reduceAdd, Nat.reduceMul, ne_eq, Nat.reduceEqDiff, not_false_eq_true, or_true, true_or, or_false, false_or, and_true, true_and, and_self, Nat.reduceLeDiff, am_ci, am_cr, am_cn0, Option.toList_some, Option.toList_none, List.cons_append, List.nil_append, am_s0, am_s1, am_s1r, am_s2, am_s2r, am_s3r, nI_add, am_u_ne, am_u_at, am_u_n1, am_u_n2, am_w_ne, if_neg (nI_tr hP5 (by omega) h2), rX10_hasPuppet_17, rX10_hasPuppet_18, rX10_hasPuppet_22_1, isN_in h1 h2, bI, if_true]
theorem c_hasString {P : Nat} {p : Int32} (hN : 116 ≤ n) (hP : I 2 1 = nI P) (hP5 : P ≤ 7) : am_E X d mX10_hasString 0 [some (.ref 2), some (.int p)] [] (n, I, L, R) Q ↔ Q (some (.int (bI (isN P p)))) (n, I, L, R) := by
  have hl := am_lt hN
  have hvw9 := am_lw hN
  simp only [am_lv_of, rX10_hasString_0, rX10_hasString_1, hl, hvw9, Nat.reduceLT, Nat.reduceAdd, Nat.reduceMul, ne_eq, Nat.reduceEqDiff, not_false_eq_true, or_true, true_or, or_false, false_or, and_true, true_and, and_self, Nat.reduceLeDiff, am_ci, am_cr, am_cn0, Option.toList_some, Option.toList_none, List.cons_append, List.nil_append, am_s0, am_s1, am_s1r, am_s2, am_s2r, am_s3r, nI_add, am_u_ne, am_u_at, am_u_n1, am_u_n2, am_w_ne]
  by_cases h1 : p < 0
  · simp only [am_lv_of, if_pos h1, rX10_hasString_22, rX10_hasString_23_0, hl, hvw9, Nat.reduceLT, Nat.reduceAdd, Nat.reduceMul, ne_eq, Nat.reduceEqDiff, not_false_eq_true, or_true, true_or, or_false, false_or, and_true, true_and, and_self, Nat.reduceLeDiff, am_ci, am_cr, am_cn0, Option.toList_some, Option.toList_none, List.cons_append, List.nil_append, am_s0, am_s1, am_s1r, am_s2, am_s2r, am_s3r, nI_add, am_u_ne, am_u_at, am_u_n1, am_u_n2, am_w_ne, isN_lo h1, bI, Bool.false_eq_true, if_false]
  · simp only [am_lv_of, if_neg h1, rX10_hasString_4, rX10_hasString_5, rX10_hasString_6, rX10_hasString_9, sh_2, hl, hvw9, Nat.reduceLT, Nat.reduceAdd, Nat.reduceMul, ne_eq, Nat.reduceEqDiff, not_false_eq_true, or_true, true_or, or_false, false_or, and_true, true_and, and_self, Nat.reduceLeDiff, am_ci, am_cr, am_cn0, Option.toList_some, Option.toList_none, List.cons_append, List.nil_append, am_s0, am_s1, am_s1r, am_s2, am_s2r, am_s3r, nI_add, am_u_ne, am_u_at, am_u_n1, am_u_n2, am_w_ne, hP]
    by_cases h2 : nI P ≤ p
    · simp only [am_lv_of, if_pos h2, rX10_hasString_22, rX10_hasString_23_0, hl, hvw9, Nat.reduceLT, Nat.reduceAdd, Nat.reduceMul, ne_eq, Nat.reduceEqDiff, not_false_eq_true, or_true, true_or, or_false, false_or, and_true, true_and, and_self, Nat.reduceLeDiff, am_ci, am_cr, am_cn0, Option.toList_some, Option.toList_none, List.cons_append, List.nil_append, am_s0, am_s1, am_s1r, am_s2, am_s2r, am_s3r, nI_add, am_u_ne, am_u_at, am_u_n1, am_u_n2, am_w_ne, isN_hi h2, bI, Bool.false_eq_true, if_false]
    · simp only [am_lv_of, if_neg h2, rX10_hasString_12, rX10_hasString_13, rX10_hasString_15, hl, hvw9, Nat.reduceLT, Nat.reduceAdd, Nat.reduceMul, ne_eq, Nat.reduceEqDiff, not_false_eq_true, or_true, true_or, or_false, false_or, and_true, true_and, and_self, Nat.reduceLeDiff, am_ci, am_cr, am_cn0, Option.toList_some, Option.toList_none, List.cons_append, List.nil_append, am_s0, am_s1, am_s1r, am_s2, am_s2r, am_s3r, nI_add, am_u_ne, am_u_at, am_u_n1, am_u_n2, am_w_ne, if_neg (nI_tr hP5 (by omega) h2), rX10_hasString_18, rX10_hasString_19, rX10_hasString_23_1, isN_in h1 h2, bI, if_true]
theorem l_tanglesIn_in {w P p : Nat} (hN : 116 ≤ n) (hw : w < 2 ^ 30) (hP : I 2 0 = nI P) (hP5 : P ≤ 5) (hp : p < P) : ∀ (m o c : Nat), o + m = P →
    (am_E X (d + 1) mX10_tanglesIn 24 [some (.ref 2), some (.int (nI w)), some (.int (nI c)), some (.int (nI p)), some (.int (nI (xw w p))), some (.int (nI o))] [] (n, I, L, R) Q ↔ am_E X (d + 1) mX10_tanglesIn 53 [some (.ref 2), some (.int (nI w)), some (.int (nI (c + tgI (fun p => nI (xw w p)) p o m))), some (.int (nI p)), some (.int (nI (xw w p))), some (.int (nI P))] [] (n, I, L, R) Q) := by
  have hl := am_lt hN
  have hvw9 := am_lw hN
  intro m
  induction m with
  | zero =>
    intro o c ho
    have ho : o = P := by omega
    subst ho
    have h1 : nI o ≤ nI o := nI_le (Nat.le_refl _) (by omega)
    simp only [am_lv_of, rX10_tanglesIn_24, rX10_tanglesIn_26, rX10_tanglesIn_27, rX10_tanglesIn_30, sh_2, hl, hvw9, Nat.reduceLT, Nat.reduceAdd, Nat.reduceMul, ne_eq, Nat.reduceEqDiff, not_false_eq_true, or_true, true_or, or_false, false_or, and_true, true_and, and_self, Nat.reduceLeDiff, am_ci, am_cr, am_cn0, Option.toList_some, Option.toList_none, List.cons_append, List.nil_append, am_s0, am_s1, am_s1r, am_s2, am_s2r, am_s3r, nI_add, am_u_ne, am_u_at, am_u_n1, am_u_n2, am_w_ne, hP, tgI, Nat.add_zero, if_pos h1]
  | succ m ih =>
    intro o c ho
    have h1 : ¬ nI P ≤ nI o := nI_ge (by omega) (by omega)
    rw [rX10_tanglesIn_24]
    simp only [am_lv_of, rX10_tanglesIn_26, rX10_tanglesIn_27, rX10_tanglesIn_30, rX10_tanglesIn_33, rX10_tanglesIn_35, rX10_tanglesIn_36, rX10_tanglesIn_38, rX10_tanglesIn_41, sh_2, hl, hvw9, Nat.reduceLT, Nat.reduceAdd, Nat.reduceMul, ne_eq, Nat.reduceEqDiff, not_false_eq_true, or_true, true_or, or_false, false_or, and_true, true_and, and_self, Nat.reduceLeDiff, am_ci, am_cr, am_cn0, Option.toList_some, Option.toList_none, List.cons_append, List.nil_append, am_s0, am_s1, am_s1r, am_s2, am_s2r, am_s3r, nI_add, am_u_ne, am_u_at, am_u_n1, am_u_n2, am_w_ne, hP, if_neg h1, c_xOf hw (show o < 5 by omega)]
    by_cases h2 : nI (xw w p) ≤ nI (xw w o)
    · have h3 : ¬ nI (xw w o) < nI (xw w p) := Int32.not_lt.mpr h2
      simp only [am_lv_of, if_pos h2, rX10_tanglesIn_47, rX10_tanglesIn_50, hl, hvw9, Nat.reduceLT, Nat.reduceAdd, Nat.reduceMul, ne_eq, Nat.reduceEqDiff, not_false_eq_true, or_true, true_or, or_false, false_or, and_true, true_and, and_self, Nat.reduceLeDiff, am_ci, am_cr, am_cn0, Option.toList_some, Option.toList_none, List.cons_append, List.nil_append, am_s0, am_s1, am_s1r, am_s2, am_s2r, am_s3r, nI_add, am_u_ne, am_u_at, am_u_n1, am_u_n2, am_w_ne]
      rw [ih (o + 1) c (by omega), tgI, if_neg h3, Nat.zero_add]
    · have h3 : nI (xw w o) < nI (xw w p) := Int32.not_le.mp h2
      simp only [am_lv_of, if_neg h2, rX10_tanglesIn_44, rX10_tanglesIn_47, rX10_tanglesIn_50, hl, hvw9, Nat.reduceLT, Nat.reduceAdd, Nat.reduceMul, ne_eq, Nat.reduceEqDiff, not_false_eq_true, or_true, true_or, or_false, false_or, and_true, true_and, and_self, Nat.reduceLeDiff, am_ci, am_cr, am_cn0, Option.toList_some, Option.toList_none, List.cons_append, List.nil_append, am_s0, am_s1, am_s1r, am_s2, am_s2r, am_s3r, nI_add, am_u_ne, am_u_at, am_u_n1, am_u_n2, am_w_ne]
      rw [ih (o + 1) (c + 1) (by omega), tgI, if_pos h3, Nat.add_assoc]
theorem l_tanglesIn_out {w P : Nat} (hN : 116 ≤ n) (hw : w < 2 ^ 30) (hP : I 2 0 = nI P) (hP5 : P ≤ 5) : ∀ (m p c : Nat) (l4 l5 : Option Value), am_nl l4 → p + m = P →
    (am_E X (d + 1) mX10_tanglesIn 4 [some (.ref 2), some (.int (nI w)), some (.int (nI c)), some (.int (nI p)), l4, l5] [] (n, I, L, R) Q ↔ Q (some (.int (nI (c + tgO (fun p => nI (xw w p)) P p m)))) (n, I, L, R)) := by
  have hl := am_lt hN
  have hvw9 := am_lw hN
  intro m
  induction m with
  | zero =>
    intro p c l4 l5 n4 ho
    have ho : p = P := by omega
    subst ho
    have h1 : nI p ≤ nI p := nI_le (Nat.le_refl _) (by omega)
    simp only [am_lv_of, rX10_tanglesIn_4, rX10_tanglesIn_5, rX10_tanglesIn_6, rX10_tanglesIn_9, rX10_tanglesIn_59, rX10_tanglesIn_60, sh_2, hl, hvw9, Nat.reduceLT, Nat.reduceAdd, Nat.reduceMul, ne_eq, Nat.reduceEqDiff, not_false_eq_true, or_true, true_or, or_false, false_or, and_true, true_and, and_self, Nat.reduceLeDiff, am_ci, am_cr, am_cn0, Option.toList_some, Option.toList_none, List.cons_append, List.nil_append, am_s0, am_s1, am_s1r, am_s2, am_s2r, am_s3r, nI_add, am_u_ne, am_u_at, am_u_n1, am_u_n2, am_w_ne, hP, tgO, Nat.add_zero, if_pos h1]
  | succ m ih =>
    intro p c l4 l5 n4 ho
    have h1 : ¬ nI P ≤ nI p := nI_ge (by omega) (by omega)
    rw [rX10_tanglesIn_4]
    simp only [am_lv_of, rX10_tanglesIn_5, rX10_tanglesIn_6, rX10_tanglesIn_9, rX10_tanglesIn_12, rX10_tanglesIn_13, rX10_tanglesIn_14, rX10_tanglesIn_17, rX10_tanglesIn_19, rX10_tanglesIn_20, rX10_tanglesIn_21, rX10_tanglesIn_22, sh_2, hl, hvw9, Nat.reduceLT, Nat.reduceAdd, Nat.reduceMul, ne_eq, Nat.reduceEqDiff, not_false_eq_true, or_true, true_or, or_false, false_or, and_true, true_and, and_self, Nat.reduceLeDiff, am_ci, am_cr, am_cn0, Option.toList_some, Option.toList_none, List.cons_append, List.nil_append, am_s0, am_s1, am_s1r, am_s2, am_s2r, am_s3r, nI_add, am_u_ne, am_u_at, am_u_n1, am_u_n2, am_w_ne, hP, if_neg h1, n4, c_xOf hw (show p < 5 by omega)]
    rw [l_tanglesIn_in hN hw hP hP5 (by omega) (P - (p + 1)) (p + 1) c (by omega)]
    simp only [am_lv_of, rX10_tanglesIn_53, rX10_tanglesIn_56, hl, hvw9, Nat.reduceLT, Nat.reduceAdd, Nat.reduceMul, ne_eq, Nat.reduceEqDiff, not_false_eq_true, or_true, true_or, or_false, false_or, and_true, true_and, and_self, Nat.reduceLeDiff, am_ci, am_cr, am_cn0, Option.toList_some, Option.toList_none, List.cons_append, List.nil_append, am_s0, am_s1, am_s1r, am_s2, am_s2r, am_s3r, nI_add, am_u_ne, am_u_at, am_u_n1, am_u_n2, am_w_ne]
    rw [ih (p + 1) _ _ _ am_ci (by omega), tgO, Nat.add_assoc]
theorem c_tanglesIn {w P : Nat} (hN : 116 ≤ n) (hw : w < 2 ^ 30) (hP : I 2 0 = nI P) (hP5 : P ≤ 5) : am_E X (d + 1) mX10_tanglesIn 0 [some (.ref 2), some (.int (nI w)), none, none, none, none] [] (n, I, L, R) Q ↔ Q (some (.int (nI (tg (fun p => nI (xw w p)) P)))) (n, I, L, R) := by
  have hl := am_lt hN
  have hvw9 := am_lw hN
  simp only [am_lv_of, rX10_tanglesIn_0, rX10_tanglesIn_1, rX10_tanglesIn_2, rX10_tanglesIn_3, hl, hvw9, Nat.reduceLT, Nat.reduceAdd, Nat.reduceMul, ne_eq, Nat.reduceEqDiff, not_false_eq_true, or_true, true_or, or_false, false_or, and_true, true_and, and_self, Nat.reduceLeDiff, am_ci, am_cr, am_cn0, Option.toList_some, Option.toList_none, List.cons_append, List.nil_append, am_s0, am_s1, am_s1r, am_s2, am_s2r, am_s3r, nI_add, am_u_ne, am_u_at, am_u_n1, am_u_n2, am_w_ne]
  rw [l_tanglesIn_out hN hw hP hP5 P 0 0 none none am_cn0 (by omega), Nat.zero_add]
  rfl
end CLB
