--! 89
/-! TEXTS: the reference cuts them -/
def rK (c : Nat) : Nat := if c < 20 then 20 + c else if c = 20 then 1 else if c = 21 then 2 else if c = 22 then 0 else if c = 23 then 3 else if c = 59 then 4 else if c = 61 then 5 else if c = 40 then 6 else if c = 41 then 7 else if c = 43 then 8 else if c = 45 then 9 else if c = 42 then 10 else if c = 60 then 13 else 15
/-- the reference's k-th token -/
def tkR (J : Nat → Nat → Int32) (K : Nat → Nat → Int64) (x : txt) (k : Nat) : Prop := J 72 k = nI (rK (kK x k)) ∧ J 73 k = nI (kP x k) ∧ (kK x k = 21 → J 74 k = nI (kV x k)) ∧ (kK x k ≤ 20 → K 75 k = lN (cdW 27 (kM x k)))
def cuP (k j : Nat) : Prop := k = 72 ∨ k = 73 ∨ k = 74 ∨ (k = 69 ∧ j = 10)
def cuL (L L' : Nat → Nat → Int64) : Prop := ∀ k j, k ≠ 75 → L' k j = L k j
def relV (L : Nat → Nat → Int64) : Prop := ∀ k, k < 20 → L 76 k = lN (cdW 27 (wds.getD k []))
def cc (x : txt) (i : Nat) : Nat := if i < x.1 then x.2 i else 0
theorem wds_nd : ∀ i, i < 20 → ∀ j, j < 20 → wds.getD i [] = wds.getD j [] → i = j := by decide
theorem tK_c {x : txt} {i j : Nat} (h : tP x i = tP x j) : tK x i = tK x j ∧ tN x i = tN x j ∧ tM x i = tM x j ∧ tV x i = tV x j := by
  unfold tK tN tM tV
  rw [h]
  exact ⟨rfl, rfl, rfl, rfl⟩
section CU
variable {X : am_X} {d n : Nat} {I : Nat → Nat → Int32} {L : Nat → Nat → Int64} {R : Nat → Nat → Option Nat} {Q : Option Value → am_M → Prop} {x : txt}
theorem cc_L {i : Nat} : decide (97 ≤ cc x i ∧ cc x i ≤ 122) = xL x i := by
  unfold cc xL
  by_cases h : i < x.1
  · rw [if_pos h]; simp [h]
  · rw [if_neg h]; simp [h]
theorem cc_D {i : Nat} : decide (48 ≤ cc x i ∧ cc x i ≤ 57) = xD x i := by
  unfold cc xD
  by_cases h : i < x.1
  · rw [if_pos h]; simp [h]
  · rw [if_neg h]; simp [h]
theorem cc_lt {c i : Nat} (h : txI I c x) : cc x i < 256 := by
  unfold cc
  split
  · next hi => rw [(h.2 i hi).2]; exact cdB_lt _
  · omega
theorem c_token {k : Nat} {a b c : Int32} {l : Int64} (hR : am_OR R) (hN : 116 ≤ n) (hn : n ≤ 1000) (hk : I 69 10 = nI k) (h4 : k < 403) : am_E X d mX13_token 0 [some (.ref 69), some (.int a), some (.int b), some (.int c), some (.long l), none] [] (n, I, L, R) Q ↔ Q none (n, am_u (am_u (am_u (am_u I 72 k a) 73 k b) 74 k c) 69 10 (nI (k + 1)), am_u L 75 k l, R) := by
  have hl := am_lt hN
  have hvw9 := am_lw hN
  simp only [am_lv_of, rX13_token_0, rX13_token_1, rX13_token_4, rX13_token_5, rX13_token_8, rX13_token_9, rX13_token_10, rX13_token_11, rX13_token_14, rX13_token_15, rX13_token_18, rX13_token_19, rX13_token_20, rX13_token_21, rX13_token_24, rX13_token_25, rX13_token_28, rX13_token_29, rX13_token_30, rX13_token_31, rX13_token_34, rX13_token_35, rX13_token_38, rX13_token_40, rX13_token_41, rX13_token_42, rX13_token_43, rX13_token_46, rX13_token_47, rX13_token_48, rX13_token_51, ro_69_1 hR, ro_69_3 hR, ro_69_5 hR, ro_69_6 hR, ro_69_7 hR, ro_69_8 hR, ro_69_9 hR, ro_69_21 hR, ro_69_22 hR, ro_69_23 hR, ro_69_24 hR, ro_69_25 hR, ro_69_26 hR, ro_69_27 hR, ro_69_28 hR, ro_69_29 hR, ro_69_30 hR, ro_69_31 hR, ro_69_32 hR, ro_69_33 hR, ro_69_34 hR, ro_69_35 hR, ro_69_36 hR, ro_69_38 hR, ro_69_39 hR, ro_69_40 hR, ro_69_41 hR, ro_69_42 hR, ro_69_44 hR, ro_69_45 hR, ro_69_46 hR, ro_69_48 hR, ro_69_49 hR, ro_69_51 hR, ro_69_52 hR, ro_69_55 hR, ro_69_56 hR, ro_69_57 hR, ro_69_58 hR, ro_69_59 hR, ro_69_61 hR, ro_69_62 hR, ro_69_63 hR, ro_69_64 hR, ro_69_65 hR, ro_69_66 hR, sh_69, sh_70, sh_71, sh_72, sh_73, sh_74, sh_75, sh_76, sh_77, sh_78, sh_79, sh_80, sh_81, sh_82, sh_83, sh_84, sh_85, sh_86, sh_87, sh_88, sh_89, sh_90, sh_91, sh_92, sh_93, sh_94, sh_95, sh_96, sh_97, sh_98, sh_99, sh_100, sh_101, sh_102, sh_103, sh_104, sh_105, sh_106, sh_107, sh_108, sh_109, sh_110, sh_111, sh_112, sh_113, sh_114, sh_115, hl, hvw9, Nat.reduceLT, Nat.reduceAdd, Nat.reduceMul, ne_eq, Nat.reduceEqDiff, not_false_eq_true, or_true, true_or, or_false, false_or, and_true, true_and, and_self, Nat.reduceLeDiff, am_ci, am_cr, am_cn0, Option.toList_some, Option.toList_none, List.cons_append, List.nil_append, am_s0, am_s1, am_s1r, am_s2, am_s2r, am_s3r, nI_add, am_u_ne, am_u_at, am_u_n1, am_u_n2, am_w_ne, hn, hk, h4]
theorem c_byteAt {i : Nat} (hR : am_OR R) (hN : 116 ≤ n) (h4 : I 69 4 = nI x.1) (hx : txI I 71 x) (hi : i < 2 ^ 30) : am_E X d mX13_byteAt 0 [some (.ref 69), some (.int (nI i))] [] (n, I, L, R) Q ↔ Q (some (.int (nI (cc x i)))) (n, I, L, R) := by
  have hl := am_lt hN
  have hvw9 := am_lw hN
  have hT := hx.1
  unfold cc
  by_cases h : i < x.1
  · have c1 : ¬ nI x.1 ≤ nI i := nI_ge h (by omega)
    have i2 : i < 2000 := by omega
    simp only [am_lv_of, rX13_byteAt_0, rX13_byteAt_1, rX13_byteAt_2, rX13_byteAt_5, rX13_byteAt_8, rX13_byteAt_9, rX13_byteAt_12, rX13_byteAt_13, rX13_byteAt_14, rX13_byteAt_17, rX13_byteAt_18, rX13_byteAt_21, rX13_byteAt_22, ro_69_1 hR, ro_69_3 hR, ro_69_5 hR, ro_69_6 hR, ro_69_7 hR, ro_69_8 hR, ro_69_9 hR, ro_69_21 hR, ro_69_22 hR, ro_69_23 hR, ro_69_24 hR, ro_69_25 hR, ro_69_26 hR, ro_69_27 hR, ro_69_28 hR, ro_69_29 hR, ro_69_30 hR, ro_69_31 hR, ro_69_32 hR, ro_69_33 hR, ro_69_34 hR, ro_69_35 hR, ro_69_36 hR, ro_69_38 hR, ro_69_39 hR, ro_69_40 hR, ro_69_41 hR, ro_69_42 hR, ro_69_44 hR, ro_69_45 hR, ro_69_46 hR, ro_69_48 hR, ro_69_49 hR, ro_69_51 hR, ro_69_52 hR, ro_69_55 hR, ro_69_56 hR, ro_69_57 hR, ro_69_58 hR, ro_69_59 hR, ro_69_61 hR, ro_69_62 hR, ro_69_63 hR, ro_69_64 hR, ro_69_65 hR, ro_69_66 hR, sh_69, sh_70, sh_71, sh_72, sh_73, sh_74, sh_75, sh_76, sh_77, sh_78, sh_79, sh_80, sh_81, sh_82, sh_83, sh_84, sh_85, sh_86, sh_87, sh_88, sh_89, sh_90, sh_91, sh_92, sh_93, sh_94, sh_95, sh_96, sh_97, sh_98, sh_99, sh_100, sh_101, sh_102, sh_103, sh_104, sh_105, sh_106, sh_107, sh_108, sh_109, sh_110, sh_111, sh_112, sh_113, sh_114, sh_115, hl, hvw9, Nat.reduceLT, Nat.reduceAdd, Nat.reduceMul, ne_eq, Nat.reduceEqDiff, not_false_eq_true, or_true, true_or, or_false, false_or, and_true, true_and, and_self, Nat.reduceLeDiff, am_ci, am_cr, am_cn0, Option.toList_some, Option.toList_none, List.cons_append, List.nil_append, am_s0, am_s1, am_s1r, am_s2, am_s2r, am_s3r, nI_add, am_u_ne, am_u_at, am_u_n1, am_u_n2, am_w_ne, ↓reduceIte, h4, c1, i2, cdB_and, h, (hx.2 i h).2]
  · have c1 : nI x.1 ≤ nI i := nI_le (by omega) (by omega)
    simp only [am_lv_of, rX13_byteAt_0, rX13_byteAt_1, rX13_byteAt_2, rX13_byteAt_5, rX13_byteAt_8, rX13_byteAt_9, rX13_byteAt_12, rX13_byteAt_13, rX13_byteAt_14, rX13_byteAt_17, rX13_byteAt_18, rX13_byteAt_21, rX13_byteAt_22, ro_69_1 hR, ro_69_3 hR, ro_69_5 hR, ro_69_6 hR, ro_69_7 hR, ro_69_8 hR, ro_69_9 hR, ro_69_21 hR, ro_69_22 hR, ro_69_23 hR, ro_69_24 hR, ro_69_25 hR, ro_69_26 hR, ro_69_27 hR, ro_69_28 hR, ro_69_29 hR, ro_69_30 hR, ro_69_31 hR, ro_69_32 hR, ro_69_33 hR, ro_69_34 hR, ro_69_35 hR, ro_69_36 hR, ro_69_38 hR, ro_69_39 hR, ro_69_40 hR, ro_69_41 hR, ro_69_42 hR, ro_69_44 hR, ro_69_45 hR, ro_69_46 hR, ro_69_48 hR, ro_69_49 hR, ro_69_51 hR, ro_69_52 hR, ro_69_55 hR, ro_69_56 hR, ro_69_57 hR, ro_69_58 hR, ro_69_59 hR, ro_69_61 hR, ro_69_62 hR, ro_69_63 hR, ro_69_64 hR, ro_69_65 hR, ro_69_66 hR, sh_69, sh_70, sh_71, sh_72, sh_73, sh_74, sh_75, sh_76, sh_77, sh_78, sh_79, sh_80, sh_81, sh_82, sh_83, sh_84, sh_85, sh_86, sh_87, sh_88, sh_89, sh_90, sh_91, sh_92, sh_93, sh_94, sh_95, sh_96, sh_97, sh_98, sh_99, sh_100, sh_101, sh_102, sh_103, sh_104, sh_105, sh_106, sh_107, sh_108, sh_109, sh_110, sh_111, sh_112, sh_113, sh_114, sh_115, hl, hvw9, Nat.reduceLT, Nat.reduceAdd, Nat.reduceMul, ne_eq, Nat.reduceEqDiff, not_false_eq_true, or_true, true_or, or_false, false_or, and_true, true_and, and_self, Nat.reduceLeDiff, am_ci, am_cr, am_cn0, Option.toList_some, Option.toList_none, List.cons_append, List.nil_append, am_s0, am_s1, am_s1r, am_s2, am_s2r, am_s3r, nI_add, am_u_ne, am_u_at, am_u_n1, am_u_n2, am_w_ne, ↓reduceIte, h4, c1, h]
theorem c_isLetter {c : Nat} (hc : c < 256) : am_E X d mX13_isLetter 0 [some (.int (nI c))] [] (n, I, L, R) Q ↔ Q (some (.int (bI (decide (97 ≤ c ∧ c ≤ 122))))) (n, I, L, R) := by
  have e1 := nI_ltI (a := c) (b := 97) (by omega) (by omega)
  have e2 := nI_ltI (a := 122) (b := c) (by omega) (by omega)
  simp only [am_lv_of, rX13_isLetter_0, rX13_isLetter_1, rX13_isLetter_3, e1]
  by_cases h1 : c < 97
  · rw [if_pos h1, decide_eq_false (by omega)]
    simp only [am_lv_of, rX13_isLetter_16, rX13_isLetter_17_0, bI, Bool.false_eq_true, if_false]
  · rw [if_neg h1]
    simp only [am_lv_of, rX13_isLetter_6, rX13_isLetter_7, rX13_isLetter_9, e2]
    by_cases h2 : 122 < c
    · rw [if_pos h2, decide_eq_false (by omega)]
      simp only [am_lv_of, rX13_isLetter_16, rX13_isLetter_17_0, bI, Bool.false_eq_true, if_false]
    · rw [if_neg h2, decide_eq_true (by omega)]
      simp only [am_lv_of, rX13_isLetter_12, rX13_isLetter_13, rX13_isLetter_17_1, bI, if_true]
theorem c_isDigit {c : Nat} (hc : c < 256) : am_E X d mX13_isDigit 0 [some (.int (nI c))] [] (n, I, L, R) Q ↔ Q (some (.int (bI (decide (48 ≤ c ∧ c ≤ 57))))) (n, I, L, R) := by
  have e1 := nI_ltI (a := c) (b := 48) (by omega) (by omega)
  have e2 := nI_ltI (a := 57) (b := c) (by omega) (by omega)
  simp only [am_lv_of, rX13_isDigit_0, rX13_isDigit_1, rX13_isDigit_3, e1]
  by_cases h1 : c < 48
  · rw [if_pos h1, decide_eq_false (by omega)]
    simp only [am_lv_of, rX13_isDigit_16, rX13_isDigit_17_0, bI, Bool.false_eq_true, if_false]
  · rw [if_neg h1]
    simp only [am_lv_of, rX13_isDigit_6, rX13_isDigit_7, rX13_isDigit_9, e2]
    by_cases h2 : 57 < c
    · rw [if_pos h2, decide_eq_false (by omega)]
      simp only [am_lv_of, rX13_isDigit_16, rX13_isDigit_17_0, bI, Bool.false_eq_true, if_false]
    · rw [if_neg h2, decide_eq_true (by omega)]
      simp only [am_lv_of, rX13_isDigit_12, rX13_isDigit_13, rX13_isDigit_17_1, bI, if_true]
theorem c_appends {a c : Nat} (hc : 97 ≤ c ∧ c ≤ 122) : am_E X d mX13_appends 0 [some (.long (lN a)), none, some (.int (nI c))] [] (n, I, L, R) Q ↔ Q (some (.long (lN (27 * a + (c - 96))))) (n, I, L, R) := by
  have z : ¬ nI c = 0 := nI_ne0 (by omega) (by omega)
  have s1 : nI c - nI 97 = nI (c - 97) := pk_sub hc.1
  have s2 : (nI (c - 96)).toInt64 = lN (c - 96) := nI_l (by omega)
  have e27 : (27 : Int64) = lN 27 := rfl
  have s3 : c - 97 + 1 = c - 96 := by omega
  simp only [am_lv_of, rX13_appends_0, rX13_appends_1, rX13_appends_4, rX13_appends_5, rX13_appends_8, rX13_appends_11, rX13_appends_12, rX13_appends_13, rX13_appends_14, rX13_appends_16, rX13_appends_17, rX13_appends_18, rX13_appends_19, rX13_appends_20, rX13_appends_21, ↓reduceIte, z, not_false_eq_true, s1, nI_add, s3, s2, e27, lN_mul, lN_add]
theorem l_cutL {p : Nat} {l2 l6 l7 : Option Value} (hR : am_OR R) (hN : 116 ≤ n) (h4 : I 69 4 = nI x.1) (hx : txI I 71 x) (n2 : am_nl l2) (hQ : ∀ a, (rn x (xL x) p - p ≤ 8 → a = cdW 27 (nmX x p (rn x (xL x) p))) → am_E X (d + 1) mX13_cut 124 [some (.ref 69), some (.int (nI p)), l2, some (.int (nI (rn x (xL x) p - p))), some (.long (lN a)), none, l6, l7] [] (n, I, L, R) Q) : ∀ (m q a : Nat), x.1 - (p + q) = m → rn x (xL x) p = rn x (xL x) (p + q) → (q ≤ 8 → a = cdW 27 (nmX x p (p + q))) → p + q ≤ x.1 → am_E X (d + 1) mX13_cut 85 [some (.ref 69), some (.int (nI p)), l2, some (.int (nI q)), some (.long (lN a)), none, l6, l7] [] (n, I, L, R) Q := by
  have hl := am_lt hN
  have hvw9 := am_lw hN
  have hT := hx.1
  have stop : ∀ (q a : Nat), xL x (p + q) = false → rn x (xL x) p = rn x (xL x) (p + q) → (q ≤ 8 → a = cdW 27 (nmX x p (p + q))) → p + q ≤ x.1 → am_E X (d + 1) mX13_cut 85 [some (.ref 69), some (.int (nI p)), l2, some (.int (nI q)), some (.long (lN a)), none, l6, l7] [] (n, I, L, R) Q := by
    intro q a h hr ha hq
    rw [rn_no h] at hr
    have e : rn x (xL x) p - p = q := by omega
    simp only [am_lv_of, rX13_cut_85, rX13_cut_86, rX13_cut_87, rX13_cut_88, rX13_cut_89, rX13_cut_92, ro_69_1 hR, ro_69_3 hR, ro_69_5 hR, ro_69_6 hR, ro_69_7 hR, ro_69_8 hR, ro_69_9 hR, ro_69_21 hR, ro_69_22 hR, ro_69_23 hR, ro_69_24 hR, ro_69_25 hR, ro_69_26 hR, ro_69_27 hR, ro_69_28 hR, ro_69_29 hR, ro_69_30 hR, ro_69_31 hR, ro_69_32 hR, ro_69_33 hR, ro_69_34 hR, ro_69_35 hR, ro_69_36 hR, ro_69_38 hR, ro_69_39 hR, ro_69_40 hR, ro_69_41 hR, ro_69_42 hR, ro_69_44 hR, ro_69_45 hR, ro_69_46 hR, ro_69_48 hR, ro_69_49 hR, ro_69_51 hR, ro_69_52 hR, ro_69_55 hR, ro_69_56 hR, ro_69_57 hR, ro_69_58 hR, ro_69_59 hR, ro_69_61 hR, ro_69_62 hR, ro_69_63 hR, ro_69_64 hR, ro_69_65 hR, ro_69_66 hR, sh_69, sh_70, sh_71, sh_72, sh_73, sh_74, sh_75, sh_76, sh_77, sh_78, sh_79, sh_80, sh_81, sh_82, sh_83, sh_84, sh_85, sh_86, sh_87, sh_88, sh_89, sh_90, sh_91, sh_92, sh_93, sh_94, sh_95, sh_96, sh_97, sh_98, sh_99, sh_100, sh_101, sh_102, sh_103, sh_104, sh_105, sh_106, sh_107, sh_108, sh_109, sh_110, sh_111, sh_112, sh_113, sh_114, sh_115, hl, hvw9, Nat.reduceLT, Nat.reduceAdd, Nat.reduceMul, ne_eq, Nat.reduceEqDiff, not_false_eq_true, or_true, true_or, or_false, false_or, and_true, true_and, and_self, Nat.reduceLeDiff, am_ci, am_cr, am_cn0, Option.toList_some, Option.toList_none, List.cons_append, List.nil_append, am_s0, am_s1, am_s1r, am_s2, am_s2r, am_s3r, nI_add, am_u_ne, am_u_at, am_u_n1, am_u_n2, am_w_ne, c_byteAt hR hN h4 hx (show p + q < 2 ^ 30 by omega), c_isLetter (cc_lt hx), cc_L, h, rX13_cut_95, b_f, ↓reduceIte]
    rw [e, hr] at hQ
    exact hQ a ha
  intro m
  induction m with
  | zero =>
    intro q a hm hr ha hq
    exact stop q a (decide_eq_false (fun z => by omega)) hr ha hq
  | succ m ih =>
    intro q a hm hr ha hq
    by_cases h : xL x (p + q) = true
    · have hb2 := (of_decide_eq_true h).2
      have ec : cc x (p + q) = x.2 (p + q) := if_pos (by omega)
      have hr2 : rn x (xL x) p = rn x (xL x) (p + (q + 1)) := by rw [hr, rn_yes h (by omega)]; rfl
      rw [rX13_cut_85]
      simp only [am_lv_of, rX13_cut_86, rX13_cut_87, rX13_cut_88, rX13_cut_89, rX13_cut_92, ro_69_1 hR, ro_69_3 hR, ro_69_5 hR, ro_69_6 hR, ro_69_7 hR, ro_69_8 hR, ro_69_9 hR, ro_69_21 hR, ro_69_22 hR, ro_69_23 hR, ro_69_24 hR, ro_69_25 hR, ro_69_26 hR, ro_69_27 hR, ro_69_28 hR, ro_69_29 hR, ro_69_30 hR, ro_69_31 hR, ro_69_32 hR, ro_69_33 hR, ro_69_34 hR, ro_69_35 hR, ro_69_36 hR, ro_69_38 hR, ro_69_39 hR, ro_69_40 hR, ro_69_41 hR, ro_69_42 hR, ro_69_44 hR, ro_69_45 hR, ro_69_46 hR, ro_69_48 hR, ro_69_49 hR, ro_69_51 hR, ro_69_52 hR, ro_69_55 hR, ro_69_56 hR, ro_69_57 hR, ro_69_58 hR, ro_69_59 hR, ro_69_61 hR, ro_69_62 hR, ro_69_63 hR, ro_69_64 hR, ro_69_65 hR, ro_69_66 hR, sh_69, sh_70, sh_71, sh_72, sh_73, sh_74, sh_75, sh_76, sh_77, sh_78, sh_79, sh_80, sh_81, sh_82, sh_83, sh_84, sh_85, sh_86, sh_87, sh_88, sh_89, sh_90, sh_91, sh_92, sh_93, sh_94, sh_95, sh_96, sh_97, sh_98, sh_99, sh_100, sh_101, sh_102, sh_103, sh_104, sh_105, sh_106, sh_107, sh_108, sh_109, sh_110, sh_111, sh_112, sh_113, sh_114, sh_115, hl, hvw9, Nat.reduceLT, Nat.reduceAdd, Nat.reduceMul, ne_eq, Nat.reduceEqDiff, not_false_eq_true, or_true, true_or, or_false, false_or, and_true, true_and, and_self, Nat.reduceLeDiff, am_ci, am_cr, am_cn0, Option.toList_some, Option.toList_none, List.cons_append, List.nil_append, am_s0, am_s1, am_s1r, am_s2, am_s2r, am_s3r, nI_add, am_u_ne, am_u_at, am_u_n1, am_u_n2, am_w_ne, c_byteAt hR hN h4 hx (show p + q < 2 ^ 30 by omega), c_isLetter (cc_lt hx), cc_L, h, rX13_cut_95, b_t, ↓reduceIte, rX13_cut_98, rX13_cut_99, rX13_cut_101]
      by_cases h8 : q < 8
      · have c8 : ¬ nI 8 ≤ nI q := nI_ge h8 (by omega)
        have sl : am_sum [Value.long (lN a)] ≤ 8 := Nat.le_of_ble_eq_true rfl
        simp only [am_lv_of, c8, ↓reduceIte, rX13_cut_104, rX13_cut_106, rX13_cut_107, rX13_cut_108, rX13_cut_109, rX13_cut_110, rX13_cut_113, rX13_cut_116, rX13_cut_118, rX13_cut_121, ro_69_1 hR, ro_69_3 hR, ro_69_5 hR, ro_69_6 hR, ro_69_7 hR, ro_69_8 hR, ro_69_9 hR, ro_69_21 hR, ro_69_22 hR, ro_69_23 hR, ro_69_24 hR, ro_69_25 hR, ro_69_26 hR, ro_69_27 hR, ro_69_28 hR, ro_69_29 hR, ro_69_30 hR, ro_69_31 hR, ro_69_32 hR, ro_69_33 hR, ro_69_34 hR, ro_69_35 hR, ro_69_36 hR, ro_69_38 hR, ro_69_39 hR, ro_69_40 hR, ro_69_41 hR, ro_69_42 hR, ro_69_44 hR, ro_69_45 hR, ro_69_46 hR, ro_69_48 hR, ro_69_49 hR, ro_69_51 hR, ro_69_52 hR, ro_69_55 hR, ro_69_56 hR, ro_69_57 hR, ro_69_58 hR, ro_69_59 hR, ro_69_61 hR, ro_69_62 hR, ro_69_63 hR, ro_69_64 hR, ro_69_65 hR, ro_69_66 hR, sh_69, sh_70, sh_71, sh_72, sh_73, sh_74, sh_75, sh_76, sh_77, sh_78, sh_79, sh_80, sh_81, sh_82, sh_83, sh_84, sh_85, sh_86, sh_87, sh_88, sh_89, sh_90, sh_91, sh_92, sh_93, sh_94, sh_95, sh_96, sh_97, sh_98, sh_99, sh_100, sh_101, sh_102, sh_103, sh_104, sh_105, sh_106, sh_107, sh_108, sh_109, sh_110, sh_111, sh_112, sh_113, sh_114, sh_115, hl, hvw9, Nat.reduceLT, Nat.reduceAdd, Nat.reduceMul, ne_eq, Nat.reduceEqDiff, not_false_eq_true, or_true, true_or, or_false, false_or, and_true, true_and, and_self, Nat.reduceLeDiff, am_ci, am_cr, am_cn0, Option.toList_some, Option.toList_none, List.cons_append, List.nil_append, am_s0, am_s1, am_s1r, am_s2, am_s2r, am_s3r, nI_add, am_u_ne, am_u_at, am_u_n1, am_u_n2, am_w_ne, n2, sl, c_byteAt hR hN h4 hx (show p + q < 2 ^ 30 by omega), ec, c_appends hb2]
        refine ih (q + 1) _ (by omega) hr2 (fun _ => ?_) (by omega)
        rw [← Nat.add_assoc, nmX_s (by omega), cdW_s, ha (by omega)]
      · have c8 : nI 8 ≤ nI q := nI_le (by omega) (by omega)
        simp only [am_lv_of, c8, ↓reduceIte, rX13_cut_118, rX13_cut_121, ro_69_1 hR, ro_69_3 hR, ro_69_5 hR, ro_69_6 hR, ro_69_7 hR, ro_69_8 hR, ro_69_9 hR, ro_69_21 hR, ro_69_22 hR, ro_69_23 hR, ro_69_24 hR, ro_69_25 hR, ro_69_26 hR, ro_69_27 hR, ro_69_28 hR, ro_69_29 hR, ro_69_30 hR, ro_69_31 hR, ro_69_32 hR, ro_69_33 hR, ro_69_34 hR, ro_69_35 hR, ro_69_36 hR, ro_69_38 hR, ro_69_39 hR, ro_69_40 hR, ro_69_41 hR, ro_69_42 hR, ro_69_44 hR, ro_69_45 hR, ro_69_46 hR, ro_69_48 hR, ro_69_49 hR, ro_69_51 hR, ro_69_52 hR, ro_69_55 hR, ro_69_56 hR, ro_69_57 hR, ro_69_58 hR, ro_69_59 hR, ro_69_61 hR, ro_69_62 hR, ro_69_63 hR, ro_69_64 hR, ro_69_65 hR, ro_69_66 hR, sh_69, sh_70, sh_71, sh_72, sh_73, sh_74, sh_75, sh_76, sh_77, sh_78, sh_79, sh_80, sh_81, sh_82, sh_83, sh_84, sh_85, sh_86, sh_87, sh_88, sh_89, sh_90, sh_91, sh_92, sh_93, sh_94, sh_95, sh_96, sh_97, sh_98, sh_99, sh_100, sh_101, sh_102, sh_103, sh_104, sh_105, sh_106, sh_107, sh_108, sh_109, sh_110, sh_111, sh_112, sh_113, sh_114, sh_115, hl, hvw9, Nat.reduceLT, Nat.reduceAdd, Nat.reduceMul, ne_eq, Nat.reduceEqDiff, not_false_eq_true, or_true, true_or, or_false, false_or, and_true, true_and, and_self, Nat.reduceLeDiff, am_ci, am_cr, am_cn0, Option.toList_some, Option.toList_none, List.cons_append, List.nil_append, am_s0, am_s1, am_s1r, am_s2, am_s2r, am_s3r, nI_add, am_u_ne, am_u_at, am_u_n1, am_u_n2, am_w_ne, n2]
        exact ih (q + 1) a (by omega) hr2 (fun z => absurd z (by omega)) (by omega)
    · exact stop q a (by simpa using h) hr ha hq
theorem l_cutD {p : Nat} {l2 l5 l6 l7 : Option Value} (hR : am_OR R) (hN : 116 ≤ n) (h4 : I 69 4 = nI x.1) (hx : txI I 71 x) (n2 : am_nl l2) (hQ : ∀ a, (rn x (xD x) p - p ≤ 4 → a = cdW 10 (dgX x p (rn x (xD x) p))) → am_E X (d + 1) mX13_cut 250 [some (.ref 69), some (.int (nI p)), l2, some (.int (nI (rn x (xD x) p - p))), some (.int (nI a)), l5, l6, l7] [] (n, I, L, R) Q) : ∀ (m q a : Nat), x.1 - (p + q) = m → rn x (xD x) p = rn x (xD x) (p + q) → (q ≤ 4 → a = cdW 10 (dgX x p (p + q))) → p + q ≤ x.1 → am_E X (d + 1) mX13_cut 208 [some (.ref 69), some (.int (nI p)), l2, some (.int (nI q)), some (.int (nI a)), l5, l6, l7] [] (n, I, L, R) Q := by
  have hl := am_lt hN
  have hvw9 := am_lw hN
  have hT := hx.1
  have stop : ∀ (q a : Nat), xD x (p + q) = false → rn x (xD x) p = rn x (xD x) (p + q) → (q ≤ 4 → a = cdW 10 (dgX x p (p + q))) → p + q ≤ x.1 → am_E X (d + 1) mX13_cut 208 [some (.ref 69), some (.int (nI p)), l2, some (.int (nI q)), some (.int (nI a)), l5, l6, l7] [] (n, I, L, R) Q := by
    intro q a h hr ha hq
    rw [rn_no h] at hr
    have e : rn x (xD x) p - p = q := by omega
    simp only [am_lv_of, rX13_cut_208, rX13_cut_209, rX13_cut_210, rX13_cut_211, rX13_cut_212, rX13_cut_215, ro_69_1 hR, ro_69_3 hR, ro_69_5 hR, ro_69_6 hR, ro_69_7 hR, ro_69_8 hR, ro_69_9 hR, ro_69_21 hR, ro_69_22 hR, ro_69_23 hR, ro_69_24 hR, ro_69_25 hR, ro_69_26 hR, ro_69_27 hR, ro_69_28 hR, ro_69_29 hR, ro_69_30 hR, ro_69_31 hR, ro_69_32 hR, ro_69_33 hR, ro_69_34 hR, ro_69_35 hR, ro_69_36 hR, ro_69_38 hR, ro_69_39 hR, ro_69_40 hR, ro_69_41 hR, ro_69_42 hR, ro_69_44 hR, ro_69_45 hR, ro_69_46 hR, ro_69_48 hR, ro_69_49 hR, ro_69_51 hR, ro_69_52 hR, ro_69_55 hR, ro_69_56 hR, ro_69_57 hR, ro_69_58 hR, ro_69_59 hR, ro_69_61 hR, ro_69_62 hR, ro_69_63 hR, ro_69_64 hR, ro_69_65 hR, ro_69_66 hR, sh_69, sh_70, sh_71, sh_72, sh_73, sh_74, sh_75, sh_76, sh_77, sh_78, sh_79, sh_80, sh_81, sh_82, sh_83, sh_84, sh_85, sh_86, sh_87, sh_88, sh_89, sh_90, sh_91, sh_92, sh_93, sh_94, sh_95, sh_96, sh_97, sh_98, sh_99, sh_100, sh_101, sh_102, sh_103, sh_104, sh_105, sh_106, sh_107, sh_108, sh_109, sh_110, sh_111, sh_112, sh_113, sh_114, sh_115, hl, hvw9, Nat.reduceLT, Nat.reduceAdd, Nat.reduceMul, ne_eq, Nat.reduceEqDiff, not_false_eq_true, or_true, true_or, or_false, false_or, and_true, true_and, and_self, Nat.reduceLeDiff, am_ci, am_cr, am_cn0, Option.toList_some, Option.toList_none, List.cons_append, List.nil_append, am_s0, am_s1, am_s1r, am_s2, am_s2r, am_s3r, nI_add, am_u_ne, am_u_at, am_u_n1, am_u_n2, am_w_ne, c_byteAt hR hN h4 hx (show p + q < 2 ^ 30 by omega), c_isDigit (cc_lt hx), cc_D, h, rX13_cut_218, b_f, ↓reduceIte]
    rw [e, hr] at hQ
    exact hQ a ha
  intro m
  induction m with
  | zero =>
    intro q a hm hr ha hq
    exact stop q a (decide_eq_false (fun z => by omega)) hr ha hq
  | succ m ih =>
    intro q a hm hr ha hq
    by_cases h : xD x (p + q) = true
    · have hb2 := (of_decide_eq_true h).2
      have ec : cc x (p + q) = x.2 (p + q) := if_pos (by omega)
      have hr2 : rn x (xD x) p = rn x (xD x) (p + (q + 1)) := by rw [hr, rn_yes h (by omega)]; rfl
      rw [rX13_cut_208]
      simp only [am_lv_of, rX13_cut_209, rX13_cut_210, rX13_cut_211, rX13_cut_212, rX13_cut_215, ro_69_1 hR, ro_69_3 hR, ro_69_5 hR, ro_69_6 hR, ro_69_7 hR, ro_69_8 hR, ro_69_9 hR, ro_69_21 hR, ro_69_22 hR, ro_69_23 hR, ro_69_24 hR, ro_69_25 hR, ro_69_26 hR, ro_69_27 hR, ro_69_28 hR, ro_69_29 hR, ro_69_30 hR, ro_69_31 hR, ro_69_32 hR, ro_69_33 hR, ro_69_34 hR, ro_69_35 hR, ro_69_36 hR, ro_69_38 hR, ro_69_39 hR, ro_69_40 hR, ro_69_41 hR, ro_69_42 hR, ro_69_44 hR, ro_69_45 hR, ro_69_46 hR, ro_69_48 hR, ro_69_49 hR, ro_69_51 hR, ro_69_52 hR, ro_69_55 hR, ro_69_56 hR, ro_69_57 hR, ro_69_58 hR, ro_69_59 hR, ro_69_61 hR, ro_69_62 hR, ro_69_63 hR, ro_69_64 hR, ro_69_65 hR, ro_69_66 hR, sh_69, sh_70, sh_71, sh_72, sh_73, sh_74, sh_75, sh_76, sh_77, sh_78, sh_79, sh_80, sh_81, sh_82, sh_83, sh_84, sh_85, sh_86, sh_87, sh_88, sh_89, sh_90, sh_91, sh_92, sh_93, sh_94, sh_95, sh_96, sh_97, sh_98, sh_99, sh_100, sh_101, sh_102, sh_103, sh_104, sh_105, sh_106, sh_107, sh_108, sh_109, sh_110, sh_111, sh_112, sh_113, sh_114, sh_115, hl, hvw9, Nat.reduceLT, Nat.reduceAdd, Nat.reduceMul, ne_eq, Nat.reduceEqDiff, not_false_eq_true, or_true, true_or, or_false, false_or, and_true, true_and, and_self, Nat.reduceLeDiff, am_ci, am_cr, am_cn0, Option.toList_some, Option.toList_none, List.cons_append, List.nil_append, am_s0, am_s1, am_s1r, am_s2, am_s2r, am_s3r, nI_add, am_u_ne, am_u_at, am_u_n1, am_u_n2, am_w_ne, c_byteAt hR hN h4 hx (show p + q < 2 ^ 30 by omega), c_isDigit (cc_lt hx), cc_D, h, rX13_cut_218, b_t, ↓reduceIte, rX13_cut_221, rX13_cut_222, rX13_cut_223]
      by_cases h8 : q < 4
      · have c8 : ¬ nI 4 ≤ nI q := nI_ge h8 (by omega)
        have s1 : nI (10 * a + x.2 (p + q)) - nI 48 = nI (10 * a + (x.2 (p + q) - 48)) := by
          rw [pk_sub (by omega)]
          exact congrArg nI (by omega)
        simp only [am_lv_of, c8, ↓reduceIte, rX13_cut_226, rX13_cut_228, rX13_cut_230, rX13_cut_231, rX13_cut_232, rX13_cut_233, rX13_cut_234, rX13_cut_235, rX13_cut_238, rX13_cut_239, rX13_cut_241, rX13_cut_242, rX13_cut_244, rX13_cut_247, ro_69_1 hR, ro_69_3 hR, ro_69_5 hR, ro_69_6 hR, ro_69_7 hR, ro_69_8 hR, ro_69_9 hR, ro_69_21 hR, ro_69_22 hR, ro_69_23 hR, ro_69_24 hR, ro_69_25 hR, ro_69_26 hR, ro_69_27 hR, ro_69_28 hR, ro_69_29 hR, ro_69_30 hR, ro_69_31 hR, ro_69_32 hR, ro_69_33 hR, ro_69_34 hR, ro_69_35 hR, ro_69_36 hR, ro_69_38 hR, ro_69_39 hR, ro_69_40 hR, ro_69_41 hR, ro_69_42 hR, ro_69_44 hR, ro_69_45 hR, ro_69_46 hR, ro_69_48 hR, ro_69_49 hR, ro_69_51 hR, ro_69_52 hR, ro_69_55 hR, ro_69_56 hR, ro_69_57 hR, ro_69_58 hR, ro_69_59 hR, ro_69_61 hR, ro_69_62 hR, ro_69_63 hR, ro_69_64 hR, ro_69_65 hR, ro_69_66 hR, sh_69, sh_70, sh_71, sh_72, sh_73, sh_74, sh_75, sh_76, sh_77, sh_78, sh_79, sh_80, sh_81, sh_82, sh_83, sh_84, sh_85, sh_86, sh_87, sh_88, sh_89, sh_90, sh_91, sh_92, sh_93, sh_94, sh_95, sh_96, sh_97, sh_98, sh_99, sh_100, sh_101, sh_102, sh_103, sh_104, sh_105, sh_106, sh_107, sh_108, sh_109, sh_110, sh_111, sh_112, sh_113, sh_114, sh_115, hl, hvw9, Nat.reduceLT, Nat.reduceAdd, Nat.reduceMul, ne_eq, Nat.reduceEqDiff, not_false_eq_true, or_true, true_or, or_false, false_or, and_true, true_and, and_self, Nat.reduceLeDiff, am_ci, am_cr, am_cn0, Option.toList_some, Option.toList_none, List.cons_append, List.nil_append, am_s0, am_s1, am_s1r, am_s2, am_s2r, am_s3r, nI_add, am_u_ne, am_u_at, am_u_n1, am_u_n2, am_w_ne, n2, c_byteAt hR hN h4 hx (show p + q < 2 ^ 30 by omega), ec, pk_mul, s1]
        refine ih (q + 1) _ (by omega) hr2 (fun _ => ?_) (by omega)
        rw [← Nat.add_assoc, dgX_s (by omega), cdW_s, ha (by omega)]
      · have c8 : nI 4 ≤ nI q := nI_le (by omega) (by omega)
        simp only [am_lv_of, c8, ↓reduceIte, rX13_cut_244, rX13_cut_247, ro_69_1 hR, ro_69_3 hR, ro_69_5 hR, ro_69_6 hR, ro_69_7 hR, ro_69_8 hR, ro_69_9 hR, ro_69_21 hR, ro_69_22 hR, ro_69_23 hR, ro_69_24 hR, ro_69_25 hR, ro_69_26 hR, ro_69_27 hR, ro_69_28 hR, ro_69_29 hR, ro_69_30 hR, ro_69_31 hR, ro_69_32 hR, ro_69_33 hR, ro_69_34 hR, ro_69_35 hR, ro_69_36 hR, ro_69_38 hR, ro_69_39 hR, ro_69_40 hR, ro_69_41 hR, ro_69_42 hR, ro_69_44 hR, ro_69_45 hR, ro_69_46 hR, ro_69_48 hR, ro_69_49 hR, ro_69_51 hR, ro_69_52 hR, ro_69_55 hR, ro_69_56 hR, ro_69_57 hR, ro_69_58 hR, ro_69_59 hR, ro_69_61 hR, ro_69_62 hR, ro_69_63 hR, ro_69_64 hR, ro_69_65 hR, ro_69_66 hR, sh_69, sh_70, sh_71, sh_72, sh_73, sh_74, sh_75, sh_76, sh_77, sh_78, sh_79, sh_80, sh_81, sh_82, sh_83, sh_84, sh_85, sh_86, sh_87, sh_88, sh_89, sh_90, sh_91, sh_92, sh_93, sh_94, sh_95, sh_96, sh_97, sh_98, sh_99, sh_100, sh_101, sh_102, sh_103, sh_104, sh_105, sh_106, sh_107, sh_108, sh_109, sh_110, sh_111, sh_112, sh_113, sh_114, sh_115, hl, hvw9, Nat.reduceLT, Nat.reduceAdd, Nat.reduceMul, ne_eq, Nat.reduceEqDiff, not_false_eq_true, or_true, true_or, or_false, false_or, and_true, true_and, and_self, Nat.reduceLeDiff, am_ci, am_cr, am_cn0, Option.toList_some, Option.toList_none, List.cons_append, List.nil_append, am_s0, am_s1, am_s1r, am_s2, am_s2r, am_s3r, nI_add, am_u_ne, am_u_at, am_u_n1, am_u_n2, am_w_ne, n2]
        exact ih (q + 1) a (by omega) hr2 (fun z => absurd z (by omega)) (by omega)
    · exact stop q a (by simpa using h) hr ha hq
theorem l_cutW {l : List Nat} {l1 l2 l3 : Option Value} (hR : am_OR R) (hN : 116 ≤ n) (hV : relV L) (hl1 : okW l) (hl2 : l.length ≤ 8) (hQ : ∀ l7, am_E X d mX13_cut 179 [some (.ref 69), l1, l2, l3, some (.long (lN (cdW 27 l))), none, some (.int (nI (if wIx l < 20 then 20 + wIx l else 1))), l7] [] (n, I, L, R) Q) : ∀ (m k : Nat), k + m = 20 → am_E X d mX13_cut 146 [some (.ref 69), l1, l2, l3, some (.long (lN (cdW 27 l))), none, some (.int (nI (if wIx l < k then 20 + wIx l else 1))), some (.int (nI k))] [] (n, I, L, R) Q := by
  have hl := am_lt hN
  have hvw9 := am_lw hN
  intro m
  induction m with
  | zero =>
    intro k hk
    have hk : k = 20 := by omega
    subst hk
    have c1 : nI 20 ≤ nI 20 := by decide
    simp only [am_lv_of, rX13_cut_146, rX13_cut_148, rX13_cut_150, ↓reduceIte, c1]
    exact hQ _
  | succ m ih =>
    intro k hk
    have k20 : k < 20 := by omega
    have c1 : ¬ nI 20 ≤ nI k := nI_ge k20 (by omega)
    obtain ⟨w1, w2⟩ := wds_ok k k20
    rw [rX13_cut_146]
    simp only [am_lv_of, rX13_cut_148, rX13_cut_150, rX13_cut_153, rX13_cut_154, rX13_cut_157, rX13_cut_159, rX13_cut_160, rX13_cut_162, ro_69_1 hR, ro_69_3 hR, ro_69_5 hR, ro_69_6 hR, ro_69_7 hR, ro_69_8 hR, ro_69_9 hR, ro_69_21 hR, ro_69_22 hR, ro_69_23 hR, ro_69_24 hR, ro_69_25 hR, ro_69_26 hR, ro_69_27 hR, ro_69_28 hR, ro_69_29 hR, ro_69_30 hR, ro_69_31 hR, ro_69_32 hR, ro_69_33 hR, ro_69_34 hR, ro_69_35 hR, ro_69_36 hR, ro_69_38 hR, ro_69_39 hR, ro_69_40 hR, ro_69_41 hR, ro_69_42 hR, ro_69_44 hR, ro_69_45 hR, ro_69_46 hR, ro_69_48 hR, ro_69_49 hR, ro_69_51 hR, ro_69_52 hR, ro_69_55 hR, ro_69_56 hR, ro_69_57 hR, ro_69_58 hR, ro_69_59 hR, ro_69_61 hR, ro_69_62 hR, ro_69_63 hR, ro_69_64 hR, ro_69_65 hR, ro_69_66 hR, sh_69, sh_70, sh_71, sh_72, sh_73, sh_74, sh_75, sh_76, sh_77, sh_78, sh_79, sh_80, sh_81, sh_82, sh_83, sh_84, sh_85, sh_86, sh_87, sh_88, sh_89, sh_90, sh_91, sh_92, sh_93, sh_94, sh_95, sh_96, sh_97, sh_98, sh_99, sh_100, sh_101, sh_102, sh_103, sh_104, sh_105, sh_106, sh_107, sh_108, sh_109, sh_110, sh_111, sh_112, sh_113, sh_114, sh_115, hl, hvw9, Nat.reduceLT, Nat.reduceAdd, Nat.reduceMul, ne_eq, Nat.reduceEqDiff, not_false_eq_true, or_true, true_or, or_false, false_or, and_true, true_and, and_self, Nat.reduceLeDiff, am_ci, am_cr, am_cn0, Option.toList_some, Option.toList_none, List.cons_append, List.nil_append, am_s0, am_s1, am_s1r, am_s2, am_s2r, am_s3r, nI_add, am_u_ne, am_u_at, am_u_n1, am_u_n2, am_w_ne, ↓reduceIte, c1, k20, hV k k20, rX13_cut_163, lcmp_eq, cdW_eq (Or.inl rfl) w1 hl1 w2 hl2]
    have wl := wIx_le l
    by_cases hc : wds.getD k [] = l
    · have hc' : (wds.getD k [] = l) = True := eq_true hc
      have hkw : wIx l = k := by
        by_cases e : k < wIx l
        · exact absurd hc (wIx_lt e)
        · have := wIx_at (l := l) (by omega)
          exact wds_nd _ (by omega) _ k20 (by rw [this, hc])
      have := ih (k + 1) (by omega)
      rw [if_pos (by omega), hkw] at this
      simp only [am_lv_of, hc', not_true_eq_false, ↓reduceIte, rX13_cut_166, rX13_cut_168, rX13_cut_170, rX13_cut_171, rX13_cut_173, rX13_cut_176, ro_69_1 hR, ro_69_3 hR, ro_69_5 hR, ro_69_6 hR, ro_69_7 hR, ro_69_8 hR, ro_69_9 hR, ro_69_21 hR, ro_69_22 hR, ro_69_23 hR, ro_69_24 hR, ro_69_25 hR, ro_69_26 hR, ro_69_27 hR, ro_69_28 hR, ro_69_29 hR, ro_69_30 hR, ro_69_31 hR, ro_69_32 hR, ro_69_33 hR, ro_69_34 hR, ro_69_35 hR, ro_69_36 hR, ro_69_38 hR, ro_69_39 hR, ro_69_40 hR, ro_69_41 hR, ro_69_42 hR, ro_69_44 hR, ro_69_45 hR, ro_69_46 hR, ro_69_48 hR, ro_69_49 hR, ro_69_51 hR, ro_69_52 hR, ro_69_55 hR, ro_69_56 hR, ro_69_57 hR, ro_69_58 hR, ro_69_59 hR, ro_69_61 hR, ro_69_62 hR, ro_69_63 hR, ro_69_64 hR, ro_69_65 hR, ro_69_66 hR, sh_69, sh_70, sh_71, sh_72, sh_73, sh_74, sh_75, sh_76, sh_77, sh_78, sh_79, sh_80, sh_81, sh_82, sh_83, sh_84, sh_85, sh_86, sh_87, sh_88, sh_89, sh_90, sh_91, sh_92, sh_93, sh_94, sh_95, sh_96, sh_97, sh_98, sh_99, sh_100, sh_101, sh_102, sh_103, sh_104, sh_105, sh_106, sh_107, sh_108, sh_109, sh_110, sh_111, sh_112, sh_113, sh_114, sh_115, hl, hvw9, Nat.reduceLT, Nat.reduceAdd, Nat.reduceMul, ne_eq, Nat.reduceEqDiff, not_false_eq_true, or_true, true_or, or_false, false_or, and_true, true_and, and_self, Nat.reduceLeDiff, am_ci, am_cr, am_cn0, Option.toList_some, Option.toList_none, List.cons_append, List.nil_append, am_s0, am_s1, am_s1r, am_s2, am_s2r, am_s3r, nI_add, am_u_ne, am_u_at, am_u_n1, am_u_n2, am_w_ne]
      exact this
    · have hne : wIx l ≠ k := fun z => by
        have := wIx_at (l := l) (by omega)
        rw [z] at this
        exact hc this
      have := ih (k + 1) (by omega)
      simp only [am_lv_of, hc, not_false_eq_true, ↓reduceIte, rX13_cut_173, rX13_cut_176, ro_69_1 hR, ro_69_3 hR, ro_69_5 hR, ro_69_6 hR, ro_69_7 hR, ro_69_8 hR, ro_69_9 hR, ro_69_21 hR, ro_69_22 hR, ro_69_23 hR, ro_69_24 hR, ro_69_25 hR, ro_69_26 hR, ro_69_27 hR, ro_69_28 hR, ro_69_29 hR, ro_69_30 hR, ro_69_31 hR, ro_69_32 hR, ro_69_33 hR, ro_69_34 hR, ro_69_35 hR, ro_69_36 hR, ro_69_38 hR, ro_69_39 hR, ro_69_40 hR, ro_69_41 hR, ro_69_42 hR, ro_69_44 hR, ro_69_45 hR, ro_69_46 hR, ro_69_48 hR, ro_69_49 hR, ro_69_51 hR, ro_69_52 hR, ro_69_55 hR, ro_69_56 hR, ro_69_57 hR, ro_69_58 hR, ro_69_59 hR, ro_69_61 hR, ro_69_62 hR, ro_69_63 hR, ro_69_64 hR, ro_69_65 hR, ro_69_66 hR, sh_69, sh_70, sh_71, sh_72, sh_73, sh_74, sh_75, sh_76, sh_77, sh_78, sh_79, sh_80, sh_81, sh_82, sh_83, sh_84, sh_85, sh_86, sh_87, sh_88, sh_89, sh_90, sh_91, sh_92, sh_93, sh_94, sh_95, sh_96, sh_97, sh_98, sh_99, sh_100, sh_101, sh_102, sh_103, sh_104, sh_105, sh_106, sh_107, sh_108, sh_109, sh_110, sh_111, sh_112, sh_113, sh_114, sh_115, hl, hvw9, Nat.reduceLT, Nat.reduceAdd, Nat.reduceMul, ne_eq, Nat.reduceEqDiff, not_false_eq_true, or_true, true_or, or_false, false_or, and_true, true_and, and_self, Nat.reduceLeDiff, am_ci, am_cr, am_cn0, Option.toList_some, Option.toList_none, List.cons_append, List.nil_append, am_s0, am_s1, am_s1r, am_s2, am_s2r, am_s3r, nI_add, am_u_ne, am_u_at, am_u_n1, am_u_n2, am_w_ne]
      by_cases e : wIx l < k
      · rw [if_pos (by omega)] at this
        rw [if_pos e]
        exact this
      · rw [if_neg (by omega)] at this
        rw [if_neg e]
        exact this
theorem c_sign {i k c : Nat} {dd : Int32} (hR : am_OR R) (hN : 116 ≤ n) (hn : n ≤ 1000) (hk : I 69 10 = nI k) (h4 : k < 403) (hc : c < 256) : am_E X (d + 1) mX13_sign 0 [some (.ref 69), some (.int (nI i)), some (.int (nI c)), some (.int dd), none] [] (n, I, L, R) Q ↔ Q (some (.int (nI 1))) (n, am_u (am_u (am_u (am_u I 72 k (nI (rK (if isSg c = true then c else 23)))) 73 k (nI i)) 74 k (nI 0)) 69 10 (nI (k + 1)), am_u L 75 k 0, R) := by
  have hl := am_lt hN
  have hvw9 := am_lw hN
  have e : ∀ a, a < 256 → (nI c = nI a ↔ c = a) := fun a ha => nI_eq (by omega) (by omega)
  have main : ∀ kd, kd = rK (if isSg c = true then c else 23) → (am_E X (d + 1) mX13_sign 95 [some (.ref 69), some (.int (nI i)), some (.int (nI c)), some (.int dd), some (.int (nI kd))] [] (n, I, L, R) Q ↔ Q (some (.int (nI 1))) (n, am_u (am_u (am_u (am_u I 72 k (nI (rK (if isSg c = true then c else 23)))) 73 k (nI i)) 74 k (nI 0)) 69 10 (nI (k + 1)), am_u L 75 k 0, R)) := by
    intro kd hkd
    simp only [am_lv_of, rX13_sign_95, rX13_sign_96, rX13_sign_98, rX13_sign_99, rX13_sign_100, rX13_sign_101, ro_69_1 hR, ro_69_3 hR, ro_69_5 hR, ro_69_6 hR, ro_69_7 hR, ro_69_8 hR, ro_69_9 hR, ro_69_21 hR, ro_69_22 hR, ro_69_23 hR, ro_69_24 hR, ro_69_25 hR, ro_69_26 hR, ro_69_27 hR, ro_69_28 hR, ro_69_29 hR, ro_69_30 hR, ro_69_31 hR, ro_69_32 hR, ro_69_33 hR, ro_69_34 hR, ro_69_35 hR, ro_69_36 hR, ro_69_38 hR, ro_69_39 hR, ro_69_40 hR, ro_69_41 hR, ro_69_42 hR, ro_69_44 hR, ro_69_45 hR, ro_69_46 hR, ro_69_48 hR, ro_69_49 hR, ro_69_51 hR, ro_69_52 hR, ro_69_55 hR, ro_69_56 hR, ro_69_57 hR, ro_69_58 hR, ro_69_59 hR, ro_69_61 hR, ro_69_62 hR, ro_69_63 hR, ro_69_64 hR, ro_69_65 hR, ro_69_66 hR, sh_69, sh_70, sh_71, sh_72, sh_73, sh_74, sh_75, sh_76, sh_77, sh_78, sh_79, sh_80, sh_81, sh_82, sh_83, sh_84, sh_85, sh_86, sh_87, sh_88, sh_89, sh_90, sh_91, sh_92, sh_93, sh_94, sh_95, sh_96, sh_97, sh_98, sh_99, sh_100, sh_101, sh_102, sh_103, sh_104, sh_105, sh_106, sh_107, sh_108, sh_109, sh_110, sh_111, sh_112, sh_113, sh_114, sh_115, hl, hvw9, Nat.reduceLT, Nat.reduceAdd, Nat.reduceMul, ne_eq, Nat.reduceEqDiff, not_false_eq_true, or_true, true_or, or_false, false_or, and_true, true_and, and_self, Nat.reduceLeDiff, am_ci, am_cr, am_cn0, Option.toList_some, Option.toList_none, List.cons_append, List.nil_append, am_s0, am_s1, am_s1r, am_s2, am_s2r, am_s3r, nI_add, am_u_ne, am_u_at, am_u_n1, am_u_n2, am_w_ne, c_token hR hN hn hk h4, Option.toList_none, rX13_sign_104, rX13_sign_105]
    rw [hkd]
  by_cases a1 : c = 59
  · subst a1
    simp only [am_lv_of, rX13_sign_0, rX13_sign_1, rX13_sign_3, rX13_sign_6, rX13_sign_7, rX13_sign_10, rX13_sign_11, rX13_sign_13, rX13_sign_16, rX13_sign_17, rX13_sign_20, rX13_sign_21, rX13_sign_23, rX13_sign_26, rX13_sign_28, rX13_sign_31, rX13_sign_32, rX13_sign_34, rX13_sign_37, rX13_sign_39, rX13_sign_42, rX13_sign_43, rX13_sign_45, rX13_sign_46, rX13_sign_48, rX13_sign_51, rX13_sign_53, rX13_sign_55, rX13_sign_56, rX13_sign_58, rX13_sign_61, rX13_sign_63, rX13_sign_65, rX13_sign_66, rX13_sign_68, rX13_sign_71, rX13_sign_73, rX13_sign_75, rX13_sign_76, rX13_sign_78, rX13_sign_81, rX13_sign_83, rX13_sign_85, rX13_sign_86, rX13_sign_88, rX13_sign_91, hl, hvw9, Nat.reduceLT, Nat.reduceAdd, Nat.reduceMul, ne_eq, Nat.reduceEqDiff, not_false_eq_true, or_true, true_or, or_false, false_or, and_true, true_and, and_self, Nat.reduceLeDiff, am_ci, am_cr, am_cn0, Option.toList_some, Option.toList_none, List.cons_append, List.nil_append, am_s0, am_s1, am_s1r, am_s2, am_s2r, am_s3r, nI_add, am_u_ne, am_u_at, am_u_n1, am_u_n2, am_w_ne, ↓reduceIte, nI_eq, Nat.reducePow, not_true_eq_false, not_false_eq_true]
    exact main 4 (by decide)
  by_cases a2 : c = 61
  · subst a2
    simp only [am_lv_of, rX13_sign_0, rX13_sign_1, rX13_sign_3, rX13_sign_6, rX13_sign_7, rX13_sign_10, rX13_sign_11, rX13_sign_13, rX13_sign_16, rX13_sign_17, rX13_sign_20, rX13_sign_21, rX13_sign_23, rX13_sign_26, rX13_sign_28, rX13_sign_31, rX13_sign_32, rX13_sign_34, rX13_sign_37, rX13_sign_39, rX13_sign_42, rX13_sign_43, rX13_sign_45, rX13_sign_46, rX13_sign_48, rX13_sign_51, rX13_sign_53, rX13_sign_55, rX13_sign_56, rX13_sign_58, rX13_sign_61, rX13_sign_63, rX13_sign_65, rX13_sign_66, rX13_sign_68, rX13_sign_71, rX13_sign_73, rX13_sign_75, rX13_sign_76, rX13_sign_78, rX13_sign_81, rX13_sign_83, rX13_sign_85, rX13_sign_86, rX13_sign_88, rX13_sign_91, hl, hvw9, Nat.reduceLT, Nat.reduceAdd, Nat.reduceMul, ne_eq, Nat.reduceEqDiff, not_false_eq_true, or_true, true_or, or_false, false_or, and_true, true_and, and_self, Nat.reduceLeDiff, am_ci, am_cr, am_cn0, Option.toList_some, Option.toList_none, List.cons_append, List.nil_append, am_s0, am_s1, am_s1r, am_s2, am_s2r, am_s3r, nI_add, am_u_ne, am_u_at, am_u_n1, am_u_n2, am_w_ne, ↓reduceIte, nI_eq, Nat.reducePow, not_true_eq_false, not_false_eq_true]
    exact main 5 (by decide)
  by_cases a3 : c = 40
  · subst a3
    simp only [am_lv_of, rX13_sign_0, rX13_sign_1, rX13_sign_3, rX13_sign_6, rX13_sign_7, rX13_sign_10, rX13_sign_11, rX13_sign_13, rX13_sign_16, rX13_sign_17, rX13_sign_20, rX13_sign_21, rX13_sign_23, rX13_sign_26, rX13_sign_28, rX13_sign_31, rX13_sign_32, rX13_sign_34, rX13_sign_37, rX13_sign_39, rX13_sign_42, rX13_sign_43, rX13_sign_45, rX13_sign_46, rX13_sign_48, rX13_sign_51, rX13_sign_53, rX13_sign_55, rX13_sign_56, rX13_sign_58, rX13_sign_61, rX13_sign_63, rX13_sign_65, rX13_sign_66, rX13_sign_68, rX13_sign_71, rX13_sign_73, rX13_sign_75, rX13_sign_76, rX13_sign_78, rX13_sign_81, rX13_sign_83, rX13_sign_85, rX13_sign_86, rX13_sign_88, rX13_sign_91, hl, hvw9, Nat.reduceLT, Nat.reduceAdd, Nat.reduceMul, ne_eq, Nat.reduceEqDiff, not_false_eq_true, or_true, true_or, or_false, false_or, and_true, true_and, and_self, Nat.reduceLeDiff, am_ci, am_cr, am_cn0, Option.toList_some, Option.toList_none, List.cons_append, List.nil_append, am_s0, am_s1, am_s1r, am_s2, am_s2r, am_s3r, nI_add, am_u_ne, am_u_at, am_u_n1, am_u_n2, am_w_ne, ↓reduceIte, nI_eq, Nat.reducePow, not_true_eq_false, not_false_eq_true]
    exact main 6 (by decide)
  by_cases a4 : c = 41
  · subst a4
    simp only [am_lv_of, rX13_sign_0, rX13_sign_1, rX13_sign_3, rX13_sign_6, rX13_sign_7, rX13_sign_10, rX13_sign_11, rX13_sign_13, rX13_sign_16, rX13_sign_17, rX13_sign_20, rX13_sign_21, rX13_sign_23, rX13_sign_26, rX13_sign_28, rX13_sign_31, rX13_sign_32, rX13_sign_34, rX13_sign_37, rX13_sign_39, rX13_sign_42, rX13_sign_43, rX13_sign_45, rX13_sign_46, rX13_sign_48, rX13_sign_51, rX13_sign_53, rX13_sign_55, rX13_sign_56, rX13_sign_58, rX13_sign_61, rX13_sign_63, rX13_sign_65, rX13_sign_66, rX13_sign_68, rX13_sign_71, rX13_sign_73, rX13_sign_75, rX13_sign_76, rX13_sign_78, rX13_sign_81, rX13_sign_83, rX13_sign_85, rX13_sign_86, rX13_sign_88, rX13_sign_91, hl, hvw9, Nat.reduceLT, Nat.reduceAdd, Nat.reduceMul, ne_eq, Nat.reduceEqDiff, not_false_eq_true, or_true, true_or, or_false, false_or, and_true, true_and, and_self, Nat.reduceLeDiff, am_ci, am_cr, am_cn0, Option.toList_some, Option.toList_none, List.cons_append, List.nil_append, am_s0, am_s1, am_s1r, am_s2, am_s2r, am_s3r, nI_add, am_u_ne, am_u_at, am_u_n1, am_u_n2, am_w_ne, ↓reduceIte, nI_eq, Nat.reducePow, not_true_eq_false, not_false_eq_true]
    exact main 7 (by decide)
  by_cases a5 : c = 43
  · subst a5
    simp only [am_lv_of, rX13_sign_0, rX13_sign_1, rX13_sign_3, rX13_sign_6, rX13_sign_7, rX13_sign_10, rX13_sign_11, rX13_sign_13, rX13_sign_16, rX13_sign_17, rX13_sign_20, rX13_sign_21, rX13_sign_23, rX13_sign_26, rX13_sign_28, rX13_sign_31, rX13_sign_32, rX13_sign_34, rX13_sign_37, rX13_sign_39, rX13_sign_42, rX13_sign_43, rX13_sign_45, rX13_sign_46, rX13_sign_48, rX13_sign_51, rX13_sign_53, rX13_sign_55, rX13_sign_56, rX13_sign_58, rX13_sign_61, rX13_sign_63, rX13_sign_65, rX13_sign_66, rX13_sign_68, rX13_sign_71, rX13_sign_73, rX13_sign_75, rX13_sign_76, rX13_sign_78, rX13_sign_81, rX13_sign_83, rX13_sign_85, rX13_sign_86, rX13_sign_88, rX13_sign_91, hl, hvw9, Nat.reduceLT, Nat.reduceAdd, Nat.reduceMul, ne_eq, Nat.reduceEqDiff, not_false_eq_true, or_true, true_or, or_false, false_or, and_true, true_and, and_self, Nat.reduceLeDiff, am_ci, am_cr, am_cn0, Option.toList_some, Option.toList_none, List.cons_append, List.nil_append, am_s0, am_s1, am_s1r, am_s2, am_s2r, am_s3r, nI_add, am_u_ne, am_u_at, am_u_n1, am_u_n2, am_w_ne, ↓reduceIte, nI_eq, Nat.reducePow, not_true_eq_false, not_false_eq_true]
    exact main 8 (by decide)
  by_cases a6 : c = 45
  · subst a6
    simp only [am_lv_of, rX13_sign_0, rX13_sign_1, rX13_sign_3, rX13_sign_6, rX13_sign_7, rX13_sign_10, rX13_sign_11, rX13_sign_13, rX13_sign_16, rX13_sign_17, rX13_sign_20, rX13_sign_21, rX13_sign_23, rX13_sign_26, rX13_sign_28, rX13_sign_31, rX13_sign_32, rX13_sign_34, rX13_sign_37, rX13_sign_39, rX13_sign_42, rX13_sign_43, rX13_sign_45, rX13_sign_46, rX13_sign_48, rX13_sign_51, rX13_sign_53, rX13_sign_55, rX13_sign_56, rX13_sign_58, rX13_sign_61, rX13_sign_63, rX13_sign_65, rX13_sign_66, rX13_sign_68, rX13_sign_71, rX13_sign_73, rX13_sign_75, rX13_sign_76, rX13_sign_78, rX13_sign_81, rX13_sign_83, rX13_sign_85, rX13_sign_86, rX13_sign_88, rX13_sign_91, hl, hvw9, Nat.reduceLT, Nat.reduceAdd, Nat.reduceMul, ne_eq, Nat.reduceEqDiff, not_false_eq_true, or_true, true_or, or_false, false_or, and_true, true_and, and_self, Nat.reduceLeDiff, am_ci, am_cr, am_cn0, Option.toList_some, Option.toList_none, List.cons_append, List.nil_append, am_s0, am_s1, am_s1r, am_s2, am_s2r, am_s3r, nI_add, am_u_ne, am_u_at, am_u_n1, am_u_n2, am_w_ne, ↓reduceIte, nI_eq, Nat.reducePow, not_true_eq_false, not_false_eq_true]
    exact main 9 (by decide)
  by_cases a7 : c = 42
  · subst a7
    simp only [am_lv_of, rX13_sign_0, rX13_sign_1, rX13_sign_3, rX13_sign_6, rX13_sign_7, rX13_sign_10, rX13_sign_11, rX13_sign_13, rX13_sign_16, rX13_sign_17, rX13_sign_20, rX13_sign_21, rX13_sign_23, rX13_sign_26, rX13_sign_28, rX13_sign_31, rX13_sign_32, rX13_sign_34, rX13_sign_37, rX13_sign_39, rX13_sign_42, rX13_sign_43, rX13_sign_45, rX13_sign_46, rX13_sign_48, rX13_sign_51, rX13_sign_53, rX13_sign_55, rX13_sign_56, rX13_sign_58, rX13_sign_61, rX13_sign_63, rX13_sign_65, rX13_sign_66, rX13_sign_68, rX13_sign_71, rX13_sign_73, rX13_sign_75, rX13_sign_76, rX13_sign_78, rX13_sign_81, rX13_sign_83, rX13_sign_85, rX13_sign_86, rX13_sign_88, rX13_sign_91, hl, hvw9, Nat.reduceLT, Nat.reduceAdd, Nat.reduceMul, ne_eq, Nat.reduceEqDiff, not_false_eq_true, or_true, true_or, or_false, false_or, and_true, true_and, and_self, Nat.reduceLeDiff, am_ci, am_cr, am_cn0, Option.toList_some, Option.toList_none, List.cons_append, List.nil_append, am_s0, am_s1, am_s1r, am_s2, am_s2r, am_s3r, nI_add, am_u_ne, am_u_at, am_u_n1, am_u_n2, am_w_ne, ↓reduceIte, nI_eq, Nat.reducePow, not_true_eq_false, not_false_eq_true]
    exact main 10 (by decide)
  by_cases a8 : c = 47
  · subst a8
    simp only [am_lv_of, rX13_sign_0, rX13_sign_1, rX13_sign_3, rX13_sign_6, rX13_sign_7, rX13_sign_10, rX13_sign_11, rX13_sign_13, rX13_sign_16, rX13_sign_17, rX13_sign_20, rX13_sign_21, rX13_sign_23, rX13_sign_26, rX13_sign_28, rX13_sign_31, rX13_sign_32, rX13_sign_34, rX13_sign_37, rX13_sign_39, rX13_sign_42, rX13_sign_43, rX13_sign_45, rX13_sign_46, rX13_sign_48, rX13_sign_51, rX13_sign_53, rX13_sign_55, rX13_sign_56, rX13_sign_58, rX13_sign_61, rX13_sign_63, rX13_sign_65, rX13_sign_66, rX13_sign_68, rX13_sign_71, rX13_sign_73, rX13_sign_75, rX13_sign_76, rX13_sign_78, rX13_sign_81, rX13_sign_83, rX13_sign_85, rX13_sign_86, rX13_sign_88, rX13_sign_91, hl, hvw9, Nat.reduceLT, Nat.reduceAdd, Nat.reduceMul, ne_eq, Nat.reduceEqDiff, not_false_eq_true, or_true, true_or, or_false, false_or, and_true, true_and, and_self, Nat.reduceLeDiff, am_ci, am_cr, am_cn0, Option.toList_some, Option.toList_none, List.cons_append, List.nil_append, am_s0, am_s1, am_s1r, am_s2, am_s2r, am_s3r, nI_add, am_u_ne, am_u_at, am_u_n1, am_u_n2, am_w_ne, ↓reduceIte, nI_eq, Nat.reducePow, not_true_eq_false, not_false_eq_true]
    exact main 15 (by decide)
  by_cases a9 : c = 60
  · subst a9
    simp only [am_lv_of, rX13_sign_0, rX13_sign_1, rX13_sign_3, rX13_sign_6, rX13_sign_7, rX13_sign_10, rX13_sign_11, rX13_sign_13, rX13_sign_16, rX13_sign_17, rX13_sign_20, rX13_sign_21, rX13_sign_23, rX13_sign_26, rX13_sign_28, rX13_sign_31, rX13_sign_32, rX13_sign_34, rX13_sign_37, rX13_sign_39, rX13_sign_42, rX13_sign_43, rX13_sign_45, rX13_sign_46, rX13_sign_48, rX13_sign_51, rX13_sign_53, rX13_sign_55, rX13_sign_56, rX13_sign_58, rX13_sign_61, rX13_sign_63, rX13_sign_65, rX13_sign_66, rX13_sign_68, rX13_sign_71, rX13_sign_73, rX13_sign_75, rX13_sign_76, rX13_sign_78, rX13_sign_81, rX13_sign_83, rX13_sign_85, rX13_sign_86, rX13_sign_88, rX13_sign_91, rX13_sign_93, hl, hvw9, Nat.reduceLT, Nat.reduceAdd, Nat.reduceMul, ne_eq, Nat.reduceEqDiff, not_false_eq_true, or_true, true_or, or_false, false_or, and_true, true_and, and_self, Nat.reduceLeDiff, am_ci, am_cr, am_cn0, Option.toList_some, Option.toList_none, List.cons_append, List.nil_append, am_s0, am_s1, am_s1r, am_s2, am_s2r, am_s3r, nI_add, am_u_ne, am_u_at, am_u_n1, am_u_n2, am_w_ne, ↓reduceIte, nI_eq, Nat.reducePow, not_true_eq_false, not_false_eq_true]
    exact main 13 (by decide)
  · have hs : ¬ isSg c = true := fun z => by have := of_decide_eq_true z; omega
    simp only [am_lv_of, rX13_sign_0, rX13_sign_1, rX13_sign_3, rX13_sign_6, rX13_sign_7, rX13_sign_10, rX13_sign_11, rX13_sign_13, rX13_sign_16, rX13_sign_17, rX13_sign_20, rX13_sign_21, rX13_sign_23, rX13_sign_26, rX13_sign_28, rX13_sign_31, rX13_sign_32, rX13_sign_34, rX13_sign_37, rX13_sign_39, rX13_sign_42, rX13_sign_43, rX13_sign_45, rX13_sign_46, rX13_sign_48, rX13_sign_51, rX13_sign_53, rX13_sign_55, rX13_sign_56, rX13_sign_58, rX13_sign_61, rX13_sign_63, rX13_sign_65, rX13_sign_66, rX13_sign_68, rX13_sign_71, rX13_sign_73, rX13_sign_75, rX13_sign_76, rX13_sign_78, rX13_sign_81, rX13_sign_83, rX13_sign_85, rX13_sign_86, rX13_sign_88, rX13_sign_91, hl, hvw9, Nat.reduceLT, Nat.reduceAdd, Nat.reduceMul, ne_eq, Nat.reduceEqDiff, not_false_eq_true, or_true, true_or, or_false, false_or, and_true, true_and, and_self, Nat.reduceLeDiff, am_ci, am_cr, am_cn0, Option.toList_some, Option.toList_none, List.cons_append, List.nil_append, am_s0, am_s1, am_s1r, am_s2, am_s2r, am_s3r, nI_add, am_u_ne, am_u_at, am_u_n1, am_u_n2, am_w_ne, ↓reduceIte, e 59 (by omega), e 61 (by omega), e 40 (by omega), e 41 (by omega), e 43 (by omega), e 45 (by omega), e 42 (by omega), e 47 (by omega), e 60 (by omega), a1, a2, a3, a4, a5, a6, a7, a8, a9, not_true_eq_false, not_false_eq_true]
    exact main 3 (by rw [if_neg hs]; rfl)
end CU
