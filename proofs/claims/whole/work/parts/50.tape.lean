--! 45
/-! PROMISES 2, 3, 5: feed, back, place -/
def btC (x : Int32) (i : Nat) : Int32 := vp_nar .byte ((x.toUInt32 >>> ((nI i).toUInt32 &&& Int32.toUInt32 31)).toInt32).toInt8.toInt32
theorem bt_eq {x : Int32} {k : Nat} (hk : k ≤ 24) (h1 : ((nI k &&& 31).toBitVec.smod 32).toNat = k) (h2 : (((nI k).toUInt32 &&& Int32.toUInt32 31).toBitVec % 32).toNat = k) : (x >>> (nI k &&& 31)).toInt8 = ((x.toUInt32 >>> ((nI k).toUInt32 &&& Int32.toUInt32 31)).toInt32).toInt8 := by
  apply Int8.toBitVec_inj.mp
  apply BitVec.eq_of_getLsbD_eq
  intro i hi
  show (BitVec.signExtend 8 (x >>> (nI k &&& 31)).toBitVec).getLsbD i = (BitVec.signExtend 8 (x.toBitVec >>> (((nI k).toUInt32 &&& Int32.toUInt32 31).toBitVec % 32))).getLsbD i
  have e1 : (x >>> (nI k &&& 31)).toBitVec = x.toBitVec.sshiftRight k := by
    show x.toBitVec.sshiftRight' ((nI k &&& 31).toBitVec.smod 32) = _
    rw [BitVec.sshiftRight', h1]
  rw [e1, BitVec.ushiftRight_eq', h2]
  simp only [BitVec.getLsbD_signExtend, BitVec.getLsbD_sshiftRight, BitVec.getLsbD_ushiftRight]
  have : k + i < 32 := by omega
  simp [show ¬ 32 ≤ i by omega, show i < 32 by omega, this]
theorem bt24 (x : Int32) : vp_nar .byte (x >>> (nI 24 &&& 31)).toInt8.toInt32 = btC x 24 := by unfold btC; rw [bt_eq (by omega) (by decide) (by decide)]
theorem bt16 (x : Int32) : vp_nar .byte (x >>> (nI 16 &&& 31)).toInt8.toInt32 = btC x 16 := by unfold btC; rw [bt_eq (by omega) (by decide) (by decide)]
theorem bt8 (x : Int32) : vp_nar .byte (x >>> (nI 8 &&& 31)).toInt8.toInt32 = btC x 8 := by unfold btC; rw [bt_eq (by omega) (by decide) (by decide)]
theorem bt0 (x : Int32) : vp_nar .byte (x >>> (nI 0 &&& 31)).toInt8.toInt32 = btC x 0 := by unfold btC; rw [bt_eq (by omega) (by decide) (by decide)]
theorem isB_n (x : Int32) : isB (vp_nar .byte x) := by
  rw [vp_nar_byte]
  unfold isB
  rw [Int8.toInt_toInt32]
  have h1 := Int8.le_toInt x.toInt8
  have h2 := Int8.toInt_lt x.toInt8
  omega
def wb (f : Nat → Int32) (T : Nat) (x : Int32) (j : Nat) : Int32 := if j < T then f j else btC x (24 - 8 * (j - T))
def fd (f : Nat → Int32) (T : Nat) (a b c d e : Int32) : Nat → Int32 := wb (wb (wb (wb (wb f T a) (T + 4) b) (T + 8) c) (T + 12) d) (T + 16) e
theorem wb_congr {f g : Nat → Int32} {T : Nat} {x : Int32} (h : ∀ j, j < T → f j = g j) : wb f T x = wb g T x := funext fun j => by
  unfold wb
  by_cases hj : j < T
  · rw [if_pos hj, if_pos hj, h j hj]
  · rw [if_neg hj, if_neg hj]
section TP
variable {X : am_X} {d n : Nat} {I : Nat → Nat → Int32} {L : Nat → Nat → Int64} {R : Nat → Nat → Option Nat} {Q : Option Value → am_M → Prop}
theorem m8a : nI 24 + -8 = nI 16 := by decide
theorem m8b : nI 16 + -8 = nI 8 := by decide
theorem m8c : nI 8 + -8 = nI 0 := by decide
theorem m8d : nI 0 + -8 < (0 : Int32) := by decide
theorem p24 : ¬ nI 24 < (0 : Int32) := by decide
theorem p16 : ¬ nI 16 < (0 : Int32) := by decide
theorem p8 : ¬ nI 8 < (0 : Int32) := by decide
theorem p0 : ¬ nI 0 < (0 : Int32) := by decide
set_option maxRecDepth 40000 in
theorem c_putWord {T : Nat} {x : Int32} (hR : am_OR R) (hN : 116 ≤ n) (hn : n ≤ 1000) (hT : I 0 1 = nI T) (hT2 : T + 4 ≤ 2000) (hQ : ∀ I', am_ag (fun k j => (k = 0 ∧ j = 1) ∨ k = 1) I I' → I' 0 1 = nI (T + 4) → (∀ j, j < T + 4 → I' 1 j = wb (I 1) T x j) → Q none (n, I', L, R)) : am_E X d mX12_putWord 0 [some (.ref 0), some (.int x), none] [] (n, I, L, R) Q := by
  have hl := am_lt hN
  have hvw9 := am_lw hN
  have q0 : ¬ nI 2000 ≤ nI T := nI_ge (by omega) (by omega)
  have q1 : ¬ nI 2000 ≤ nI (T + 1) := nI_ge (by omega) (by omega)
  have q2 : ¬ nI 2000 ≤ nI (T + 1 + 1) := nI_ge (by omega) (by omega)
  have q3 : ¬ nI 2000 ≤ nI (T + 1 + 1 + 1) := nI_ge (by omega) (by omega)
  have r0 : T < 2000 := by omega
  have r1 : T + 1 < 2000 := by omega
  have r2 : T + 1 + 1 < 2000 := by omega
  have r3 : T + 1 + 1 + 1 < 2000 := by omega
  simp only [am_lv_of, rX12_putWord_0, rX12_putWord_2, rX12_putWord_3, rX12_putWord_4, rX12_putWord_7, rX12_putWord_8, rX12_putWord_11, rX12_putWord_12, rX12_putWord_15, rX12_putWord_16, rX12_putWord_19, rX12_putWord_20, rX12_putWord_23, rX12_putWord_24, rX12_putWord_27, rX12_putWord_28, rX12_putWord_29, rX12_putWord_30, rX12_putWord_31, rX12_putWord_32, rX12_putWord_33, rX12_putWord_34, rX12_putWord_37, rX12_putWord_38, rX12_putWord_39, rX12_putWord_42, rX12_putWord_45, rX12_putWord_48, ro_0_0 hR, ro_0_3 hR, ro_0_4 hR, ro_0_5 hR, ro_0_6 hR, ro_0_7 hR, ro_0_8 hR, ro_0_9 hR, ro_0_10 hR, ro_0_11 hR, sh_0, sh_1, hl, hvw9, Nat.reduceLT, Nat.reduceAdd, Nat.reduceMul, ne_eq, Nat.reduceEqDiff, not_false_eq_true, or_true, true_or, or_false, false_or, and_true, true_and, and_self, Nat.reduceLeDiff, am_ci, am_cr, am_cn0, Option.toList_some, Option.toList_none, List.cons_append, List.nil_append, am_s0, am_s1, am_s1r, am_s2, am_s2r, am_s3r, nI_add, am_u_ne, am_u_at, am_u_n1, am_u_n2, am_w_ne, hn, hT, ↓reduceIte, p24, p16, p8, p0, m8d, m8a, m8b, m8c, q0, q1, q2, q3, r0, r1, r2, r3]
  refine hQ _ (fun k j hk => ?_) ?_ (fun j hj => ?_)
  · have h1 : ¬ (k = 0 ∧ j = 1) := fun z => hk (Or.inl z)
    have h2 : ¬ k = 1 := fun z => hk (Or.inr z)
    unfold am_u
    by_cases h0 : k = 0
    · subst h0
      have h3 : ¬ j = 1 := fun z => h1 ⟨rfl, z⟩
      simp [h3]
    · simp [h0, h2]
  · simp [am_u]
  · unfold wb btC
    simp only [am_u]
    by_cases h0 : j < T
    · simp [h0, show ¬ j = T + 1 + 1 + 1 by omega, show ¬ j = T + 1 + 1 by omega, show ¬ j = T + 1 by omega, show ¬ j = T by omega]
    · obtain ⟨i, hi, rfl⟩ : ∃ i, i < 4 ∧ j = T + i := ⟨j - T, by omega, by omega⟩
      match i, hi with
      | 0, _ => simp [show ¬ T = T + 1 + 1 + 1 by omega, show ¬ T = T + 1 + 1 by omega]
      | 1, _ => simp [show ¬ T + 1 = T + 1 + 1 + 1 by omega, show ¬ T + 1 < T by omega]
      | 2, _ => simp [show ¬ T + 2 < T by omega]
      | 3, _ => simp [show ¬ T + 3 < T by omega]
set_option maxRecDepth 40000 in
theorem c_put {T : Nat} {x : Int32} (hR : am_OR R) (hN : 116 ≤ n) (hn : n ≤ 1000) (hT : I 69 2 = nI T) (hT2 : T + 4 ≤ 2000) (hQ : ∀ I', am_ag (fun k j => (k = 69 ∧ j = 2) ∨ k = 70) I I' → I' 69 2 = nI (T + 4) → (∀ j, j < T + 4 → I' 70 j = wb (I 70) T x j) → Q none (n, I', L, R)) : am_E X d mX13_put 0 [some (.ref 69), some (.int x), none] [] (n, I, L, R) Q := by
  have hl := am_lt hN
  have hvw9 := am_lw hN
  have r0 : T < 2000 := by omega
  have r1 : T + 1 < 2000 := by omega
  have r2 : T + 1 + 1 < 2000 := by omega
  have r3 : T + 1 + 1 + 1 < 2000 := by omega
  simp only [am_lv_of, rX13_put_0, rX13_put_2, rX13_put_3, rX13_put_4, rX13_put_7, rX13_put_8, rX13_put_11, rX13_put_12, rX13_put_15, rX13_put_16, rX13_put_17, rX13_put_18, rX13_put_19, rX13_put_20, rX13_put_21, rX13_put_22, rX13_put_25, rX13_put_26, rX13_put_27, rX13_put_30, rX13_put_33, rX13_put_36, ro_69_1 hR, ro_69_3 hR, ro_69_5 hR, ro_69_6 hR, ro_69_7 hR, ro_69_8 hR, ro_69_9 hR, ro_69_21 hR, ro_69_22 hR, ro_69_23 hR, ro_69_24 hR, ro_69_25 hR, ro_69_26 hR, ro_69_27 hR, ro_69_28 hR, ro_69_29 hR, ro_69_30 hR, ro_69_31 hR, ro_69_32 hR, ro_69_33 hR, ro_69_34 hR, ro_69_35 hR, ro_69_36 hR, ro_69_38 hR, ro_69_39 hR, ro_69_40 hR, ro_69_41 hR, ro_69_42 hR, ro_69_44 hR, ro_69_45 hR, ro_69_46 hR, ro_69_48 hR, ro_69_49 hR, ro_69_51 hR, ro_69_52 hR, ro_69_55 hR, ro_69_56 hR, ro_69_57 hR, ro_69_58 hR, ro_69_59 hR, ro_69_61 hR, ro_69_62 hR, ro_69_63 hR, ro_69_64 hR, ro_69_65 hR, ro_69_66 hR, sh_69, sh_70, hl, hvw9, Nat.reduceLT, Nat.reduceAdd, Nat.reduceMul, ne_eq, Nat.reduceEqDiff, not_false_eq_true, or_true, true_or, or_false, false_or, and_true, true_and, and_self, Nat.reduceLeDiff, am_ci, am_cr, am_cn0, Option.toList_some, Option.toList_none, List.cons_append, List.nil_append, am_s0, am_s1, am_s1r, am_s2, am_s2r, am_s3r, nI_add, am_u_ne, am_u_at, am_u_n1, am_u_n2, am_w_ne, hn, hT, ↓reduceIte, p24, p16, p8, p0, m8d, m8a, m8b, m8c, r0, r1, r2, r3, bt24, bt16, bt8, bt0]
  refine hQ _ (fun k j hk => ?_) ?_ (fun j hj => ?_)
  · have h1 : ¬ (k = 69 ∧ j = 2) := fun z => hk (Or.inl z)
    have h2 : ¬ k = 70 := fun z => hk (Or.inr z)
    unfold am_u
    by_cases h0 : k = 69
    · subst h0
      have h3 : ¬ j = 2 := fun z => h1 ⟨rfl, z⟩
      simp [h3]
    · simp [h0, h2]
  · simp [am_u]
  · unfold wb
    simp only [am_u]
    by_cases h0 : j < T
    · simp [h0, show ¬ j = T + 1 + 1 + 1 by omega, show ¬ j = T + 1 + 1 by omega, show ¬ j = T + 1 by omega, show ¬ j = T by omega]
    · obtain ⟨i, hi, rfl⟩ : ∃ i, i < 4 ∧ j = T + i := ⟨j - T, by omega, by omega⟩
      match i, hi with
      | 0, _ => simp [show ¬ T = T + 1 + 1 + 1 by omega, show ¬ T = T + 1 + 1 by omega]
      | 1, _ => simp [show ¬ T + 1 = T + 1 + 1 + 1 by omega, show ¬ T + 1 < T by omega]
      | 2, _ => simp [show ¬ T + 2 < T by omega]
      | 3, _ => simp [show ¬ T + 3 < T by omega]
theorem c_feedC {T : Nat} {a b c x e : Int32} (hR : am_OR R) (hN : 116 ≤ n) (hn : n ≤ 1000) (hT : I 0 1 = nI T) (hT2 : T + 20 ≤ 2000) (hQ : ∀ I', am_ag (fun k j => (k = 0 ∧ j = 1) ∨ k = 1) I I' → I' 0 1 = nI (T + 20) → (∀ j, j < T + 20 → I' 1 j = fd (I 1) T a b c x e j) → Q (some (.int (nI (T + 20)))) (n, I', L, R)) : am_E X (d + 1) mX12_feed 0 [some (.ref 0), some (.int a), some (.int b), some (.int c), some (.int x), some (.int e)] [] (n, I, L, R) Q := by
  have hl := am_lt hN
  have hvw9 := am_lw hN
  have q0 : nI T ≤ nI 1980 := nI_le (by omega) (by omega)
  simp only [am_lv_of, rX12_feed_0, rX12_feed_1, rX12_feed_4, rX12_feed_7, rX12_feed_10, rX12_feed_11, rX12_feed_12, rX12_feed_13, rX12_feed_14, sh_0, hl, hvw9, Nat.reduceLT, Nat.reduceAdd, Nat.reduceMul, ne_eq, Nat.reduceEqDiff, not_false_eq_true, or_true, true_or, or_false, false_or, and_true, true_and, and_self, Nat.reduceLeDiff, am_ci, am_cr, am_cn0, Option.toList_some, Option.toList_none, List.cons_append, List.nil_append, am_s0, am_s1, am_s1r, am_s2, am_s2r, am_s3r, nI_add, am_u_ne, am_u_at, am_u_n1, am_u_n2, am_w_ne, ↓reduceIte, hT, q0]
  refine c_putWord hR hN hn hT (by omega) (fun I1 a1 a2 a3 => ?_)
  simp only [am_lv_of, rX12_feed_17, rX12_feed_18, rX12_feed_19, sh_0, hl, hvw9, Nat.reduceLT, Nat.reduceAdd, Nat.reduceMul, ne_eq, Nat.reduceEqDiff, not_false_eq_true, or_true, true_or, or_false, false_or, and_true, true_and, and_self, Nat.reduceLeDiff, am_ci, am_cr, am_cn0, Option.toList_some, Option.toList_none, List.cons_append, List.nil_append, am_s0, am_s1, am_s1r, am_s2, am_s2r, am_s3r, nI_add, am_u_ne, am_u_at, am_u_n1, am_u_n2, am_w_ne]
  refine c_putWord hR hN hn a2 (by omega) (fun I2 b1 b2 b3 => ?_)
  simp only [am_lv_of, rX12_feed_22, rX12_feed_23, rX12_feed_24, sh_0, hl, hvw9, Nat.reduceLT, Nat.reduceAdd, Nat.reduceMul, ne_eq, Nat.reduceEqDiff, not_false_eq_true, or_true, true_or, or_false, false_or, and_true, true_and, and_self, Nat.reduceLeDiff, am_ci, am_cr, am_cn0, Option.toList_some, Option.toList_none, List.cons_append, List.nil_append, am_s0, am_s1, am_s1r, am_s2, am_s2r, am_s3r, nI_add, am_u_ne, am_u_at, am_u_n1, am_u_n2, am_w_ne]
  refine c_putWord hR hN hn b2 (by omega) (fun I3 c1 c2 c3 => ?_)
  simp only [am_lv_of, rX12_feed_27, rX12_feed_28, rX12_feed_30, sh_0, hl, hvw9, Nat.reduceLT, Nat.reduceAdd, Nat.reduceMul, ne_eq, Nat.reduceEqDiff, not_false_eq_true, or_true, true_or, or_false, false_or, and_true, true_and, and_self, Nat.reduceLeDiff, am_ci, am_cr, am_cn0, Option.toList_some, Option.toList_none, List.cons_append, List.nil_append, am_s0, am_s1, am_s1r, am_s2, am_s2r, am_s3r, nI_add, am_u_ne, am_u_at, am_u_n1, am_u_n2, am_w_ne]
  refine c_putWord hR hN hn c2 (by omega) (fun I4 d1 d2 d3 => ?_)
  simp only [am_lv_of, rX12_feed_33, rX12_feed_34, rX12_feed_36, sh_0, hl, hvw9, Nat.reduceLT, Nat.reduceAdd, Nat.reduceMul, ne_eq, Nat.reduceEqDiff, not_false_eq_true, or_true, true_or, or_false, false_or, and_true, true_and, and_self, Nat.reduceLeDiff, am_ci, am_cr, am_cn0, Option.toList_some, Option.toList_none, List.cons_append, List.nil_append, am_s0, am_s1, am_s1r, am_s2, am_s2r, am_s3r, nI_add, am_u_ne, am_u_at, am_u_n1, am_u_n2, am_w_ne]
  refine c_putWord hR hN hn d2 (by omega) (fun I5 e1 e2 e3 => ?_)
  simp only [am_lv_of, rX12_feed_39, rX12_feed_40, rX12_feed_43, sh_0, hl, hvw9, Nat.reduceLT, Nat.reduceAdd, Nat.reduceMul, ne_eq, Nat.reduceEqDiff, not_false_eq_true, or_true, true_or, or_false, false_or, and_true, true_and, and_self, Nat.reduceLeDiff, am_ci, am_cr, am_cn0, Option.toList_some, Option.toList_none, List.cons_append, List.nil_append, am_s0, am_s1, am_s1r, am_s2, am_s2r, am_s3r, nI_add, am_u_ne, am_u_at, am_u_n1, am_u_n2, am_w_ne, e2]
  refine hQ I5 ((((a1.trans b1).trans c1).trans d1).trans e1) e2 (fun j hj => ?_)
  rw [e3 j (by omega)]
  unfold fd
  rw [wb_congr (fun j hj => (d3 j (by omega)).trans (congrFun (wb_congr (fun j hj => (c3 j (by omega)).trans (congrFun (wb_congr (fun j hj => (b3 j (by omega)).trans (congrFun (wb_congr (fun j hj => a3 j (by omega))) j))) j))) j))]
theorem c_feedR {T : Nat} {a b c x e : Int32} (hR : am_OR R) (hN : 116 ≤ n) (hn : n ≤ 1000) (hT : I 69 2 = nI T) (hT2 : T + 20 ≤ 2000) (hQ : ∀ I', am_ag (fun k j => (k = 69 ∧ j = 2) ∨ k = 70) I I' → I' 69 2 = nI (T + 20) → (∀ j, j < T + 20 → I' 70 j = fd (I 70) T a b c x e j) → Q (some (.int (nI (T + 20)))) (n, I', L, R)) : am_E X (d + 1) mX13_feed 0 [some (.ref 69), some (.int a), some (.int b), some (.int c), some (.int x), some (.int e)] [] (n, I, L, R) Q := by
  have hl := am_lt hN
  have hvw9 := am_lw hN
  have q0 : nI (T + 20) ≤ nI 2000 := nI_le (by omega) (by omega)
  simp only [am_lv_of, rX13_feed_0, rX13_feed_1, rX13_feed_4, rX13_feed_6, rX13_feed_7, rX13_feed_10, rX13_feed_13, rX13_feed_14, rX13_feed_15, rX13_feed_16, rX13_feed_17, sh_69, hl, hvw9, Nat.reduceLT, Nat.reduceAdd, Nat.reduceMul, ne_eq, Nat.reduceEqDiff, not_false_eq_true, or_true, true_or, or_false, false_or, and_true, true_and, and_self, Nat.reduceLeDiff, am_ci, am_cr, am_cn0, Option.toList_some, Option.toList_none, List.cons_append, List.nil_append, am_s0, am_s1, am_s1r, am_s2, am_s2r, am_s3r, nI_add, am_u_ne, am_u_at, am_u_n1, am_u_n2, am_w_ne, ↓reduceIte, hT, q0]
  refine c_put hR hN hn hT (by omega) (fun I1 a1 a2 a3 => ?_)
  simp only [am_lv_of, rX13_feed_20, rX13_feed_21, rX13_feed_22, sh_69, hl, hvw9, Nat.reduceLT, Nat.reduceAdd, Nat.reduceMul, ne_eq, Nat.reduceEqDiff, not_false_eq_true, or_true, true_or, or_false, false_or, and_true, true_and, and_self, Nat.reduceLeDiff, am_ci, am_cr, am_cn0, Option.toList_some, Option.toList_none, List.cons_append, List.nil_append, am_s0, am_s1, am_s1r, am_s2, am_s2r, am_s3r, nI_add, am_u_ne, am_u_at, am_u_n1, am_u_n2, am_w_ne]
  refine c_put hR hN hn a2 (by omega) (fun I2 b1 b2 b3 => ?_)
  simp only [am_lv_of, rX13_feed_25, rX13_feed_26, rX13_feed_27, sh_69, hl, hvw9, Nat.reduceLT, Nat.reduceAdd, Nat.reduceMul, ne_eq, Nat.reduceEqDiff, not_false_eq_true, or_true, true_or, or_false, false_or, and_true, true_and, and_self, Nat.reduceLeDiff, am_ci, am_cr, am_cn0, Option.toList_some, Option.toList_none, List.cons_append, List.nil_append, am_s0, am_s1, am_s1r, am_s2, am_s2r, am_s3r, nI_add, am_u_ne, am_u_at, am_u_n1, am_u_n2, am_w_ne]
  refine c_put hR hN hn b2 (by omega) (fun I3 c1 c2 c3 => ?_)
  simp only [am_lv_of, rX13_feed_30, rX13_feed_31, rX13_feed_33, sh_69, hl, hvw9, Nat.reduceLT, Nat.reduceAdd, Nat.reduceMul, ne_eq, Nat.reduceEqDiff, not_false_eq_true, or_true, true_or, or_false, false_or, and_true, true_and, and_self, Nat.reduceLeDiff, am_ci, am_cr, am_cn0, Option.toList_some, Option.toList_none, List.cons_append, List.nil_append, am_s0, am_s1, am_s1r, am_s2, am_s2r, am_s3r, nI_add, am_u_ne, am_u_at, am_u_n1, am_u_n2, am_w_ne]
  refine c_put hR hN hn c2 (by omega) (fun I4 d1 d2 d3 => ?_)
  simp only [am_lv_of, rX13_feed_36, rX13_feed_37, rX13_feed_39, sh_69, hl, hvw9, Nat.reduceLT, Nat.reduceAdd, Nat.reduceMul, ne_eq, Nat.reduceEqDiff, not_false_eq_true, or_true, true_or, or_false, false_or, and_true, true_and, and_self, Nat.reduceLeDiff, am_ci, am_cr, am_cn0, Option.toList_some, Option.toList_none, List.cons_append, List.nil_append, am_s0, am_s1, am_s1r, am_s2, am_s2r, am_s3r, nI_add, am_u_ne, am_u_at, am_u_n1, am_u_n2, am_w_ne]
  refine c_put hR hN hn d2 (by omega) (fun I5 e1 e2 e3 => ?_)
  simp only [am_lv_of, rX13_feed_42, rX13_feed_43, rX13_feed_46, sh_69, hl, hvw9, Nat.reduceLT, Nat.reduceAdd, Nat.reduceMul, ne_eq, Nat.reduceEqDiff, not_false_eq_true, or_true, true_or, or_false, false_or, and_true, true_and, and_self, Nat.reduceLeDiff, am_ci, am_cr, am_cn0, Option.toList_some, Option.toList_none, List.cons_append, List.nil_append, am_s0, am_s1, am_s1r, am_s2, am_s2r, am_s3r, nI_add, am_u_ne, am_u_at, am_u_n1, am_u_n2, am_w_ne, e2]
  refine hQ I5 ((((a1.trans b1).trans c1).trans d1).trans e1) e2 (fun j hj => ?_)
  rw [e3 j (by omega)]
  unfold fd
  rw [wb_congr (fun j hj => (d3 j (by omega)).trans (congrFun (wb_congr (fun j hj => (c3 j (by omega)).trans (congrFun (wb_congr (fun j hj => (b3 j (by omega)).trans (congrFun (wb_congr (fun j hj => a3 j (by omega))) j))) j))) j))]
/-- the tape alone has changed -/
def tpP (k j : Nat) : Prop := (k = 0 ∧ (j = 1 ∨ j = 2)) ∨ k = 1 ∨ k = 70 ∨ (k = 69 ∧ (j = 2 ∨ j = 17))
theorem RELs.tp {I' : Nat → Nat → Int32} {σ : rfP} (h : RELs (n, I, L, R) σ) (g : am_ag tpP I I') (hT : relT I') : RELs (n, I', L, R) σ := by
  obtain ⟨h1, h2, h3, h4, h5, h6, h7, h8⟩ := h
  exact ⟨h1, h2, relS.fr h3 (fun k j hk => g k j (by unfold tpP; omega)), hT, h5.mv (fun k j x1 x2 => g k j (by unfold tpP; omega)) (fun j _ => g 103 j (by unfold tpP; omega)), relU.fr h6 h1 (fun k j hk => g k j (by unfold tpP; omega)), relH.fr h7 h1 (fun k j hk => g k j (by unfold tpP; omega)), relJ.fr h8 (fun k j hk => g k j (by unfold tpP; omega))⟩
theorem isB_wb {f : Nat → Int32} {T : Nat} {x : Int32} {j : Nat} (h : j < T → isB (f j)) : isB (wb f T x j) := by
  unfold wb
  split
  · next hj => exact h hj
  · exact isB_n _
theorem s_feed {a b c x e : Int32} (H : REL (n, I, L, R)) : sim X (d + 30) mX12_feed mX13_feed [some (.ref 0), some (.int a), some (.int b), some (.int c), some (.int x), some (.int e)] [some (.ref 69), some (.int a), some (.int b), some (.int c), some (.int x), some (.int e)] (n, I, L, R) := by
  obtain ⟨σ, H⟩ := H
  have hR := H.1.1
  have hN := H.1.N
  have hn := H.1.n
  have hl := am_lt hN
  have hvw9 := am_lw hN
  obtain ⟨T, h1, h2, h3, h4, h5⟩ : relT I := H.2.2.2.1
  unfold sim
  by_cases hT : T + 20 ≤ 2000
  · refine c_feedC hR hN hn h2 hT (fun I1 a1 a2 a3 => ?_)
    refine c_feedR hR hN hn (by rw [a1 69 2 (by omega)]; exact h3) hT (fun I2 b1 b2 b3 => ?_)
    refine ⟨rfl, σ, H.tp ((a1.mono (fun k j z => by unfold tpP; omega)).trans (b1.mono (fun k j z => by unfold tpP; omega))) ⟨T + 20, hT, ?_, b2, fun j hj => ?_, ?_⟩⟩
    · rw [b1 0 1 (by omega)]; exact a2
    · rw [b1 1 j (by omega), a3 j hj, b3 j hj]
      have e70 : I1 70 = I 70 := funext fun j => a1 70 j (by omega)
      rw [e70]
      constructor
      · unfold fd
        rw [wb_congr (f := I 1) (g := I 70) (fun j hj => (h4 j hj).1)]
      · exact isB_wb (fun _ => isB_wb (fun _ => isB_wb (fun _ => isB_wb (fun _ => isB_wb (fun hj => (h4 j hj).2)))))
    · rw [b1 0 2 (by omega), a1 0 2 (by omega), b1 69 17 (by omega), a1 69 17 (by omega)]; exact h5
  · have q0 : ¬ nI T ≤ nI 1980 := nI_ge (by omega) (by omega)
    have q1 : ¬ nI (T + 20) ≤ nI 2000 := nI_ge (by omega) (by omega)
    simp only [am_lv_of, rX12_feed_0, rX12_feed_1, rX12_feed_4, rX12_feed_7, rX12_feed_10, rX12_feed_11, rX13_feed_0, rX13_feed_1, rX13_feed_4, rX13_feed_6, rX13_feed_7, rX13_feed_10, rX13_feed_13, rX13_feed_14, sh_0, sh_69, hl, hvw9, Nat.reduceLT, Nat.reduceAdd, Nat.reduceMul, ne_eq, Nat.reduceEqDiff, not_false_eq_true, or_true, true_or, or_false, false_or, and_true, true_and, and_self, Nat.reduceLeDiff, am_ci, am_cr, am_cn0, Option.toList_some, Option.toList_none, List.cons_append, List.nil_append, am_s0, am_s1, am_s1r, am_s2, am_s2r, am_s3r, nI_add, am_u_ne, am_u_at, am_u_n1, am_u_n2, am_w_ne, ↓reduceIte, h2, h3, q0, q1]
    exact ⟨σ, H⟩
theorem s_place (H : REL (n, I, L, R)) : sim X (d + 30) mX12_place mX13_place [some (.ref 0)] [some (.ref 69)] (n, I, L, R) := by
  obtain ⟨σ, H⟩ := H
  have hl := am_lt H.1.N
  have hvw9 := am_lw H.1.N
  obtain ⟨T, h1, h2, h3, h4, h5⟩ : relT I := H.2.2.2.1
  unfold sim
  simp only [am_lv_of, rX12_place_0, rX12_place_1, rX12_place_4, rX13_place_0, rX13_place_1, rX13_place_4, sh_0, sh_69, hl, hvw9, Nat.reduceLT, Nat.reduceAdd, Nat.reduceMul, ne_eq, Nat.reduceEqDiff, not_false_eq_true, or_true, true_or, or_false, false_or, and_true, true_and, and_self, Nat.reduceLeDiff, am_ci, am_cr, am_cn0, Option.toList_some, Option.toList_none, List.cons_append, List.nil_append, am_s0, am_s1, am_s1r, am_s2, am_s2r, am_s3r, nI_add, am_u_ne, am_u_at, am_u_n1, am_u_n2, am_w_ne, h5]
  exact ⟨σ, H⟩
theorem s_back {a : Int32} (H : REL (n, I, L, R)) : sim X (d + 30) mX12_back mX13_back [some (.ref 0), some (.int a)] [some (.ref 69), some (.int a)] (n, I, L, R) := by
  obtain ⟨σ, H⟩ := H
  have hn := H.1.n
  have hl := am_lt H.1.N
  have hvw9 := am_lw H.1.N
  obtain ⟨T, h1, h2, h3, h4, h5⟩ : relT I := H.2.2.2.1
  unfold sim
  by_cases c1 : a < 0
  · simp only [am_lv_of, rX12_back_0, rX12_back_1, rX12_back_4, rX12_back_5, rX12_back_6, rX12_back_9, rX12_back_12, rX12_back_13, rX12_back_14, rX12_back_15, rX12_back_16, rX12_back_19, rX12_back_20, rX12_back_21, rX12_back_24, rX12_back_25, rX12_back_28, rX13_back_0, rX13_back_1, rX13_back_4, rX13_back_5, rX13_back_6, rX13_back_9, rX13_back_12, rX13_back_13, rX13_back_14, rX13_back_15, rX13_back_16, rX13_back_19, rX13_back_20, rX13_back_21, rX13_back_24, rX13_back_25, rX13_back_28, sh_0, sh_69, hl, hvw9, Nat.reduceLT, Nat.reduceAdd, Nat.reduceMul, ne_eq, Nat.reduceEqDiff, not_false_eq_true, or_true, true_or, or_false, false_or, and_true, true_and, and_self, Nat.reduceLeDiff, am_ci, am_cr, am_cn0, Option.toList_some, Option.toList_none, List.cons_append, List.nil_append, am_s0, am_s1, am_s1r, am_s2, am_s2r, am_s3r, nI_add, am_u_ne, am_u_at, am_u_n1, am_u_n2, am_w_ne, ↓reduceIte, c1]
    exact ⟨σ, H⟩
  · by_cases c2 : a ≤ nI T
    · obtain ⟨q, hq, rfl⟩ := nI_of2 (n := T) (nI_toInt (by omega)) c1 c2
      simp only [am_lv_of, rX12_back_0, rX12_back_1, rX12_back_4, rX12_back_5, rX12_back_6, rX12_back_9, rX12_back_12, rX12_back_13, rX12_back_14, rX12_back_15, rX12_back_16, rX12_back_19, rX12_back_20, rX12_back_21, rX12_back_24, rX12_back_25, rX12_back_28, rX13_back_0, rX13_back_1, rX13_back_4, rX13_back_5, rX13_back_6, rX13_back_9, rX13_back_12, rX13_back_13, rX13_back_14, rX13_back_15, rX13_back_16, rX13_back_19, rX13_back_20, rX13_back_21, rX13_back_24, rX13_back_25, rX13_back_28, sh_0, sh_69, hl, hvw9, Nat.reduceLT, Nat.reduceAdd, Nat.reduceMul, ne_eq, Nat.reduceEqDiff, not_false_eq_true, or_true, true_or, or_false, false_or, and_true, true_and, and_self, Nat.reduceLeDiff, am_ci, am_cr, am_cn0, Option.toList_some, Option.toList_none, List.cons_append, List.nil_append, am_s0, am_s1, am_s1r, am_s2, am_s2r, am_s3r, nI_add, am_u_ne, am_u_at, am_u_n1, am_u_n2, am_w_ne, ↓reduceIte, c1, c2, h2, h3, hn, pk_sub hq]
      refine ⟨σ, H.tp (by refine am_ag.u (am_ag.u am_ag.refl ?_) ?_ <;> (unfold tpP; omega)) ⟨T - q, by omega, ?_, ?_, fun j hj => ?_, ?_⟩⟩
      · rw [am_u_n1 (by omega), am_u_at]
      · rw [am_u_at]
      · rw [am_u_n1 (by omega), am_u_n1 (by omega), am_u_n1 (by omega), am_u_n1 (by omega)]; exact h4 j (by omega)
      · rw [am_u_n1 (by omega), am_u_n2 (by omega), am_u_n2 (by omega), am_u_n1 (by omega)]; exact h5
    · simp only [am_lv_of, rX12_back_0, rX12_back_1, rX12_back_4, rX12_back_5, rX12_back_6, rX12_back_9, rX12_back_12, rX12_back_13, rX12_back_14, rX12_back_15, rX12_back_16, rX12_back_19, rX12_back_20, rX12_back_21, rX12_back_24, rX12_back_25, rX12_back_28, rX13_back_0, rX13_back_1, rX13_back_4, rX13_back_5, rX13_back_6, rX13_back_9, rX13_back_12, rX13_back_13, rX13_back_14, rX13_back_15, rX13_back_16, rX13_back_19, rX13_back_20, rX13_back_21, rX13_back_24, rX13_back_25, rX13_back_28, sh_0, sh_69, hl, hvw9, Nat.reduceLT, Nat.reduceAdd, Nat.reduceMul, ne_eq, Nat.reduceEqDiff, not_false_eq_true, or_true, true_or, or_false, false_or, and_true, true_and, and_self, Nat.reduceLeDiff, am_ci, am_cr, am_cn0, Option.toList_some, Option.toList_none, List.cons_append, List.nil_append, am_s0, am_s1, am_s1r, am_s2, am_s2r, am_s3r, nI_add, am_u_ne, am_u_at, am_u_n1, am_u_n2, am_w_ne, ↓reduceIte, c1, c2, h2, h3]
      exact ⟨σ, H⟩
end TP
