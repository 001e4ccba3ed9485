--! 33
/-! LAWS: branches (test, test, term) and a last term -/
abbrev lawB : Type := List (pfx × pfx × pfx)
def lawV (vars : Nat → Int32) (e : pfx) : lawB → Int32
  | [] => (pfV vars e []).2
  | (t1, t2, e1) :: r => if (pfV vars t1 []).1 = true ∨ (pfV vars t2 []).1 = true then nI 0 else if (pfV vars t1 []).2 < (pfV vars t2 []).2 then (pfV vars e1 []).2 else lawV vars e r
/-- the last term of a branch of the reference's, from a3 on -/
def rf_trm (I : Nat → Nat → Int32) (b a3 : Nat) (e : pfx) : Prop := I 96 b = nI a3 ∧ I 97 b = nI (a3 + e.length) ∧ a3 + e.length ≤ 840 ∧ rf_seg I a3 e ∧ pfW 400 e 0 = some 1
def rf_br (I : Nat → Nat → Int32) (b : Nat) (t1 t2 e : pfx) : Prop := ∃ a1 : Nat, I 93 b = nI 1 ∧ I 94 b = nI a1 ∧ I 95 b = nI (a1 + t1.length) ∧ rf_seg I a1 t1 ∧ pfW 400 t1 0 = some 1 ∧ rf_seg I (a1 + t1.length) t2 ∧ pfW 400 t2 0 = some 1 ∧ rf_trm I b (a1 + t1.length + t2.length) e
def rf_brs (I : Nat → Nat → Int32) (e : pfx) : Nat → lawB → Prop
  | f, [] => I 93 f = nI 0 ∧ ∃ a3, rf_trm I f a3 e
  | f, (t1, t2, e1) :: r => rf_br I f t1 t2 e1 ∧ rf_brs I e (f + 1) r
theorem pfV_br {vars : Nat → Int32} {p : pfx} (h : (pfV vars p []).1 = true) : (pfV vars p []).2 = nI 0 := by
  unfold pfV at h ⊢
  split at h <;> first | rfl | cases h
/-- what termOf and asks don't touch -/
def am_law (I I' : Nat → Nat → Int32) : Prop := ∀ k j, (k = 91 ∨ k = 92 ∨ k = 93 ∨ k = 94 ∨ k = 95 ∨ k = 96 ∨ k = 97 ∨ k = 98 ∨ k = 99) → I' k j = I k j
theorem am_ag.law {I I' : Nat → Nat → Int32} (h : am_ag sc2 I I') : am_law I I' := fun k j hk => h k j (fun z => by
  rcases z with (z | z | z) | z | z <;> omega)
theorem sc0_sc2 : ∀ k j, sc0 k j → sc2 k j := fun k j h => h.elim (fun z => Or.inl (Or.inr (Or.inl z))) (fun z => Or.inl (Or.inr (Or.inr z)))
theorem sc1_sc2 : ∀ k j, sc1 k j → sc2 k j := fun _ _ h => Or.inl h
theorem rf_seg.mv {I I' : Nat → Nat → Int32} {a : Nat} {p : pfx} (h : rf_seg I a p) (hl : am_law I I') : rf_seg I' a p := fun i q hq => by
  rw [hl 98 _ (by omega), hl 99 _ (by omega)]; exact h i q hq
theorem rf_trm.mv {I I' : Nat → Nat → Int32} {b a3 : Nat} {e : pfx} (h : rf_trm I b a3 e) (hl : am_law I I') : rf_trm I' b a3 e := by
  obtain ⟨h1, h2, h3, h4, h5⟩ := h
  exact ⟨by rw [hl 96 _ (by omega)]; exact h1, by rw [hl 97 _ (by omega)]; exact h2, h3, h4.mv hl, h5⟩
theorem rf_br.mv {I I' : Nat → Nat → Int32} {b : Nat} {t1 t2 e : pfx} (h : rf_br I b t1 t2 e) (hl : am_law I I') : rf_br I' b t1 t2 e := by
  obtain ⟨a1, h1, h2, h3, h4, h5, h6, h7, h8⟩ := h
  exact ⟨a1, by rw [hl 93 _ (by omega)]; exact h1, by rw [hl 94 _ (by omega)]; exact h2, by rw [hl 95 _ (by omega)]; exact h3, h4.mv hl, h5, h6.mv hl, h7, h8.mv hl⟩
theorem rf_brs.mv {I I' : Nat → Nat → Int32} {e : pfx} (hl : am_law I I') : ∀ {r : lawB} {f : Nat}, rf_brs I e f r → rf_brs I' e f r := by
  intro r
  induction r with
  | nil =>
    rintro f ⟨h1, a3, h2⟩
    exact ⟨by rw [hl 93 _ (by omega)]; exact h1, a3, h2.mv hl⟩
  | cons q r ih =>
    obtain ⟨t1, t2, e1⟩ := q
    rintro f ⟨h1, h2⟩
    exact ⟨h1.mv hl, ih h2⟩
section RFD
variable {X : am_X} {d n : Nat} {I : Nat → Nat → Int32} {L : Nat → Nat → Int64} {R : Nat → Nat → Option Nat} {Q : Option Value → am_M → Prop}
/-- the last stretch of asks: the term, then the answer -/
theorem l_asks_end {at' b a3 : Nat} {e : pfx} {vars : Nat → Int32} {l1 l2 l5 l6 : Option Value} (hR : am_OR R) (hN : 116 ≤ n) (hn : n ≤ 1000) (hb : b < 260) (ht : rf_trm I b a3 e) (hv : ∀ v, v < 9 → I 101 v = vars v) (hbr : I 69 50 = nI 0) (hQ : ∀ I', am_ag sc0 I I' → Q (some (.int (pfV vars e []).2)) (n, I', L, R)) : am_E X (d + 1) mX13_asks 119 [some (.ref 69), l1, l2, some (.int (nI at')), some (.int (nI b)), l5, l6] [] (n, I, L, R) Q := by
  have hl := am_lt hN
  have hvw9 := am_lw hN
  obtain ⟨t1, t2, t3, t4, t5⟩ := ht
  simp only [am_lv_of, rX13_asks_119, rX13_asks_120, rX13_asks_121, rX13_asks_124, rX13_asks_126, rX13_asks_127, rX13_asks_128, rX13_asks_131, rX13_asks_133, rX13_asks_134, ro_69_1 hR, ro_69_3 hR, ro_69_5 hR, ro_69_6 hR, ro_69_7 hR, ro_69_8 hR, ro_69_9 hR, ro_69_21 hR, ro_69_22 hR, ro_69_23 hR, ro_69_24 hR, ro_69_25 hR, ro_69_26 hR, ro_69_27 hR, ro_69_28 hR, ro_69_29 hR, ro_69_30 hR, ro_69_31 hR, ro_69_32 hR, ro_69_33 hR, ro_69_34 hR, ro_69_35 hR, ro_69_36 hR, ro_69_38 hR, ro_69_39 hR, ro_69_40 hR, ro_69_41 hR, ro_69_42 hR, ro_69_44 hR, ro_69_45 hR, ro_69_46 hR, ro_69_48 hR, ro_69_49 hR, ro_69_51 hR, ro_69_52 hR, ro_69_55 hR, ro_69_56 hR, ro_69_57 hR, ro_69_58 hR, ro_69_59 hR, ro_69_61 hR, ro_69_62 hR, ro_69_63 hR, ro_69_64 hR, ro_69_65 hR, ro_69_66 hR, sh_69, sh_96, sh_97, hl, hvw9, Nat.reduceLT, Nat.reduceAdd, Nat.reduceMul, ne_eq, Nat.reduceEqDiff, not_false_eq_true, or_true, true_or, or_false, false_or, and_true, true_and, and_self, Nat.reduceLeDiff, am_ci, am_cr, am_cn0, Option.toList_some, Option.toList_none, List.cons_append, List.nil_append, am_s0, am_s1, am_s1r, am_s2, am_s2r, am_s3r, nI_add, am_u_ne, am_u_at, am_u_n1, am_u_n2, am_w_ne, hb, t1, t2]
  refine c_termOf hR hN hn rfl t3 t5 t4 hv (fun I' g1 g2 => ?_)
  simp only [am_lv_of, Option.toList_some, List.cons_append, List.nil_append, rX13_asks_137, rX13_asks_139, rX13_asks_140, rX13_asks_143, ro_69_1 hR, ro_69_3 hR, ro_69_5 hR, ro_69_6 hR, ro_69_7 hR, ro_69_8 hR, ro_69_9 hR, ro_69_21 hR, ro_69_22 hR, ro_69_23 hR, ro_69_24 hR, ro_69_25 hR, ro_69_26 hR, ro_69_27 hR, ro_69_28 hR, ro_69_29 hR, ro_69_30 hR, ro_69_31 hR, ro_69_32 hR, ro_69_33 hR, ro_69_34 hR, ro_69_35 hR, ro_69_36 hR, ro_69_38 hR, ro_69_39 hR, ro_69_40 hR, ro_69_41 hR, ro_69_42 hR, ro_69_44 hR, ro_69_45 hR, ro_69_46 hR, ro_69_48 hR, ro_69_49 hR, ro_69_51 hR, ro_69_52 hR, ro_69_55 hR, ro_69_56 hR, ro_69_57 hR, ro_69_58 hR, ro_69_59 hR, ro_69_61 hR, ro_69_62 hR, ro_69_63 hR, ro_69_64 hR, ro_69_65 hR, ro_69_66 hR, sh_69, hl, hvw9, Nat.reduceLT, Nat.reduceAdd, Nat.reduceMul, ne_eq, Nat.reduceEqDiff, not_false_eq_true, or_true, true_or, or_false, false_or, and_true, true_and, and_self, Nat.reduceLeDiff, am_ci, am_cr, am_cn0, Option.toList_some, Option.toList_none, List.cons_append, List.nil_append, am_s0, am_s1, am_s1r, am_s2, am_s2r, am_s3r, nI_add, am_u_ne, am_u_at, am_u_n1, am_u_n2, am_w_ne, g2, hbr]
  by_cases hb2 : (pfV vars e []).1 = true
  · have e1 : ¬ nI 1 = 0 := by decide
    simp only [am_lv_of, hb2, if_true, if_neg e1, rX13_asks_146, rX13_asks_147, rX13_asks_150, rX13_asks_152, hl, hvw9, Nat.reduceLT, Nat.reduceAdd, Nat.reduceMul, ne_eq, Nat.reduceEqDiff, not_false_eq_true, or_true, true_or, or_false, false_or, and_true, true_and, and_self, Nat.reduceLeDiff, am_ci, am_cr, am_cn0, Option.toList_some, Option.toList_none, List.cons_append, List.nil_append, am_s0, am_s1, am_s1r, am_s2, am_s2r, am_s3r, nI_add, am_u_ne, am_u_at, am_u_n1, am_u_n2, am_w_ne]
    have := hQ I' g1
    rwa [pfV_br hb2] at this
  · have e1 : nI 0 = 0 := rfl
    simp only [am_lv_of, hb2, if_false, if_pos e1, rX13_asks_150, rX13_asks_152, hl, hvw9, Nat.reduceLT, Nat.reduceAdd, Nat.reduceMul, ne_eq, Nat.reduceEqDiff, not_false_eq_true, or_true, true_or, or_false, false_or, and_true, true_and, and_self, Nat.reduceLeDiff, am_ci, am_cr, am_cn0, Option.toList_some, Option.toList_none, List.cons_append, List.nil_append, am_s0, am_s1, am_s1r, am_s2, am_s2r, am_s3r, nI_add, am_u_ne, am_u_at, am_u_n1, am_u_n2, am_w_ne]
    exact hQ I' g1
theorem l_asks {at' : Nat} {e : pfx} {vars : Nat → Int32} {l1 l2 : Option Value} (hR : am_OR R) (hN : 116 ≤ n) (hn : n ≤ 1000) (hat : at' < 6) : ∀ (r : lawB) (f : Nat) (I : Nat → Nat → Int32) (l5 l6 : Option Value), am_nl l5 → f + r.length < 260 → I 92 at' = nI (f + r.length + 1) → rf_brs I e f r → (∀ v, v < 9 → I 101 v = vars v) → I 69 50 = nI 0 → (∀ I', am_ag sc0 I I' → Q (some (.int (lawV vars e r))) (n, I', L, R)) → am_E X (d + 1) mX13_asks 39 [some (.ref 69), l1, l2, some (.int (nI at')), some (.int (nI f)), l5, l6] [] (n, I, L, R) Q := by
  have hl := am_lt hN
  have hvw9 := am_lw hN
  intro r
  induction r with
  | nil =>
    intro f I l5 l6 n5 hf hla hbrs hv hbr hQ
    obtain ⟨h1, a3, h2⟩ := hbrs
    have hf2 : f < 260 := by simpa using hf
    have hc : ¬ nI (f + ([] : lawB).length + 1) ≤ nI f := nI_ge (by simp) (by simp; omega)
    have e1 : nI 0 = 0 := rfl
    simp only [am_lv_of, rX13_asks_39, rX13_asks_41, rX13_asks_42, rX13_asks_45, rX13_asks_46, rX13_asks_47, rX13_asks_50, rX13_asks_51, rX13_asks_54, rX13_asks_56, rX13_asks_57, ro_69_1 hR, ro_69_3 hR, ro_69_5 hR, ro_69_6 hR, ro_69_7 hR, ro_69_8 hR, ro_69_9 hR, ro_69_21 hR, ro_69_22 hR, ro_69_23 hR, ro_69_24 hR, ro_69_25 hR, ro_69_26 hR, ro_69_27 hR, ro_69_28 hR, ro_69_29 hR, ro_69_30 hR, ro_69_31 hR, ro_69_32 hR, ro_69_33 hR, ro_69_34 hR, ro_69_35 hR, ro_69_36 hR, ro_69_38 hR, ro_69_39 hR, ro_69_40 hR, ro_69_41 hR, ro_69_42 hR, ro_69_44 hR, ro_69_45 hR, ro_69_46 hR, ro_69_48 hR, ro_69_49 hR, ro_69_51 hR, ro_69_52 hR, ro_69_55 hR, ro_69_56 hR, ro_69_57 hR, ro_69_58 hR, ro_69_59 hR, ro_69_61 hR, ro_69_62 hR, ro_69_63 hR, ro_69_64 hR, ro_69_65 hR, ro_69_66 hR, sh_69, sh_92, sh_93, hl, hvw9, Nat.reduceLT, Nat.reduceAdd, Nat.reduceMul, ne_eq, Nat.reduceEqDiff, not_false_eq_true, or_true, true_or, or_false, false_or, and_true, true_and, and_self, Nat.reduceLeDiff, am_ci, am_cr, am_cn0, Option.toList_some, Option.toList_none, List.cons_append, List.nil_append, am_s0, am_s1, am_s1r, am_s2, am_s2r, am_s3r, nI_add, am_u_ne, am_u_at, am_u_n1, am_u_n2, am_w_ne, hat, hla, if_neg hc, hf2, h1, if_pos e1]
    exact l_asks_end hR hN hn hf2 h2 hv hbr hQ
  | cons q r ih =>
    intro f I l5 l6 n5 hf hla hbrs hv hbr hQ
    obtain ⟨t1, t2, e1⟩ := q
    obtain ⟨⟨a1, h1, h2, h3, h4, h5, h6, h7, h8⟩, hrest⟩ := hbrs
    have hf2 : f < 260 := by simp at hf; omega
    have hc : ¬ nI (f + ((t1, t2, e1) :: r).length + 1) ≤ nI f := nI_ge (by simp; omega) (by simp at hf ⊢; omega)
    have z1 : ¬ nI 1 = 0 := by decide
    have z0 : nI 0 = 0 := rfl
    have hle : a1 + t1.length + t2.length ≤ 840 := by have := h8.2.2.1; omega
    rw [rX13_asks_39]
    simp only [am_lv_of, rX13_asks_41, rX13_asks_42, rX13_asks_45, rX13_asks_46, rX13_asks_47, rX13_asks_50, rX13_asks_51, rX13_asks_54, rX13_asks_56, rX13_asks_57, rX13_asks_60, rX13_asks_61, rX13_asks_62, rX13_asks_65, rX13_asks_67, rX13_asks_68, rX13_asks_69, rX13_asks_72, rX13_asks_74, rX13_asks_75, ro_69_1 hR, ro_69_3 hR, ro_69_5 hR, ro_69_6 hR, ro_69_7 hR, ro_69_8 hR, ro_69_9 hR, ro_69_21 hR, ro_69_22 hR, ro_69_23 hR, ro_69_24 hR, ro_69_25 hR, ro_69_26 hR, ro_69_27 hR, ro_69_28 hR, ro_69_29 hR, ro_69_30 hR, ro_69_31 hR, ro_69_32 hR, ro_69_33 hR, ro_69_34 hR, ro_69_35 hR, ro_69_36 hR, ro_69_38 hR, ro_69_39 hR, ro_69_40 hR, ro_69_41 hR, ro_69_42 hR, ro_69_44 hR, ro_69_45 hR, ro_69_46 hR, ro_69_48 hR, ro_69_49 hR, ro_69_51 hR, ro_69_52 hR, ro_69_55 hR, ro_69_56 hR, ro_69_57 hR, ro_69_58 hR, ro_69_59 hR, ro_69_61 hR, ro_69_62 hR, ro_69_63 hR, ro_69_64 hR, ro_69_65 hR, ro_69_66 hR, sh_69, sh_92, sh_93, sh_94, sh_95, hl, hvw9, Nat.reduceLT, Nat.reduceAdd, Nat.reduceMul, ne_eq, Nat.reduceEqDiff, not_false_eq_true, or_true, true_or, or_false, false_or, and_true, true_and, and_self, Nat.reduceLeDiff, am_ci, am_cr, am_cn0, Option.toList_some, Option.toList_none, List.cons_append, List.nil_append, am_s0, am_s1, am_s1r, am_s2, am_s2r, am_s3r, nI_add, am_u_ne, am_u_at, am_u_n1, am_u_n2, am_w_ne, hat, hla, if_neg hc, hf2, h1, if_neg z1, h2, h3]
    refine c_termOf hR hN hn rfl (by omega) h5 h4 hv (fun I1 g1 g2 => ?_)
    have gl1 : am_law I I1 := (g1.mono sc0_sc2).law
    have s96 : I1 96 f = nI (a1 + t1.length + t2.length) := by rw [gl1 96 _ (by omega)]; exact h8.1
    have s95 : I1 95 f = nI (a1 + t1.length) := by rw [gl1 95 _ (by omega)]; exact h3
    have v1 : ∀ v, v < 9 → I1 101 v = vars v := fun v hv9 => by rw [g1 101 v (fun z => by rcases z with z | z <;> omega)]; exact hv v hv9
    simp only [am_lv_of, Option.toList_some, List.cons_append, List.nil_append, rX13_asks_78, rX13_asks_80, rX13_asks_81, rX13_asks_82, rX13_asks_85, rX13_asks_87, rX13_asks_88, rX13_asks_89, rX13_asks_92, rX13_asks_94, rX13_asks_95, ro_69_1 hR, ro_69_3 hR, ro_69_5 hR, ro_69_6 hR, ro_69_7 hR, ro_69_8 hR, ro_69_9 hR, ro_69_21 hR, ro_69_22 hR, ro_69_23 hR, ro_69_24 hR, ro_69_25 hR, ro_69_26 hR, ro_69_27 hR, ro_69_28 hR, ro_69_29 hR, ro_69_30 hR, ro_69_31 hR, ro_69_32 hR, ro_69_33 hR, ro_69_34 hR, ro_69_35 hR, ro_69_36 hR, ro_69_38 hR, ro_69_39 hR, ro_69_40 hR, ro_69_41 hR, ro_69_42 hR, ro_69_44 hR, ro_69_45 hR, ro_69_46 hR, ro_69_48 hR, ro_69_49 hR, ro_69_51 hR, ro_69_52 hR, ro_69_55 hR, ro_69_56 hR, ro_69_57 hR, ro_69_58 hR, ro_69_59 hR, ro_69_61 hR, ro_69_62 hR, ro_69_63 hR, ro_69_64 hR, ro_69_65 hR, ro_69_66 hR, sh_69, sh_95, sh_96, hl, hvw9, Nat.reduceLT, Nat.reduceAdd, Nat.reduceMul, ne_eq, Nat.reduceEqDiff, not_false_eq_true, or_true, true_or, or_false, false_or, and_true, true_and, and_self, Nat.reduceLeDiff, am_ci, am_cr, am_cn0, Option.toList_some, Option.toList_none, List.cons_append, List.nil_append, am_s0, am_s1, am_s1r, am_s2, am_s2r, am_s3r, nI_add, am_u_ne, am_u_at, am_u_n1, am_u_n2, am_w_ne, hf2, s95, s96]
    refine c_termOf hR hN hn rfl (by omega) h7 (h6.mv gl1) v1 (fun I2 g3 g4 => ?_)
    have g13 := g1.trans g3
    have gl2 : am_law I I2 := (g13.mono sc0_sc2).law
    have v2 : ∀ v, v < 9 → I2 101 v = vars v := fun v hv9 => by rw [g13 101 v (fun z => by rcases z with z | z <;> omega)]; exact hv v hv9
    simp only [am_lv_of, Option.toList_some, List.cons_append, List.nil_append, rX13_asks_98, rX13_asks_100, rX13_asks_101, rX13_asks_104, ro_69_1 hR, ro_69_3 hR, ro_69_5 hR, ro_69_6 hR, ro_69_7 hR, ro_69_8 hR, ro_69_9 hR, ro_69_21 hR, ro_69_22 hR, ro_69_23 hR, ro_69_24 hR, ro_69_25 hR, ro_69_26 hR, ro_69_27 hR, ro_69_28 hR, ro_69_29 hR, ro_69_30 hR, ro_69_31 hR, ro_69_32 hR, ro_69_33 hR, ro_69_34 hR, ro_69_35 hR, ro_69_36 hR, ro_69_38 hR, ro_69_39 hR, ro_69_40 hR, ro_69_41 hR, ro_69_42 hR, ro_69_44 hR, ro_69_45 hR, ro_69_46 hR, ro_69_48 hR, ro_69_49 hR, ro_69_51 hR, ro_69_52 hR, ro_69_55 hR, ro_69_56 hR, ro_69_57 hR, ro_69_58 hR, ro_69_59 hR, ro_69_61 hR, ro_69_62 hR, ro_69_63 hR, ro_69_64 hR, ro_69_65 hR, ro_69_66 hR, sh_69, hl, hvw9, Nat.reduceLT, Nat.reduceAdd, Nat.reduceMul, ne_eq, Nat.reduceEqDiff, not_false_eq_true, or_true, true_or, or_false, false_or, and_true, true_and, and_self, Nat.reduceLeDiff, am_ci, am_cr, am_cn0, Option.toList_some, Option.toList_none, List.cons_append, List.nil_append, am_s0, am_s1, am_s1r, am_s2, am_s2r, am_s3r, nI_add, am_u_ne, am_u_at, am_u_n1, am_u_n2, am_w_ne, g4, g2, hbr]
    by_cases hb2 : (pfV vars t2 []).1 = true
    · simp only [am_lv_of, hb2, if_true, if_neg z1, rX13_asks_107, rX13_asks_108, hl, hvw9, Nat.reduceLT, Nat.reduceAdd, Nat.reduceMul, ne_eq, Nat.reduceEqDiff, not_false_eq_true, or_true, true_or, or_false, false_or, and_true, true_and, and_self, Nat.reduceLeDiff, am_ci, am_cr, am_cn0, Option.toList_some, Option.toList_none, List.cons_append, List.nil_append, am_s0, am_s1, am_s1r, am_s2, am_s2r, am_s3r, nI_add, am_u_ne, am_u_at, am_u_n1, am_u_n2, am_w_ne]
      have := hQ I2 g13
      rwa [lawV, if_pos (Or.inr hb2)] at this
    · by_cases hb1 : (pfV vars t1 []).1 = true
      · simp only [am_lv_of, hb2, hb1, if_false, if_true, if_neg z1, rX13_asks_107, rX13_asks_108, hl, hvw9, Nat.reduceLT, Nat.reduceAdd, Nat.reduceMul, ne_eq, Nat.reduceEqDiff, not_false_eq_true, or_true, true_or, or_false, false_or, and_true, true_and, and_self, Nat.reduceLeDiff, am_ci, am_cr, am_cn0, Option.toList_some, Option.toList_none, List.cons_append, List.nil_append, am_s0, am_s1, am_s1r, am_s2, am_s2r, am_s3r, nI_add, am_u_ne, am_u_at, am_u_n1, am_u_n2, am_w_ne]
        have := hQ I2 g13
        rwa [lawV, if_pos (Or.inl hb1)] at this
      · simp only [am_lv_of, hb2, hb1, if_false, if_pos z0, rX13_asks_109, rX13_asks_111, rX13_asks_113, hl, hvw9, Nat.reduceLT, Nat.reduceAdd, Nat.reduceMul, ne_eq, Nat.reduceEqDiff, not_false_eq_true, or_true, true_or, or_false, false_or, and_true, true_and, and_self, Nat.reduceLeDiff, am_ci, am_cr, am_cn0, Option.toList_some, Option.toList_none, List.cons_append, List.nil_append, am_s0, am_s1, am_s1r, am_s2, am_s2r, am_s3r, nI_add, am_u_ne, am_u_at, am_u_n1, am_u_n2, am_w_ne]
        have hbr2 : I2 69 50 = nI 0 := by rw [g4, if_neg hb2, g2, if_neg hb1, hbr]
        rw [lawV, if_neg (fun z => z.elim hb1 hb2)] at hQ
        by_cases hlt : (pfV vars t1 []).2 < (pfV vars t2 []).2
        · rw [if_pos hlt] at hQ
          simp only [if_pos hlt]
          exact l_asks_end hR hN hn hf2 (h8.mv gl2) v2 hbr2 (fun I' g => hQ I' (g13.trans g))
        · rw [if_neg hlt] at hQ
          simp only [am_lv_of, if_neg hlt, rX13_asks_116, rX13_asks_153, rX13_asks_156, hl, hvw9, Nat.reduceLT, Nat.reduceAdd, Nat.reduceMul, ne_eq, Nat.reduceEqDiff, not_false_eq_true, or_true, true_or, or_false, false_or, and_true, true_and, and_self, Nat.reduceLeDiff, am_ci, am_cr, am_cn0, Option.toList_some, Option.toList_none, List.cons_append, List.nil_append, am_s0, am_s1, am_s1r, am_s2, am_s2r, am_s3r, nI_add, am_u_ne, am_u_at, am_u_n1, am_u_n2, am_w_ne]
          exact ih (f + 1) I2 _ _ am_ci (by simp at hf; omega) (by rw [gl2 92 _ (by omega), hla]; congr 1; simp; omega) (rf_brs.mv gl2 hrest) v2 hbr2 (fun I' g => hQ I' (g13.trans g))
/-- the branches and codes of one part are as they were -/
def rgA (lv : Nat) (I J : Nat → Nat → Int32) : Prop := ∀ k j, ((93 ≤ k ∧ k ≤ 97) ∧ 130 * lv ≤ j ∧ j < 130 * lv + 130) ∨ ((k = 98 ∨ k = 99) ∧ 420 * lv ≤ j ∧ j < 420 * lv + 420) → J k j = I k j
/-- a law of the reference's: none if it isn't told -/
def rf_law (I : Nat → Nat → Int32) (at' : Nat) (lw : Option (lawB × pfx)) : Prop := match lw with
  | none => I 91 at' = I 92 at'
  | some (r, e) => ∃ f, f + r.length < 260 ∧ I 91 at' = nI f ∧ I 92 at' = nI (f + r.length + 1) ∧ ∀ J, rgA (at' / 3) I J → rf_brs J e f r
def lawO (vars : Nat → Int32) (plain : Int32) (lw : Option (lawB × pfx)) : Int32 := match lw with
  | none => plain
  | some (r, e) => lawV vars e r
theorem c_asks {lv k : Nat} {plain : Int32} {lw : Option (lawB × pfx)} {vars : Nat → Int32} (hR : am_OR R) (hN : 116 ≤ n) (hn : n ≤ 1000) (hlv : I 69 18 = nI lv) (hl2 : lv < 2) (hk : k < 3) (hlw : rf_law I (3 * lv + k) lw) (hv : ∀ v, v < 9 → I 101 v = vars v) (hQ : ∀ I', am_ag sc0 I I' → Q (some (.int (lawO vars plain lw))) (n, I', L, R)) : am_E X (d + 1) mX13_asks 0 [some (.ref 69), some (.int (nI k)), some (.int plain), none, none, none, none] [] (n, I, L, R) Q := by
  have hl := am_lt hN
  have hvw9 := am_lw hN
  have hat : 3 * lv + k < 6 := by omega
  simp only [am_lv_of, rX13_asks_0, rX13_asks_1, rX13_asks_2, rX13_asks_5, rX13_asks_6, rX13_asks_7, rX13_asks_8, rX13_asks_9, rX13_asks_10, rX13_asks_13, rX13_asks_14, rX13_asks_15, rX13_asks_16, rX13_asks_19, rX13_asks_20, rX13_asks_21, ro_69_1 hR, ro_69_3 hR, ro_69_5 hR, ro_69_6 hR, ro_69_7 hR, ro_69_8 hR, ro_69_9 hR, ro_69_21 hR, ro_69_22 hR, ro_69_23 hR, ro_69_24 hR, ro_69_25 hR, ro_69_26 hR, ro_69_27 hR, ro_69_28 hR, ro_69_29 hR, ro_69_30 hR, ro_69_31 hR, ro_69_32 hR, ro_69_33 hR, ro_69_34 hR, ro_69_35 hR, ro_69_36 hR, ro_69_38 hR, ro_69_39 hR, ro_69_40 hR, ro_69_41 hR, ro_69_42 hR, ro_69_44 hR, ro_69_45 hR, ro_69_46 hR, ro_69_48 hR, ro_69_49 hR, ro_69_51 hR, ro_69_52 hR, ro_69_55 hR, ro_69_56 hR, ro_69_57 hR, ro_69_58 hR, ro_69_59 hR, ro_69_61 hR, ro_69_62 hR, ro_69_63 hR, ro_69_64 hR, ro_69_65 hR, ro_69_66 hR, sh_69, sh_91, sh_92, hl, hvw9, Nat.reduceLT, Nat.reduceAdd, Nat.reduceMul, ne_eq, Nat.reduceEqDiff, not_false_eq_true, or_true, true_or, or_false, false_or, and_true, true_and, and_self, Nat.reduceLeDiff, am_ci, am_cr, am_cn0, Option.toList_some, Option.toList_none, List.cons_append, List.nil_append, am_s0, am_s1, am_s1r, am_s2, am_s2r, am_s3r, nI_add, am_u_ne, am_u_at, am_u_n1, am_u_n2, am_w_ne, hlv, pk_mul, hat]
  cases lw with
  | none =>
    have e : I 91 (3 * lv + k) = I 92 (3 * lv + k) := hlw
    simp only [am_lv_of, e, not_true_eq_false, if_false, rX13_asks_24, rX13_asks_25, hl, hvw9, Nat.reduceLT, Nat.reduceAdd, Nat.reduceMul, ne_eq, Nat.reduceEqDiff, not_false_eq_true, or_true, true_or, or_false, false_or, and_true, true_and, and_self, Nat.reduceLeDiff, am_ci, am_cr, am_cn0, Option.toList_some, Option.toList_none, List.cons_append, List.nil_append, am_s0, am_s1, am_s1r, am_s2, am_s2r, am_s3r, nI_add, am_u_ne, am_u_at, am_u_n1, am_u_n2, am_w_ne]
    exact hQ I am_ag.refl
  | some q =>
    obtain ⟨r, e⟩ := q
    obtain ⟨f, h1, h2, h3, h4⟩ := hlw
    have h4 := h4 I (fun _ _ _ => rfl)
    have hne : ¬ nI f = nI (f + r.length + 1) := by
      exact fun z => by have := (nI_eq (by omega) (by omega)).mp z; omega
    simp only [am_lv_of, h2, h3, if_pos hne, rX13_asks_26, rX13_asks_27, rX13_asks_28_0, rX13_asks_28_1, rX13_asks_31, rX13_asks_32, rX13_asks_35, rX13_asks_36, rX13_asks_37, ro_69_1 hR, ro_69_3 hR, ro_69_5 hR, ro_69_6 hR, ro_69_7 hR, ro_69_8 hR, ro_69_9 hR, ro_69_21 hR, ro_69_22 hR, ro_69_23 hR, ro_69_24 hR, ro_69_25 hR, ro_69_26 hR, ro_69_27 hR, ro_69_28 hR, ro_69_29 hR, ro_69_30 hR, ro_69_31 hR, ro_69_32 hR, ro_69_33 hR, ro_69_34 hR, ro_69_35 hR, ro_69_36 hR, ro_69_38 hR, ro_69_39 hR, ro_69_40 hR, ro_69_41 hR, ro_69_42 hR, ro_69_44 hR, ro_69_45 hR, ro_69_46 hR, ro_69_48 hR, ro_69_49 hR, ro_69_51 hR, ro_69_52 hR, ro_69_55 hR, ro_69_56 hR, ro_69_57 hR, ro_69_58 hR, ro_69_59 hR, ro_69_61 hR, ro_69_62 hR, ro_69_63 hR, ro_69_64 hR, ro_69_65 hR, ro_69_66 hR, sh_69, sh_91, hl, hvw9, Nat.reduceLT, Nat.reduceAdd, Nat.reduceMul, ne_eq, Nat.reduceEqDiff, not_false_eq_true, or_true, true_or, or_false, false_or, and_true, true_and, and_self, Nat.reduceLeDiff, am_ci, am_cr, am_cn0, Option.toList_some, Option.toList_none, List.cons_append, List.nil_append, am_s0, am_s1, am_s1r, am_s2, am_s2r, am_s3r, nI_add, am_u_ne, am_u_at, am_u_n1, am_u_n2, am_w_ne, hn, hat]
    refine l_asks hR hN hn hat r f _ _ _ am_cn0 h1 ?_ (rf_brs.mv (fun k j hk => am_u_n1 (by omega)) h4) (fun v hv9 => ?_) am_u_at (fun I' g => hQ I' ((am_ag.refl.u (Or.inr ⟨rfl, rfl⟩)).trans g))
    · rw [am_u_n1 (by omega)]; exact h3
    · rw [am_u_n1 (by omega)]; exact hv v hv9
end RFD
