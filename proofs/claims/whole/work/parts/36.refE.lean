--! 35
/-! THE REFERENCE: may, verdict, moves -/
/-- what ORDER is told -/
def vOrd (σ : rfP) (r : Nat → Int32) (s : Nat) (side : Int32) (j : Nat) : Int32 := if j = 8 then r (p_ow σ s) else if j = 7 then nI s else if j = 4 then side else rV r (p_P σ) j
def rMay (σ : rfP) (r : Nat → Int32) (s : Nat) (side : Int32) : Bool := (decide (p_sd σ s = nI 2) || decide (p_sd σ s = side)) && rSt σ r s && decide (0 < lawO (vOrd σ r s side) (nI 1) (p_lw σ 0))
def rVd (v : Int32) : Int32 := if 0 ≤ v then v - v / nI 3 * nI 3 else nI 0
def rVerd (σ : rfP) (r : Nat → Int32) : Int32 := rVd (lawO (rV r (p_P σ)) (nI 0) (p_lw σ 1))
def rMv (σ : rfP) (r : Nat → Int32) (s : Nat) : Nat → Int32 := upd (upd (upd r (p_ow σ s) (rGo σ r s)) (5 + p_ow σ s) (r (5 + p_ow σ s) ^^^ (p_trn σ s &&& nI 1))) (10 + p_ow σ s) (r (10 + p_ow σ s) ^^^ (p_trn σ s >>> (nI 1 &&& 31)))
def rEn0 (r : Nat → Int32) : Nat → Int32 := upd (upd r 15 (nI 1 - r 15)) 16 (r 16 + nI 1)
def rEnd (σ : rfP) (r : Nat → Int32) : Nat → Int32 := upd (rEn0 r) 17 (rVerd σ (rEn0 r))
theorem upd_at {f : Nat → Int32} {k : Nat} {x : Int32} : upd f k x k = x := pk_us
theorem upd_n {f : Nat → Int32} {k j : Nat} {x : Int32} (h : j ≠ k) : upd f k x j = f j := pk_un h
theorem ag101 {I I' : Nat → Nat → Int32} (h : am_ag (fun k _ => k = 101) I I') : am_ag sc1 I I' := h.mono (fun k j z => Or.inl z)
theorem ag0_1 {I I' : Nat → Nat → Int32} (h : am_ag sc0 I I') : am_ag sc1 I I' := h.mono (fun k j z => z.elim (fun z => Or.inr (Or.inl z)) (fun z => Or.inr (Or.inr z)))
theorem ag1_2 {I I' : Nat → Nat → Int32} (h : am_ag sc1 I I') : am_ag sc2 I I' := h.mono sc1_sc2
theorem ag1_104 {I I' : Nat → Nat → Int32} (h : am_ag sc1 I I') : I' 104 = I 104 := funext fun j => h 104 j (fun z => by rcases z with z | z | z <;> omega)
section RFE
variable {X : am_X} {d n : Nat} {I : Nat → Nat → Int32} {L : Nat → Nat → Int64} {R : Nat → Nat → Option Nat} {Q : Option Value → am_M → Prop} {σ : rfP}
theorem l_copies {lv : Nat} (hR : am_OR R) (hN : 116 ≤ n) (hn : n ≤ 1000) (hlv : I 69 18 = nI lv) (hl2 : lv < 2) : ∀ (m i : Nat) (J : Nat → Nat → Int32), i + m = 68 → am_ag (fun k _ => k = 104) I J → (∀ j, j < i → J 104 j = I 103 j) → (∀ I', am_ag (fun k j => k = 104 ∨ (k = 69 ∧ j = 53)) I I' → (∀ j, j < 68 → I' 104 j = I 103 j) → I' 69 53 = I 90 lv → Q none (n, I', L, R)) → am_E X d mX13_copies 2 [some (.ref 69), some (.int (nI i))] [] (n, J, L, R) Q := by
  have hl := am_lt hN
  have hvw9 := am_lw hN
  intro m
  induction m with
  | zero =>
    intro i J hi hJ hc hQ
    have hi : i = 68 := by omega
    subst hi
    have h1 : nI 68 ≤ nI 68 := by decide
    have e1 : J 69 18 = nI lv := by rw [hJ 69 18 (by omega)]; exact hlv
    have e2 : J 90 lv = I 90 lv := hJ 90 lv (by omega)
    simp only [am_lv_of, rX13_copies_0, rX13_copies_1, rX13_copies_2, rX13_copies_3, rX13_copies_5, rX13_copies_8, rX13_copies_9, rX13_copies_12, rX13_copies_13, rX13_copies_14, rX13_copies_17, rX13_copies_18, rX13_copies_19, rX13_copies_20, rX13_copies_23, rX13_copies_26, rX13_copies_27, rX13_copies_28, rX13_copies_31, rX13_copies_32, rX13_copies_35, rX13_copies_36, rX13_copies_39, ro_69_1 hR, ro_69_3 hR, ro_69_5 hR, ro_69_6 hR, ro_69_7 hR, ro_69_8 hR, ro_69_9 hR, ro_69_21 hR, ro_69_22 hR, ro_69_23 hR, ro_69_24 hR, ro_69_25 hR, ro_69_26 hR, ro_69_27 hR, ro_69_28 hR, ro_69_29 hR, ro_69_30 hR, ro_69_31 hR, ro_69_32 hR, ro_69_33 hR, ro_69_34 hR, ro_69_35 hR, ro_69_36 hR, ro_69_38 hR, ro_69_39 hR, ro_69_40 hR, ro_69_41 hR, ro_69_42 hR, ro_69_44 hR, ro_69_45 hR, ro_69_46 hR, ro_69_48 hR, ro_69_49 hR, ro_69_51 hR, ro_69_52 hR, ro_69_55 hR, ro_69_56 hR, ro_69_57 hR, ro_69_58 hR, ro_69_59 hR, ro_69_61 hR, ro_69_62 hR, ro_69_63 hR, ro_69_64 hR, ro_69_65 hR, ro_69_66 hR, sh_69, sh_90, hl, hvw9, Nat.reduceLT, Nat.reduceAdd, Nat.reduceMul, ne_eq, Nat.reduceEqDiff, not_false_eq_true, or_true, true_or, or_false, false_or, and_true, true_and, and_self, Nat.reduceLeDiff, am_ci, am_cr, am_cn0, Option.toList_some, Option.toList_none, List.cons_append, List.nil_append, am_s0, am_s1, am_s1r, am_s2, am_s2r, am_s3r, nI_add, am_u_ne, am_u_at, am_u_n1, am_u_n2, am_w_ne, if_pos h1, e1, e2, hl2, hn]
    exact hQ _ ((hJ.mono (fun k j z => Or.inl z)).u (Or.inr ⟨rfl, rfl⟩)) (fun j hj => by rw [am_u_n1 (by omega)]; exact hc j hj) am_u_at
  | succ m ih =>
    intro i J hi hJ hc hQ
    have h1 : ¬ nI 68 ≤ nI i := nI_ge (by omega) (by omega)
    have h2 : i < 68 := by omega
    rw [rX13_copies_2]
    simp only [am_lv_of, rX13_copies_3, rX13_copies_5, rX13_copies_8, rX13_copies_9, rX13_copies_12, rX13_copies_13, rX13_copies_14, rX13_copies_17, rX13_copies_18, rX13_copies_19, rX13_copies_20, rX13_copies_23, ro_69_1 hR, ro_69_3 hR, ro_69_5 hR, ro_69_6 hR, ro_69_7 hR, ro_69_8 hR, ro_69_9 hR, ro_69_21 hR, ro_69_22 hR, ro_69_23 hR, ro_69_24 hR, ro_69_25 hR, ro_69_26 hR, ro_69_27 hR, ro_69_28 hR, ro_69_29 hR, ro_69_30 hR, ro_69_31 hR, ro_69_32 hR, ro_69_33 hR, ro_69_34 hR, ro_69_35 hR, ro_69_36 hR, ro_69_38 hR, ro_69_39 hR, ro_69_40 hR, ro_69_41 hR, ro_69_42 hR, ro_69_44 hR, ro_69_45 hR, ro_69_46 hR, ro_69_48 hR, ro_69_49 hR, ro_69_51 hR, ro_69_52 hR, ro_69_55 hR, ro_69_56 hR, ro_69_57 hR, ro_69_58 hR, ro_69_59 hR, ro_69_61 hR, ro_69_62 hR, ro_69_63 hR, ro_69_64 hR, ro_69_65 hR, ro_69_66 hR, sh_69, sh_103, sh_104, hl, hvw9, Nat.reduceLT, Nat.reduceAdd, Nat.reduceMul, ne_eq, Nat.reduceEqDiff, not_false_eq_true, or_true, true_or, or_false, false_or, and_true, true_and, and_self, Nat.reduceLeDiff, am_ci, am_cr, am_cn0, Option.toList_some, Option.toList_none, List.cons_append, List.nil_append, am_s0, am_s1, am_s1r, am_s2, am_s2r, am_s3r, nI_add, am_u_ne, am_u_at, am_u_n1, am_u_n2, am_w_ne, if_neg h1, h2, hn]
    refine ih (i + 1) _ (by omega) (hJ.u rfl) (fun j hj => ?_) hQ
    by_cases e : j = i
    · subst e; rw [am_u_at, hJ 103 j (by omega)]
    · rw [am_u_n2 e]; exact hc j (by omega)
theorem c_copies (hR : am_OR R) (hN : 116 ≤ n) (hn : n ≤ 1000) (H : rf_S I σ) (hQ : ∀ I', am_ag (fun k j => k = 104 ∨ (k = 69 ∧ j = 53)) I I' → (∀ j, j < 68 → I' 104 j = I 103 j) → I' 69 53 = I 90 (p_lv σ) → Q none (n, I', L, R)) : am_E X d mX13_copies 0 [some (.ref 69), none] [] (n, I, L, R) Q := by
  have hl := am_lt hN
  have hvw9 := am_lw hN
  simp only [am_lv_of, rX13_copies_0, rX13_copies_1, hl, hvw9, Nat.reduceLT, Nat.reduceAdd, Nat.reduceMul, ne_eq, Nat.reduceEqDiff, not_false_eq_true, or_true, true_or, or_false, false_or, and_true, true_and, and_self, Nat.reduceLeDiff, am_ci, am_cr, am_cn0, Option.toList_some, Option.toList_none, List.cons_append, List.nil_append, am_s0, am_s1, am_s1r, am_s2, am_s2r, am_s3r, nI_add, am_u_ne, am_u_at, am_u_n1, am_u_n2, am_w_ne]
  exact l_copies hR hN hn H.1 H.2.1 68 0 I (by omega) am_ag.refl (fun j hj => absurd hj (Nat.not_lt_zero _)) hQ
theorem c_mayPull {s : Nat} {side : Int32} (hR : am_OR R) (hN : 116 ≤ n) (hn : n ≤ 1000) (H : rf_S I σ) (hs : s < p_S σ) (hQ : ∀ I', am_ag sc1 I I' → Q (some (.int (bI (rMay σ (I 104) s side)))) (n, I', L, R)) : am_E X (d + 4) mX13_mayPull 0 [some (.ref 69), some (.int (nI s)), some (.int side), none] [] (n, I, L, R) Q := by
  have hl := am_lt hN
  have hvw9 := am_lw hN
  obtain ⟨hlv, hl2, -, hP5, -, hS7, -, -, how, hlw⟩ := id H
  obtain ⟨h1, h2, h5, h6, -⟩ := how s hs
  have h3 : 7 * p_lv σ + s < 14 := by omega
  have h4 : p_ow σ s < 68 := by omega
  have no : (p_sd σ s = nI 2 ∨ p_sd σ s = side) → rSt σ (I 104) s = false → am_E X (d + 4) mX13_mayPull 38 [some (.ref 69), some (.int (nI s)), some (.int side), some (.int (nI (7 * p_lv σ + s)))] [] (n, I, L, R) Q := by
    intro _ hst
    simp only [am_lv_of, rX13_mayPull_38, rX13_mayPull_39_0, hl, hvw9, Nat.reduceLT, Nat.reduceAdd, Nat.reduceMul, ne_eq, Nat.reduceEqDiff, not_false_eq_true, or_true, true_or, or_false, false_or, and_true, true_and, and_self, Nat.reduceLeDiff, am_ci, am_cr, am_cn0, Option.toList_some, Option.toList_none, List.cons_append, List.nil_append, am_s0, am_s1, am_s1r, am_s2, am_s2r, am_s3r, nI_add, am_u_ne, am_u_at, am_u_n1, am_u_n2, am_w_ne]
    have := hQ I am_ag.refl
    simpa [rMay, hst, bI] using this
  have yes : (p_sd σ s = nI 2 ∨ p_sd σ s = side) → am_E X (d + 4) mX13_mayPull 30 [some (.ref 69), some (.int (nI s)), some (.int side), some (.int (nI (7 * p_lv σ + s)))] [] (n, I, L, R) Q := by
    intro hsd
    simp only [am_lv_of, rX13_mayPull_30, rX13_mayPull_31, rX13_mayPull_32, sh_69, hl, hvw9, Nat.reduceLT, Nat.reduceAdd, Nat.reduceMul, ne_eq, Nat.reduceEqDiff, not_false_eq_true, or_true, true_or, or_false, false_or, and_true, true_and, and_self, Nat.reduceLeDiff, am_ci, am_cr, am_cn0, Option.toList_some, Option.toList_none, List.cons_append, List.nil_append, am_s0, am_s1, am_s1r, am_s2, am_s2r, am_s3r, nI_add, am_u_ne, am_u_at, am_u_n1, am_u_n2, am_w_ne, c_staysWithin hR hN H hs, rX13_mayPull_35, bI_ne]
    by_cases hst : rSt σ (I 104) s = true
    · simp only [am_lv_of, hst, Bool.true_eq_false, not_false_eq_true, if_true, rX13_mayPull_40, rX13_mayPull_41, sh_69, hl, hvw9, Nat.reduceLT, Nat.reduceAdd, Nat.reduceMul, ne_eq, Nat.reduceEqDiff, not_false_eq_true, or_true, true_or, or_false, false_or, and_true, true_and, and_self, Nat.reduceLeDiff, am_ci, am_cr, am_cn0, Option.toList_some, Option.toList_none, List.cons_append, List.nil_append, am_s0, am_s1, am_s1r, am_s2, am_s2r, am_s3r, nI_add, am_u_ne, am_u_at, am_u_n1, am_u_n2, am_w_ne]
      refine c_looks hR hN hn H (fun I1 g1 v1 => ?_)
      have H1 := H.ag (ag1_2 (ag101 g1))
      have e104 := ag1_104 (ag101 g1)
      have e83 : I1 83 (7 * p_lv σ + s) = nI (p_ow σ s) := by rw [g1 83 _ (by omega)]; exact h1
      simp only [am_lv_of, rX13_mayPull_44, rX13_mayPull_45, rX13_mayPull_48, rX13_mayPull_49, rX13_mayPull_50, rX13_mayPull_51, rX13_mayPull_52, rX13_mayPull_55, rX13_mayPull_57, rX13_mayPull_58, rX13_mayPull_59, rX13_mayPull_60, rX13_mayPull_63, rX13_mayPull_65, rX13_mayPull_66, rX13_mayPull_69, rX13_mayPull_70, rX13_mayPull_73, rX13_mayPull_74, rX13_mayPull_75, rX13_mayPull_76, rX13_mayPull_77, rX13_mayPull_78, rX13_mayPull_79, rX13_mayPull_80, ro_69_1 hR, ro_69_3 hR, ro_69_5 hR, ro_69_6 hR, ro_69_7 hR, ro_69_8 hR, ro_69_9 hR, ro_69_21 hR, ro_69_22 hR, ro_69_23 hR, ro_69_24 hR, ro_69_25 hR, ro_69_26 hR, ro_69_27 hR, ro_69_28 hR, ro_69_29 hR, ro_69_30 hR, ro_69_31 hR, ro_69_32 hR, ro_69_33 hR, ro_69_34 hR, ro_69_35 hR, ro_69_36 hR, ro_69_38 hR, ro_69_39 hR, ro_69_40 hR, ro_69_41 hR, ro_69_42 hR, ro_69_44 hR, ro_69_45 hR, ro_69_46 hR, ro_69_48 hR, ro_69_49 hR, ro_69_51 hR, ro_69_52 hR, ro_69_55 hR, ro_69_56 hR, ro_69_57 hR, ro_69_58 hR, ro_69_59 hR, ro_69_61 hR, ro_69_62 hR, ro_69_63 hR, ro_69_64 hR, ro_69_65 hR, ro_69_66 hR, sh_69, sh_83, sh_101, sh_104, hl, hvw9, Nat.reduceLT, Nat.reduceAdd, Nat.reduceMul, ne_eq, Nat.reduceEqDiff, not_false_eq_true, or_true, true_or, or_false, false_or, and_true, true_and, and_self, Nat.reduceLeDiff, am_ci, am_cr, am_cn0, Option.toList_some, Option.toList_none, List.cons_append, List.nil_append, am_s0, am_s1, am_s1r, am_s2, am_s2r, am_s3r, nI_add, am_u_ne, am_u_at, am_u_n1, am_u_n2, am_w_ne, hn, h3, h4, e83, e104]
      have hag : am_ag (fun k _ => k = 101) I (am_u (am_u (am_u I1 101 4 side) 101 7 (nI s)) 101 8 (I 104 (p_ow σ s))) := ((g1.u rfl).u rfl).u rfl
      have H2 := H.ag (ag1_2 (ag101 hag))
      refine c_asks (k := 0) (lw := p_lw σ 0) (vars := vOrd σ (I 104) s side) hR hN hn H2.1 hl2 (by omega) (H2.2.2.2.2.2.2.2.2.2 0 (by omega)) (fun v hv => ?_) (fun I2 g2 => ?_)
      · unfold vOrd
        by_cases e8 : v = 8
        · subst e8; rw [if_pos rfl, am_u_at]
        · rw [if_neg e8, am_u_n2 e8]
          by_cases e7 : v = 7
          · subst e7; rw [if_pos rfl, am_u_at]
          · rw [if_neg e7, am_u_n2 e7]
            by_cases e4 : v = 4
            · subst e4; rw [if_pos rfl, am_u_at]
            · rw [if_neg e4, am_u_n2 e4]; exact v1 v hv
      · have hq := hQ I2 ((ag101 hag).trans (ag0_1 g2))
        have hm : rMay σ (I 104) s side = decide (0 < lawO (vOrd σ (I 104) s side) (nI 1) (p_lw σ 0)) := by
          unfold rMay
          rw [hst]
          rcases hsd with z | z <;> simp [z]
        rw [hm] at hq
        simp only [am_lv_of, Option.toList_some, List.cons_append, List.nil_append, rX13_mayPull_83]
        by_cases hp : 0 < lawO (vOrd σ (I 104) s side) (nI 1) (p_lw σ 0)
        · have hnp : ¬ lawO (vOrd σ (I 104) s side) (nI 1) (p_lw σ 0) ≤ 0 := Int32.not_le.mpr hp
          simp only [am_lv_of, if_neg hnp, rX13_mayPull_86, rX13_mayPull_87, rX13_mayPull_90, rX13_mayPull_91_1, hl, hvw9, Nat.reduceLT, Nat.reduceAdd, Nat.reduceMul, ne_eq, Nat.reduceEqDiff, not_false_eq_true, or_true, true_or, or_false, false_or, and_true, true_and, and_self, Nat.reduceLeDiff, am_ci, am_cr, am_cn0, Option.toList_some, Option.toList_none, List.cons_append, List.nil_append, am_s0, am_s1, am_s1r, am_s2, am_s2r, am_s3r, nI_add, am_u_ne, am_u_at, am_u_n1, am_u_n2, am_w_ne]
          simpa [hp, bI] using hq
        · have hnp : lawO (vOrd σ (I 104) s side) (nI 1) (p_lw σ 0) ≤ 0 := Int32.not_lt.mp hp
          simp only [am_lv_of, if_pos hnp, rX13_mayPull_86, rX13_mayPull_87, rX13_mayPull_90, rX13_mayPull_91_0, hl, hvw9, Nat.reduceLT, Nat.reduceAdd, Nat.reduceMul, ne_eq, Nat.reduceEqDiff, not_false_eq_true, or_true, true_or, or_false, false_or, and_true, true_and, and_self, Nat.reduceLeDiff, am_ci, am_cr, am_cn0, Option.toList_some, Option.toList_none, List.cons_append, List.nil_append, am_s0, am_s1, am_s1r, am_s2, am_s2r, am_s3r, nI_add, am_u_ne, am_u_at, am_u_n1, am_u_n2, am_w_ne]
          simpa [hp, bI] using hq
    · have hst : rSt σ (I 104) s = false := by simpa using hst
      simp only [hst, not_true_eq_false, if_false]
      exact no hsd hst
  simp only [am_lv_of, rX13_mayPull_0, rX13_mayPull_2, rX13_mayPull_3, rX13_mayPull_6, rX13_mayPull_7, rX13_mayPull_8, rX13_mayPull_9, rX13_mayPull_10, rX13_mayPull_11, rX13_mayPull_14, rX13_mayPull_15, rX13_mayPull_16, rX13_mayPull_17, ro_69_1 hR, ro_69_3 hR, ro_69_5 hR, ro_69_6 hR, ro_69_7 hR, ro_69_8 hR, ro_69_9 hR, ro_69_21 hR, ro_69_22 hR, ro_69_23 hR, ro_69_24 hR, ro_69_25 hR, ro_69_26 hR, ro_69_27 hR, ro_69_28 hR, ro_69_29 hR, ro_69_30 hR, ro_69_31 hR, ro_69_32 hR, ro_69_33 hR, ro_69_34 hR, ro_69_35 hR, ro_69_36 hR, ro_69_38 hR, ro_69_39 hR, ro_69_40 hR, ro_69_41 hR, ro_69_42 hR, ro_69_44 hR, ro_69_45 hR, ro_69_46 hR, ro_69_48 hR, ro_69_49 hR, ro_69_51 hR, ro_69_52 hR, ro_69_55 hR, ro_69_56 hR, ro_69_57 hR, ro_69_58 hR, ro_69_59 hR, ro_69_61 hR, ro_69_62 hR, ro_69_63 hR, ro_69_64 hR, ro_69_65 hR, ro_69_66 hR, sh_69, sh_84, hl, hvw9, Nat.reduceLT, Nat.reduceAdd, Nat.reduceMul, ne_eq, Nat.reduceEqDiff, not_false_eq_true, or_true, true_or, or_false, false_or, and_true, true_and, and_self, Nat.reduceLeDiff, am_ci, am_cr, am_cn0, Option.toList_some, Option.toList_none, List.cons_append, List.nil_append, am_s0, am_s1, am_s1r, am_s2, am_s2r, am_s3r, nI_add, am_u_ne, am_u_at, am_u_n1, am_u_n2, am_w_ne, hlv, pk_mul, h3, h6]
  by_cases c1 : p_sd σ s = nI 2
  · simp only [if_pos c1]
    exact yes (Or.inl c1)
  · simp only [am_lv_of, if_neg c1, rX13_mayPull_20, rX13_mayPull_21, rX13_mayPull_24, rX13_mayPull_25, rX13_mayPull_26, rX13_mayPull_27, ro_69_1 hR, ro_69_3 hR, ro_69_5 hR, ro_69_6 hR, ro_69_7 hR, ro_69_8 hR, ro_69_9 hR, ro_69_21 hR, ro_69_22 hR, ro_69_23 hR, ro_69_24 hR, ro_69_25 hR, ro_69_26 hR, ro_69_27 hR, ro_69_28 hR, ro_69_29 hR, ro_69_30 hR, ro_69_31 hR, ro_69_32 hR, ro_69_33 hR, ro_69_34 hR, ro_69_35 hR, ro_69_36 hR, ro_69_38 hR, ro_69_39 hR, ro_69_40 hR, ro_69_41 hR, ro_69_42 hR, ro_69_44 hR, ro_69_45 hR, ro_69_46 hR, ro_69_48 hR, ro_69_49 hR, ro_69_51 hR, ro_69_52 hR, ro_69_55 hR, ro_69_56 hR, ro_69_57 hR, ro_69_58 hR, ro_69_59 hR, ro_69_61 hR, ro_69_62 hR, ro_69_63 hR, ro_69_64 hR, ro_69_65 hR, ro_69_66 hR, sh_69, sh_84, hl, hvw9, Nat.reduceLT, Nat.reduceAdd, Nat.reduceMul, ne_eq, Nat.reduceEqDiff, not_false_eq_true, or_true, true_or, or_false, false_or, and_true, true_and, and_self, Nat.reduceLeDiff, am_ci, am_cr, am_cn0, Option.toList_some, Option.toList_none, List.cons_append, List.nil_append, am_s0, am_s1, am_s1r, am_s2, am_s2r, am_s3r, nI_add, am_u_ne, am_u_at, am_u_n1, am_u_n2, am_w_ne, h3, h6]
    by_cases c2 : p_sd σ s = side
    · simp only [c2, not_true_eq_false, if_false]
      exact yes (Or.inr c2)
    · simp only [am_lv_of, if_pos c2, rX13_mayPull_38, rX13_mayPull_39_0, hl, hvw9, Nat.reduceLT, Nat.reduceAdd, Nat.reduceMul, ne_eq, Nat.reduceEqDiff, not_false_eq_true, or_true, true_or, or_false, false_or, and_true, true_and, and_self, Nat.reduceLeDiff, am_ci, am_cr, am_cn0, Option.toList_some, Option.toList_none, List.cons_append, List.nil_append, am_s0, am_s1, am_s1r, am_s2, am_s2r, am_s3r, nI_add, am_u_ne, am_u_at, am_u_n1, am_u_n2, am_w_ne]
      have := hQ I am_ag.refl
      simpa [rMay, c1, c2, bI] using this
def rMayN (σ : rfP) (r : Nat → Int32) (s : Nat) : Bool := decide (r 17 = 0) && rMay σ r s (r 15)
theorem c_mayNow {s : Nat} (hR : am_OR R) (hN : 116 ≤ n) (hn : n ≤ 1000) (H : rf_S I σ) (hs : s < p_S σ) (hQ : ∀ I', am_ag sc1 I I' → Q (some (.int (bI (rMayN σ (I 104) s)))) (n, I', L, R)) : am_E X (d + 5) mX13_mayNow 0 [some (.ref 69), some (.int (nI s))] [] (n, I, L, R) Q := by
  have hl := am_lt hN
  have hvw9 := am_lw hN
  simp only [am_lv_of, rX13_mayNow_0, rX13_mayNow_1, rX13_mayNow_4, rX13_mayNow_6, rX13_mayNow_7, ro_69_1 hR, ro_69_3 hR, ro_69_5 hR, ro_69_6 hR, ro_69_7 hR, ro_69_8 hR, ro_69_9 hR, ro_69_21 hR, ro_69_22 hR, ro_69_23 hR, ro_69_24 hR, ro_69_25 hR, ro_69_26 hR, ro_69_27 hR, ro_69_28 hR, ro_69_29 hR, ro_69_30 hR, ro_69_31 hR, ro_69_32 hR, ro_69_33 hR, ro_69_34 hR, ro_69_35 hR, ro_69_36 hR, ro_69_38 hR, ro_69_39 hR, ro_69_40 hR, ro_69_41 hR, ro_69_42 hR, ro_69_44 hR, ro_69_45 hR, ro_69_46 hR, ro_69_48 hR, ro_69_49 hR, ro_69_51 hR, ro_69_52 hR, ro_69_55 hR, ro_69_56 hR, ro_69_57 hR, ro_69_58 hR, ro_69_59 hR, ro_69_61 hR, ro_69_62 hR, ro_69_63 hR, ro_69_64 hR, ro_69_65 hR, ro_69_66 hR, sh_69, sh_104, hl, hvw9, Nat.reduceLT, Nat.reduceAdd, Nat.reduceMul, ne_eq, Nat.reduceEqDiff, not_false_eq_true, or_true, true_or, or_false, false_or, and_true, true_and, and_self, Nat.reduceLeDiff, am_ci, am_cr, am_cn0, Option.toList_some, Option.toList_none, List.cons_append, List.nil_append, am_s0, am_s1, am_s1r, am_s2, am_s2r, am_s3r, nI_add, am_u_ne, am_u_at, am_u_n1, am_u_n2, am_w_ne]
  by_cases h0 : I 104 17 = 0
  · simp only [am_lv_of, h0, not_true_eq_false, if_false, rX13_mayNow_10, rX13_mayNow_11, rX13_mayNow_12, rX13_mayNow_13, rX13_mayNow_16, rX13_mayNow_18, rX13_mayNow_19, ro_69_1 hR, ro_69_3 hR, ro_69_5 hR, ro_69_6 hR, ro_69_7 hR, ro_69_8 hR, ro_69_9 hR, ro_69_21 hR, ro_69_22 hR, ro_69_23 hR, ro_69_24 hR, ro_69_25 hR, ro_69_26 hR, ro_69_27 hR, ro_69_28 hR, ro_69_29 hR, ro_69_30 hR, ro_69_31 hR, ro_69_32 hR, ro_69_33 hR, ro_69_34 hR, ro_69_35 hR, ro_69_36 hR, ro_69_38 hR, ro_69_39 hR, ro_69_40 hR, ro_69_41 hR, ro_69_42 hR, ro_69_44 hR, ro_69_45 hR, ro_69_46 hR, ro_69_48 hR, ro_69_49 hR, ro_69_51 hR, ro_69_52 hR, ro_69_55 hR, ro_69_56 hR, ro_69_57 hR, ro_69_58 hR, ro_69_59 hR, ro_69_61 hR, ro_69_62 hR, ro_69_63 hR, ro_69_64 hR, ro_69_65 hR, ro_69_66 hR, sh_69, sh_104, hl, hvw9, Nat.reduceLT, Nat.reduceAdd, Nat.reduceMul, ne_eq, Nat.reduceEqDiff, not_false_eq_true, or_true, true_or, or_false, false_or, and_true, true_and, and_self, Nat.reduceLeDiff, am_ci, am_cr, am_cn0, Option.toList_some, Option.toList_none, List.cons_append, List.nil_append, am_s0, am_s1, am_s1r, am_s2, am_s2r, am_s3r, nI_add, am_u_ne, am_u_at, am_u_n1, am_u_n2, am_w_ne]
    refine c_mayPull hR hN hn H hs (fun I' g => ?_)
    have hq := hQ I' g
    simp only [am_lv_of, Option.toList_some, List.cons_append, List.nil_append, rX13_mayNow_22, bI_ne]
    by_cases hm : rMay σ (I 104) s (I 104 15) = true
    · simp only [am_lv_of, hm, Bool.true_eq_false, if_false, rX13_mayNow_25, rX13_mayNow_26, rX13_mayNow_29, rX13_mayNow_30_1, hl, hvw9, Nat.reduceLT, Nat.reduceAdd, Nat.reduceMul, ne_eq, Nat.reduceEqDiff, not_false_eq_true, or_true, true_or, or_false, false_or, and_true, true_and, and_self, Nat.reduceLeDiff, am_ci, am_cr, am_cn0, Option.toList_some, Option.toList_none, List.cons_append, List.nil_append, am_s0, am_s1, am_s1r, am_s2, am_s2r, am_s3r, nI_add, am_u_ne, am_u_at, am_u_n1, am_u_n2, am_w_ne]
      simpa [rMayN, h0, hm, bI] using hq
    · have hm : rMay σ (I 104) s (I 104 15) = false := by simpa using hm
      simp only [am_lv_of, hm, if_true, rX13_mayNow_25, rX13_mayNow_26, rX13_mayNow_29, rX13_mayNow_30_0, hl, hvw9, Nat.reduceLT, Nat.reduceAdd, Nat.reduceMul, ne_eq, Nat.reduceEqDiff, not_false_eq_true, or_true, true_or, or_false, false_or, and_true, true_and, and_self, Nat.reduceLeDiff, am_ci, am_cr, am_cn0, Option.toList_some, Option.toList_none, List.cons_append, List.nil_append, am_s0, am_s1, am_s1r, am_s2, am_s2r, am_s3r, nI_add, am_u_ne, am_u_at, am_u_n1, am_u_n2, am_w_ne]
      simpa [rMayN, h0, hm, bI] using hq
  · simp only [am_lv_of, if_pos h0, rX13_mayNow_25, rX13_mayNow_26, rX13_mayNow_29, rX13_mayNow_30_0, hl, hvw9, Nat.reduceLT, Nat.reduceAdd, Nat.reduceMul, ne_eq, Nat.reduceEqDiff, not_false_eq_true, or_true, true_or, or_false, false_or, and_true, true_and, and_self, Nat.reduceLeDiff, am_ci, am_cr, am_cn0, Option.toList_some, Option.toList_none, List.cons_append, List.nil_append, am_s0, am_s1, am_s1r, am_s2, am_s2r, am_s3r, nI_add, am_u_ne, am_u_at, am_u_n1, am_u_n2, am_w_ne]
    have hq := hQ I am_ag.refl
    simpa [rMayN, h0, bI] using hq
theorem c_verdictNow (hR : am_OR R) (hN : 116 ≤ n) (hn : n ≤ 1000) (H : rf_S I σ) (hQ : ∀ I', am_ag sc1 I I' → Q (some (.int (rVerd σ (I 104)))) (n, I', L, R)) : am_E X (d + 4) mX13_verdictNow 0 [some (.ref 69), none] [] (n, I, L, R) Q := by
  have hl := am_lt hN
  have hvw9 := am_lw hN
  simp only [am_lv_of, rX13_verdictNow_0, rX13_verdictNow_1, sh_69, hl, hvw9, Nat.reduceLT, Nat.reduceAdd, Nat.reduceMul, ne_eq, Nat.reduceEqDiff, not_false_eq_true, or_true, true_or, or_false, false_or, and_true, true_and, and_self, Nat.reduceLeDiff, am_ci, am_cr, am_cn0, Option.toList_some, Option.toList_none, List.cons_append, List.nil_append, am_s0, am_s1, am_s1r, am_s2, am_s2r, am_s3r, nI_add, am_u_ne, am_u_at, am_u_n1, am_u_n2, am_w_ne]
  refine c_looks hR hN hn H (fun I1 g1 v1 => ?_)
  have H1 := H.ag (ag1_2 (ag101 g1))
  simp only [am_lv_of, rX13_verdictNow_4, rX13_verdictNow_5, rX13_verdictNow_6, rX13_verdictNow_7, sh_69, hl, hvw9, Nat.reduceLT, Nat.reduceAdd, Nat.reduceMul, ne_eq, Nat.reduceEqDiff, not_false_eq_true, or_true, true_or, or_false, false_or, and_true, true_and, and_self, Nat.reduceLeDiff, am_ci, am_cr, am_cn0, Option.toList_some, Option.toList_none, List.cons_append, List.nil_append, am_s0, am_s1, am_s1r, am_s2, am_s2r, am_s3r, nI_add, am_u_ne, am_u_at, am_u_n1, am_u_n2, am_w_ne]
  refine c_asks (k := 1) (lw := p_lw σ 1) (vars := rV (I 104) (p_P σ)) hR hN hn H1.1 H1.2.1 (by omega) (H1.2.2.2.2.2.2.2.2.2 1 (by omega)) v1 (fun I2 g2 => ?_)
  have hq := hQ I2 ((ag101 g1).trans (ag0_1 g2))
  unfold rVerd rVd at hq
  have d3 : ¬ nI 3 = 0 := by decide
  simp only [am_lv_of, Option.toList_some, List.cons_append, List.nil_append, rX13_verdictNow_10, rX13_verdictNow_11, rX13_verdictNow_12, hl, hvw9, Nat.reduceLT, Nat.reduceAdd, Nat.reduceMul, ne_eq, Nat.reduceEqDiff, not_false_eq_true, or_true, true_or, or_false, false_or, and_true, true_and, and_self, Nat.reduceLeDiff, am_ci, am_cr, am_cn0, Option.toList_some, Option.toList_none, List.cons_append, List.nil_append, am_s0, am_s1, am_s1r, am_s2, am_s2r, am_s3r, nI_add, am_u_ne, am_u_at, am_u_n1, am_u_n2, am_w_ne]
  by_cases hp : 0 ≤ lawO (rV (I 104) (p_P σ)) (nI 0) (p_lw σ 1)
  · rw [if_pos hp] at hq
    simp only [am_lv_of, if_pos hp, rX13_verdictNow_19, rX13_verdictNow_20, rX13_verdictNow_21, rX13_verdictNow_22, hl, hvw9, Nat.reduceLT, Nat.reduceAdd, Nat.reduceMul, ne_eq, Nat.reduceEqDiff, not_false_eq_true, or_true, true_or, or_false, false_or, and_true, true_and, and_self, Nat.reduceLeDiff, am_ci, am_cr, am_cn0, Option.toList_some, Option.toList_none, List.cons_append, List.nil_append, am_s0, am_s1, am_s1r, am_s2, am_s2r, am_s3r, nI_add, am_u_ne, am_u_at, am_u_n1, am_u_n2, am_w_ne, d3]
    exact hq
  · rw [if_neg hp] at hq
    simp only [am_lv_of, if_neg hp, rX13_verdictNow_15, rX13_verdictNow_16, rX13_verdictNow_19, rX13_verdictNow_20, rX13_verdictNow_21, rX13_verdictNow_22, hl, hvw9, Nat.reduceLT, Nat.reduceAdd, Nat.reduceMul, ne_eq, Nat.reduceEqDiff, not_false_eq_true, or_true, true_or, or_false, false_or, and_true, true_and, and_self, Nat.reduceLeDiff, am_ci, am_cr, am_cn0, Option.toList_some, Option.toList_none, List.cons_append, List.nil_append, am_s0, am_s1, am_s1r, am_s2, am_s2r, am_s3r, nI_add, am_u_ne, am_u_at, am_u_n1, am_u_n2, am_w_ne]
    exact hq
theorem c_moves {s : Nat} (hR : am_OR R) (hN : 116 ≤ n) (hn : n ≤ 1000) (H : rf_S I σ) (hs : s < p_S σ) (hQ : ∀ I', am_ag (fun k _ => k = 104) I I' → I' 104 = rMv σ (I 104) s → Q none (n, I', L, R)) : am_E X (d + 1) mX13_moves 0 [some (.ref 69), some (.int (nI s)), none, none] [] (n, I, L, R) Q := by
  have hl := am_lt hN
  have hvw9 := am_lw hN
  obtain ⟨hlv, hl2, -, hP5, -, hS7, -, -, how, hlw⟩ := id H
  obtain ⟨h1, h2, h5, h6, h7⟩ := how s hs
  have h3 : 7 * p_lv σ + s < 14 := by omega
  have h4 : p_ow σ s < 68 := by omega
  have h8 : 5 + p_ow σ s < 68 := by omega
  have h9 : 10 + p_ow σ s < 68 := by omega
  have n1 : ¬ 5 + p_ow σ s = p_ow σ s := by omega
  have n2 : ¬ 10 + p_ow σ s = p_ow σ s := by omega
  have n3 : ¬ 10 + p_ow σ s = 5 + p_ow σ s := by omega
  simp only [am_lv_of, rX13_moves_0, rX13_moves_2, rX13_moves_3, rX13_moves_6, rX13_moves_7, rX13_moves_8, rX13_moves_9, rX13_moves_10, rX13_moves_11, rX13_moves_14, rX13_moves_15, rX13_moves_16, rX13_moves_17, rX13_moves_18, rX13_moves_21, rX13_moves_22, rX13_moves_23, rX13_moves_24, ro_69_1 hR, ro_69_3 hR, ro_69_5 hR, ro_69_6 hR, ro_69_7 hR, ro_69_8 hR, ro_69_9 hR, ro_69_21 hR, ro_69_22 hR, ro_69_23 hR, ro_69_24 hR, ro_69_25 hR, ro_69_26 hR, ro_69_27 hR, ro_69_28 hR, ro_69_29 hR, ro_69_30 hR, ro_69_31 hR, ro_69_32 hR, ro_69_33 hR, ro_69_34 hR, ro_69_35 hR, ro_69_36 hR, ro_69_38 hR, ro_69_39 hR, ro_69_40 hR, ro_69_41 hR, ro_69_42 hR, ro_69_44 hR, ro_69_45 hR, ro_69_46 hR, ro_69_48 hR, ro_69_49 hR, ro_69_51 hR, ro_69_52 hR, ro_69_55 hR, ro_69_56 hR, ro_69_57 hR, ro_69_58 hR, ro_69_59 hR, ro_69_61 hR, ro_69_62 hR, ro_69_63 hR, ro_69_64 hR, ro_69_65 hR, ro_69_66 hR, sh_69, sh_83, sh_104, hl, hvw9, Nat.reduceLT, Nat.reduceAdd, Nat.reduceMul, ne_eq, Nat.reduceEqDiff, not_false_eq_true, or_true, true_or, or_false, false_or, and_true, true_and, and_self, Nat.reduceLeDiff, am_ci, am_cr, am_cn0, Option.toList_some, Option.toList_none, List.cons_append, List.nil_append, am_s0, am_s1, am_s1r, am_s2, am_s2r, am_s3r, nI_add, am_u_ne, am_u_at, am_u_n1, am_u_n2, am_w_ne, hlv, pk_mul, h1, h3, h4, c_goesTo hR hN H hs]
  simp only [am_lv_of, rX13_moves_27, rX13_moves_28, rX13_moves_29, rX13_moves_32, rX13_moves_33, rX13_moves_34, rX13_moves_35, rX13_moves_36, rX13_moves_37, rX13_moves_38, rX13_moves_41, rX13_moves_42, rX13_moves_43, rX13_moves_44, rX13_moves_45, rX13_moves_46, rX13_moves_47, rX13_moves_48, rX13_moves_51, rX13_moves_53, rX13_moves_54, rX13_moves_55, rX13_moves_56, rX13_moves_57, rX13_moves_58, rX13_moves_61, rX13_moves_62, rX13_moves_63, rX13_moves_64, rX13_moves_65, rX13_moves_66, rX13_moves_67, ro_69_1 hR, ro_69_3 hR, ro_69_5 hR, ro_69_6 hR, ro_69_7 hR, ro_69_8 hR, ro_69_9 hR, ro_69_21 hR, ro_69_22 hR, ro_69_23 hR, ro_69_24 hR, ro_69_25 hR, ro_69_26 hR, ro_69_27 hR, ro_69_28 hR, ro_69_29 hR, ro_69_30 hR, ro_69_31 hR, ro_69_32 hR, ro_69_33 hR, ro_69_34 hR, ro_69_35 hR, ro_69_36 hR, ro_69_38 hR, ro_69_39 hR, ro_69_40 hR, ro_69_41 hR, ro_69_42 hR, ro_69_44 hR, ro_69_45 hR, ro_69_46 hR, ro_69_48 hR, ro_69_49 hR, ro_69_51 hR, ro_69_52 hR, ro_69_55 hR, ro_69_56 hR, ro_69_57 hR, ro_69_58 hR, ro_69_59 hR, ro_69_61 hR, ro_69_62 hR, ro_69_63 hR, ro_69_64 hR, ro_69_65 hR, ro_69_66 hR, sh_69, sh_83, sh_86, sh_104, hl, hvw9, Nat.reduceLT, Nat.reduceAdd, Nat.reduceMul, ne_eq, Nat.reduceEqDiff, not_false_eq_true, or_true, true_or, or_false, false_or, and_true, true_and, and_self, Nat.reduceLeDiff, am_ci, am_cr, am_cn0, Option.toList_some, Option.toList_none, List.cons_append, List.nil_append, am_s0, am_s1, am_s1r, am_s2, am_s2r, am_s3r, nI_add, am_u_ne, am_u_at, am_u_n1, am_u_n2, am_w_ne, hn, h3, h4, h8, h9, h7, am_u_n2 n1, am_u_n2 n2, am_u_n2 n3]
  refine hQ _ (by repeat (first | exact am_ag.refl | refine am_ag.u ?_ rfl)) ?_
  funext j
  simp only [am_u, upd, rMv, if_true]
theorem c_turnEnds (hR : am_OR R) (hN : 116 ≤ n) (hn : n ≤ 1000) (H : rf_S I σ) (hQ : ∀ I', am_ag sc2 I I' → I' 104 = rEnd σ (I 104) → I' 69 53 = I 69 53 → Q none (n, I', L, R)) : am_E X (d + 5) mX13_turnEnds 0 [some (.ref 69)] [] (n, I, L, R) Q := by
  have hl := am_lt hN
  have hvw9 := am_lw hN
  simp only [am_lv_of, rX13_turnEnds_0, rX13_turnEnds_1, rX13_turnEnds_4, rX13_turnEnds_6, rX13_turnEnds_7, rX13_turnEnds_8, rX13_turnEnds_11, rX13_turnEnds_13, rX13_turnEnds_14, rX13_turnEnds_15, rX13_turnEnds_16, rX13_turnEnds_17, rX13_turnEnds_20, rX13_turnEnds_22, rX13_turnEnds_23, rX13_turnEnds_24, rX13_turnEnds_25, rX13_turnEnds_26, rX13_turnEnds_27, rX13_turnEnds_28, rX13_turnEnds_31, rX13_turnEnds_33, rX13_turnEnds_34, ro_69_1 hR, ro_69_3 hR, ro_69_5 hR, ro_69_6 hR, ro_69_7 hR, ro_69_8 hR, ro_69_9 hR, ro_69_21 hR, ro_69_22 hR, ro_69_23 hR, ro_69_24 hR, ro_69_25 hR, ro_69_26 hR, ro_69_27 hR, ro_69_28 hR, ro_69_29 hR, ro_69_30 hR, ro_69_31 hR, ro_69_32 hR, ro_69_33 hR, ro_69_34 hR, ro_69_35 hR, ro_69_36 hR, ro_69_38 hR, ro_69_39 hR, ro_69_40 hR, ro_69_41 hR, ro_69_42 hR, ro_69_44 hR, ro_69_45 hR, ro_69_46 hR, ro_69_48 hR, ro_69_49 hR, ro_69_51 hR, ro_69_52 hR, ro_69_55 hR, ro_69_56 hR, ro_69_57 hR, ro_69_58 hR, ro_69_59 hR, ro_69_61 hR, ro_69_62 hR, ro_69_63 hR, ro_69_64 hR, ro_69_65 hR, ro_69_66 hR, sh_69, sh_104, hl, hvw9, Nat.reduceLT, Nat.reduceAdd, Nat.reduceMul, ne_eq, Nat.reduceEqDiff, not_false_eq_true, or_true, true_or, or_false, false_or, and_true, true_and, and_self, Nat.reduceLeDiff, am_ci, am_cr, am_cn0, Option.toList_some, Option.toList_none, List.cons_append, List.nil_append, am_s0, am_s1, am_s1r, am_s2, am_s2r, am_s3r, nI_add, am_u_ne, am_u_at, am_u_n1, am_u_n2, am_w_ne, hn]
  have hag : am_ag sc2 I (am_u (am_u I 104 15 (nI 1 - I 104 15)) 104 16 (I 104 16 + nI 1)) := (am_ag.refl.u (Or.inr (Or.inl rfl))).u (Or.inr (Or.inl rfl))
  have e104 : (am_u (am_u I 104 15 (nI 1 - I 104 15)) 104 16 (I 104 16 + nI 1)) 104 = rEn0 (I 104) := by
    funext j
    simp only [am_u, upd, rEn0, if_true]
  refine c_verdictNow hR hN hn (H.ag hag) (fun I1 g1 => ?_)
  rw [e104]
  simp only [am_lv_of, Option.toList_some, List.cons_append, List.nil_append, rX13_turnEnds_37, rX13_turnEnds_38, sh_104, hl, hvw9, Nat.reduceLT, Nat.reduceAdd, Nat.reduceMul, ne_eq, Nat.reduceEqDiff, not_false_eq_true, or_true, true_or, or_false, false_or, and_true, true_and, and_self, Nat.reduceLeDiff, am_ci, am_cr, am_cn0, Option.toList_some, Option.toList_none, List.cons_append, List.nil_append, am_s0, am_s1, am_s1r, am_s2, am_s2r, am_s3r, nI_add, am_u_ne, am_u_at, am_u_n1, am_u_n2, am_w_ne, hn]
  refine hQ _ ((hag.trans (ag1_2 g1)).u (Or.inr (Or.inl rfl))) ?_ ?_
  · funext j
    have e1 := congrFun (ag1_104 g1) j
    rw [e104] at e1
    simp only [am_u, upd, rEnd, if_true]
    rw [e1]
  · rw [am_u_n1 (by omega), g1 69 53 (fun z => by rcases z with z | z | z <;> omega), am_u_n1 (by omega), am_u_n1 (by omega)]
def rPl (σ : rfP) (r : Nat → Int32) (s : Nat) : Nat → Int32 := rEnd σ (rMv σ r s)
theorem c_plays {s : Nat} (hR : am_OR R) (hN : 116 ≤ n) (hn : n ≤ 1000) (H : rf_S I σ) (hs : s < p_S σ) (hQ : ∀ I', am_ag sc2 I I' → I' 104 = rPl σ (I 104) s → I' 69 53 = I 69 53 → Q none (n, I', L, R)) : am_E X (d + 6) mX13_plays 0 [some (.ref 69), some (.int (nI s))] [] (n, I, L, R) Q := by
  have hl := am_lt hN
  have hvw9 := am_lw hN
  simp only [am_lv_of, rX13_plays_0, rX13_plays_1, rX13_plays_2, sh_69, hl, hvw9, Nat.reduceLT, Nat.reduceAdd, Nat.reduceMul, ne_eq, Nat.reduceEqDiff, not_false_eq_true, or_true, true_or, or_false, false_or, and_true, true_and, and_self, Nat.reduceLeDiff, am_ci, am_cr, am_cn0, Option.toList_some, Option.toList_none, List.cons_append, List.nil_append, am_s0, am_s1, am_s1r, am_s2, am_s2r, am_s3r, nI_add, am_u_ne, am_u_at, am_u_n1, am_u_n2, am_w_ne]
  refine c_moves hR hN hn H hs (fun I1 g1 e1 => ?_)
  have g1' : am_ag sc2 I I1 := g1.mono (fun k j z => Or.inr (Or.inl z))
  simp only [am_lv_of, rX13_plays_5, rX13_plays_6, sh_69, hl, hvw9, Nat.reduceLT, Nat.reduceAdd, Nat.reduceMul, ne_eq, Nat.reduceEqDiff, not_false_eq_true, or_true, true_or, or_false, false_or, and_true, true_and, and_self, Nat.reduceLeDiff, am_ci, am_cr, am_cn0, Option.toList_some, Option.toList_none, List.cons_append, List.nil_append, am_s0, am_s1, am_s1r, am_s2, am_s2r, am_s3r, nI_add, am_u_ne, am_u_at, am_u_n1, am_u_n2, am_w_ne]
  refine c_turnEnds hR hN hn (H.ag g1') (fun I2 g2 e2 l2 => ?_)
  simp only [am_lv_of, rX13_plays_9, hl, hvw9, Nat.reduceLT, Nat.reduceAdd, Nat.reduceMul, ne_eq, Nat.reduceEqDiff, not_false_eq_true, or_true, true_or, or_false, false_or, and_true, true_and, and_self, Nat.reduceLeDiff, am_ci, am_cr, am_cn0, Option.toList_some, Option.toList_none, List.cons_append, List.nil_append, am_s0, am_s1, am_s1r, am_s2, am_s2r, am_s3r, nI_add, am_u_ne, am_u_at, am_u_n1, am_u_n2, am_w_ne]
  exact hQ I2 (g1'.trans g2) (by rw [e2, e1]; rfl) (by rw [l2, g1 69 53 (by omega)])
end RFE
