--! 34
/-! THE REFERENCE: what the laws are told -/
/-- the reference's script: live, puppets, strings, children; of a string: puppet, how far, side, turns; the laws -/
abbrev rfP : Type := Nat × Nat × Nat × Nat × (Nat → Nat) × (Nat → Int32) × (Nat → Int32) × (Nat → Int32) × (Nat → Option (lawB × pfx))
def p_lv (σ : rfP) : Nat := σ.1
def p_P (σ : rfP) : Nat := σ.2.1
def p_S (σ : rfP) : Nat := σ.2.2.1
def p_C (σ : rfP) : Nat := σ.2.2.2.1
def p_ow (σ : rfP) : Nat → Nat := σ.2.2.2.2.1
def p_far (σ : rfP) : Nat → Int32 := σ.2.2.2.2.2.1
def p_sd (σ : rfP) : Nat → Int32 := σ.2.2.2.2.2.2.1
def p_trn (σ : rfP) : Nat → Int32 := σ.2.2.2.2.2.2.2.1
def p_lw (σ : rfP) : Nat → Option (lawB × pfx) := σ.2.2.2.2.2.2.2.2
def rf_S (I : Nat → Nat → Int32) (σ : rfP) : Prop := I 69 18 = nI (p_lv σ) ∧ p_lv σ < 2 ∧ I 79 (p_lv σ) = nI (p_P σ) ∧ p_P σ ≤ 5 ∧ I 82 (p_lv σ) = nI (p_S σ) ∧ p_S σ ≤ 7 ∧ I 87 (p_lv σ) = nI (p_C σ) ∧ p_C σ ≤ 7 ∧ (∀ s, s < p_S σ → (I 83 (7 * p_lv σ + s) = nI (p_ow σ s) ∧ p_ow σ s < p_P σ ∧ I 85 (7 * p_lv σ + s) = p_far σ s ∧ I 84 (7 * p_lv σ + s) = p_sd σ s ∧ I 86 (7 * p_lv σ + s) = p_trn σ s)) ∧ ∀ k, k < 3 → rf_law I (3 * p_lv σ + k) (p_lw σ k)
theorem rf_law.mv {I I' : Nat → Nat → Int32} {a : Nat} {lw : Option (lawB × pfx)} (h : rf_law I a lw) (hl : am_law I I') : rf_law I' a lw := by
  cases lw with
  | none =>
    show I' 91 a = I' 92 a
    rw [hl 91 _ (by omega), hl 92 _ (by omega)]
    exact h
  | some q =>
    obtain ⟨f, h1, h2, h3, h4⟩ := h
    exact ⟨f, h1, by rw [hl 91 _ (by omega)]; exact h2, by rw [hl 92 _ (by omega)]; exact h3, fun J g => h4 J (fun k j hk => (g k j hk).trans (hl k j (by omega)))⟩
theorem rf_S.ag {I I' : Nat → Nat → Int32} {σ : rfP} (h : rf_S I σ) (ha : am_ag sc2 I I') : rf_S I' σ := by
  have e : ∀ k j, k ≠ 101 → k ≠ 102 → k ≠ 104 → ¬ (k = 69 ∧ j = 50) → ¬ (k = 69 ∧ j = 53) → I' k j = I k j := fun k j h1 h2 h3 h4 h5 => ha k j (fun z => by
    rcases z with (z | z | z) | z | z
    · exact h1 z
    · exact h2 z
    · exact h4 z
    · exact h3 z
    · exact h5 z)
  obtain ⟨h1, h2, h3, h4, h5, h6, h7, h8, h9, h10⟩ := h
  refine ⟨by rw [e _ _ (by omega) (by omega) (by omega) (by omega) (by omega)]; exact h1, h2, by rw [e _ _ (by omega) (by omega) (by omega) (by omega) (by omega)]; exact h3, h4, by rw [e _ _ (by omega) (by omega) (by omega) (by omega) (by omega)]; exact h5, h6, by rw [e _ _ (by omega) (by omega) (by omega) (by omega) (by omega)]; exact h7, h8, fun s hs => ?_, fun k hk => (h10 k hk).mv ha.law⟩
  rw [e 83 _ (by omega) (by omega) (by omega) (by omega) (by omega), e 84 _ (by omega) (by omega) (by omega) (by omega) (by omega), e 85 _ (by omega) (by omega) (by omega) (by omega) (by omega), e 86 _ (by omega) (by omega) (by omega) (by omega) (by omega)]
  exact h9 s hs
def isN (P : Nat) (p : Int32) : Bool := decide (0 ≤ p) && decide (p < nI P)
theorem isN_of {P : Nat} (hP : P ≤ 1000) (p : Int32) : (decide (nI 0 ≤ p) && decide (p ≤ nI P - nI 1)) = isN P p := by
  unfold isN
  congr 1
  have h1 : (nI P - nI 1).toInt = (P : Int) - 1 := pk_sub_toInt (by omega) (by omega)
  have h2 : (nI P).toInt = (P : Int) := nI_toInt (by omega)
  by_cases h : p < nI P
  · have h3 := Int32.lt_iff_toInt_lt.mp h
    have : p ≤ nI P - nI 1 := Int32.le_iff_toInt_le.mpr (by omega)
    simp [h, this]
  · have h3 : ¬ p.toInt < (nI P).toInt := fun z => h (Int32.lt_iff_toInt_lt.mpr z)
    have : ¬ p ≤ nI P - nI 1 := fun z => by
      have := Int32.le_iff_toInt_le.mp z
      omega
    simp [h, this]
theorem isN_iff {P : Nat} (hP : P ≤ 1000) {p : Int32} : isN P p = true ↔ ∃ q, q < P ∧ p = nI q := by
  unfold isN
  rw [Bool.and_eq_true, decide_eq_true_eq, decide_eq_true_eq]
  constructor
  · rintro ⟨h1, h2⟩
    obtain ⟨j, hj, rfl⟩ := nI_of (x := p) (fun z => by
      have a1 := Int32.lt_iff_toInt_lt.mp z
      have a2 := Int32.le_iff_toInt_le.mp h1
      omega)
    exact ⟨j, (nI_ltI hj (by omega)).mp h2, rfl⟩
  · rintro ⟨q, hq, rfl⟩
    exact ⟨nI_pos' (by omega), nI_lt hq (by omega)⟩
theorem isN_nI {P q : Nat} (hP : P ≤ 1000) (hq : q ≤ 1000) : isN P (nI q) = decide (q < P) := by
  by_cases h : q < P
  · rw [decide_eq_true h]; exact (isN_iff hP).mpr ⟨q, h, rfl⟩
  · rw [decide_eq_false h]
    cases hh : isN P (nI q) with
    | false => rfl
    | true =>
      obtain ⟨a, ha, he⟩ := (isN_iff hP).mp hh
      have := (nI_eq (by omega) (by omega)).mp he
      omega
theorem bI_ne {b : Bool} : (bI b = 0) ↔ b = false := by cases b <;> decide
theorem nb_b (b : Bool) : narrow .boolean (.int (bI b)) = .int (bI b) := by cases b <;> rfl
section RFB
variable {X : am_X} {d n : Nat} {I : Nat → Nat → Int32} {L : Nat → Nat → Int64} {R : Nat → Nat → Option Nat} {Q : Option Value → am_M → Prop} {σ : rfP}
theorem c_isPuppet {p : Int32} (hR : am_OR R) (hN : 116 ≤ n) (H : rf_S I σ) : am_E X (d + 1) mX13_isPuppet 0 [some (.ref 69), some (.int p)] [] (n, I, L, R) Q ↔ Q (some (.int (bI (isN (p_P σ) p)))) (n, I, L, R) := by
  obtain ⟨hlv, hl2, hP, hP5, -⟩ := H
  have hl := am_lt hN
  have hvw9 := am_lw hN
  simp only [hvw9, am_lv_of, rX13_isPuppet_0, rX13_isPuppet_1, rX13_isPuppet_2, rX13_isPuppet_3, rX13_isPuppet_6, rX13_isPuppet_7, rX13_isPuppet_10, rX13_isPuppet_11, rX13_isPuppet_12, rX13_isPuppet_13, ro_69_1 hR, ro_69_3 hR, ro_69_5 hR, ro_69_6 hR, ro_69_7 hR, ro_69_8 hR, ro_69_9 hR, ro_69_21 hR, ro_69_22 hR, ro_69_23 hR, ro_69_24 hR, ro_69_25 hR, ro_69_26 hR, ro_69_27 hR, ro_69_28 hR, ro_69_29 hR, ro_69_30 hR, ro_69_31 hR, ro_69_32 hR, ro_69_33 hR, ro_69_34 hR, ro_69_35 hR, ro_69_36 hR, ro_69_38 hR, ro_69_39 hR, ro_69_40 hR, ro_69_41 hR, ro_69_42 hR, ro_69_44 hR, ro_69_45 hR, ro_69_46 hR, ro_69_48 hR, ro_69_49 hR, ro_69_51 hR, ro_69_52 hR, ro_69_55 hR, ro_69_56 hR, ro_69_57 hR, ro_69_58 hR, ro_69_59 hR, ro_69_61 hR, ro_69_62 hR, ro_69_63 hR, ro_69_64 hR, ro_69_65 hR, ro_69_66 hR, hl, sh_69, sh_79, hlv, hP, hl2, Nat.reduceLT, am_s0, c_in, Option.toList_some, List.cons_append, List.nil_append, isN_of (show p_P σ ≤ 1000 by omega)]
  rw [rX13_isPuppet_16 (nb_b _)]
theorem c_isString {p : Int32} (hR : am_OR R) (hN : 116 ≤ n) (H : rf_S I σ) : am_E X (d + 1) mX13_isString 0 [some (.ref 69), some (.int p)] [] (n, I, L, R) Q ↔ Q (some (.int (bI (isN (p_S σ) p)))) (n, I, L, R) := by
  obtain ⟨hlv, hl2, -, -, hP, hP5, -⟩ := H
  have hl := am_lt hN
  have hvw9 := am_lw hN
  simp only [hvw9, am_lv_of, rX13_isString_0, rX13_isString_1, rX13_isString_2, rX13_isString_3, rX13_isString_6, rX13_isString_7, rX13_isString_10, rX13_isString_11, rX13_isString_12, rX13_isString_13, ro_69_1 hR, ro_69_3 hR, ro_69_5 hR, ro_69_6 hR, ro_69_7 hR, ro_69_8 hR, ro_69_9 hR, ro_69_21 hR, ro_69_22 hR, ro_69_23 hR, ro_69_24 hR, ro_69_25 hR, ro_69_26 hR, ro_69_27 hR, ro_69_28 hR, ro_69_29 hR, ro_69_30 hR, ro_69_31 hR, ro_69_32 hR, ro_69_33 hR, ro_69_34 hR, ro_69_35 hR, ro_69_36 hR, ro_69_38 hR, ro_69_39 hR, ro_69_40 hR, ro_69_41 hR, ro_69_42 hR, ro_69_44 hR, ro_69_45 hR, ro_69_46 hR, ro_69_48 hR, ro_69_49 hR, ro_69_51 hR, ro_69_52 hR, ro_69_55 hR, ro_69_56 hR, ro_69_57 hR, ro_69_58 hR, ro_69_59 hR, ro_69_61 hR, ro_69_62 hR, ro_69_63 hR, ro_69_64 hR, ro_69_65 hR, ro_69_66 hR, hl, sh_69, sh_82, hlv, hP, hl2, Nat.reduceLT, am_s0, c_in, Option.toList_some, List.cons_append, List.nil_append, isN_of (show p_S σ ≤ 1000 by omega)]
  rw [rX13_isString_16 (nb_b _)]
/-- apart -/
def rAp (r : Nat → Int32) (P : Nat) : Int32 := (if 1 < P then r 1 else nI 0) - (if 0 < P then r 0 else nI 0)
/-- nods -/
def rNd (r : Nat → Int32) : Int32 := nI 0 + r 5 + r 6 + r 7 + r 8 + r 9
theorem c_apartNow (hR : am_OR R) (hN : 116 ≤ n) (H : rf_S I σ) : am_E X (d + 2) mX13_apartNow 0 [some (.ref 69)] [] (n, I, L, R) Q ↔ Q (some (.int (rAp (I 104) (p_P σ)))) (n, I, L, R) := by
  have hP5 := H.2.2.2.1
  have hl := am_lt hN
  have hvw9 := am_lw hN
  simp only [hvw9, am_lv_of, rX13_apartNow_0, rX13_apartNow_1, rX13_apartNow_2, hl, sh_69, Nat.reduceLT, am_s0, c_isPuppet hR hN H, Option.toList_some, List.cons_append, List.nil_append, rX13_apartNow_5, bI_ne, isN_nI (show p_P σ ≤ 1000 by omega) (show 1 ≤ 1000 by omega), decide_eq_false_iff_not]
  have k2 : ∀ (x : Int32), am_E X (d + 2) mX13_apartNow 18 [some (.ref 69)] [.int x] (n, I, L, R) Q ↔ Q (some (.int (x - (if 0 < p_P σ then I 104 0 else nI 0)))) (n, I, L, R) := by
    intro x
    simp only [hvw9, am_lv_of, rX13_apartNow_18, rX13_apartNow_19, rX13_apartNow_20, hl, sh_69, Nat.reduceLT, am_s1, c_isPuppet hR hN H, Option.toList_some, List.cons_append, List.nil_append, rX13_apartNow_23, bI_ne, isN_nI (show p_P σ ≤ 1000 by omega) (show 0 ≤ 1000 by omega), decide_eq_false_iff_not]
    by_cases h0 : 0 < p_P σ
    · simp only [hvw9, am_lv_of, h0, not_true_eq_false, if_false, if_true, rX13_apartNow_26, rX13_apartNow_27, rX13_apartNow_30, rX13_apartNow_31, rX13_apartNow_32, rX13_apartNow_35, rX13_apartNow_36, rX13_apartNow_37, ro_69_1 hR, ro_69_3 hR, ro_69_5 hR, ro_69_6 hR, ro_69_7 hR, ro_69_8 hR, ro_69_9 hR, ro_69_21 hR, ro_69_22 hR, ro_69_23 hR, ro_69_24 hR, ro_69_25 hR, ro_69_26 hR, ro_69_27 hR, ro_69_28 hR, ro_69_29 hR, ro_69_30 hR, ro_69_31 hR, ro_69_32 hR, ro_69_33 hR, ro_69_34 hR, ro_69_35 hR, ro_69_36 hR, ro_69_38 hR, ro_69_39 hR, ro_69_40 hR, ro_69_41 hR, ro_69_42 hR, ro_69_44 hR, ro_69_45 hR, ro_69_46 hR, ro_69_48 hR, ro_69_49 hR, ro_69_51 hR, ro_69_52 hR, ro_69_55 hR, ro_69_56 hR, ro_69_57 hR, ro_69_58 hR, ro_69_59 hR, ro_69_61 hR, ro_69_62 hR, ro_69_63 hR, ro_69_64 hR, ro_69_65 hR, ro_69_66 hR, hl, sh_69, sh_104, Nat.reduceLT]
    · simp only [hvw9, am_lv_of, h0, not_false_eq_true, if_false, if_true, rX13_apartNow_26, rX13_apartNow_27, rX13_apartNow_30, rX13_apartNow_31, rX13_apartNow_32, rX13_apartNow_35, rX13_apartNow_36, rX13_apartNow_37, ro_69_1 hR, ro_69_3 hR, ro_69_5 hR, ro_69_6 hR, ro_69_7 hR, ro_69_8 hR, ro_69_9 hR, ro_69_21 hR, ro_69_22 hR, ro_69_23 hR, ro_69_24 hR, ro_69_25 hR, ro_69_26 hR, ro_69_27 hR, ro_69_28 hR, ro_69_29 hR, ro_69_30 hR, ro_69_31 hR, ro_69_32 hR, ro_69_33 hR, ro_69_34 hR, ro_69_35 hR, ro_69_36 hR, ro_69_38 hR, ro_69_39 hR, ro_69_40 hR, ro_69_41 hR, ro_69_42 hR, ro_69_44 hR, ro_69_45 hR, ro_69_46 hR, ro_69_48 hR, ro_69_49 hR, ro_69_51 hR, ro_69_52 hR, ro_69_55 hR, ro_69_56 hR, ro_69_57 hR, ro_69_58 hR, ro_69_59 hR, ro_69_61 hR, ro_69_62 hR, ro_69_63 hR, ro_69_64 hR, ro_69_65 hR, ro_69_66 hR, hl, sh_69, sh_104, Nat.reduceLT]
  by_cases h1 : 1 < p_P σ
  · simp only [hvw9, am_lv_of, h1, not_true_eq_false, if_false, if_true, rX13_apartNow_8, rX13_apartNow_9, rX13_apartNow_12, rX13_apartNow_13, rX13_apartNow_14, rX13_apartNow_17, ro_69_1 hR, ro_69_3 hR, ro_69_5 hR, ro_69_6 hR, ro_69_7 hR, ro_69_8 hR, ro_69_9 hR, ro_69_21 hR, ro_69_22 hR, ro_69_23 hR, ro_69_24 hR, ro_69_25 hR, ro_69_26 hR, ro_69_27 hR, ro_69_28 hR, ro_69_29 hR, ro_69_30 hR, ro_69_31 hR, ro_69_32 hR, ro_69_33 hR, ro_69_34 hR, ro_69_35 hR, ro_69_36 hR, ro_69_38 hR, ro_69_39 hR, ro_69_40 hR, ro_69_41 hR, ro_69_42 hR, ro_69_44 hR, ro_69_45 hR, ro_69_46 hR, ro_69_48 hR, ro_69_49 hR, ro_69_51 hR, ro_69_52 hR, ro_69_55 hR, ro_69_56 hR, ro_69_57 hR, ro_69_58 hR, ro_69_59 hR, ro_69_61 hR, ro_69_62 hR, ro_69_63 hR, ro_69_64 hR, ro_69_65 hR, ro_69_66 hR, hl, sh_69, sh_104, Nat.reduceLT, k2, rAp]
  · simp only [hvw9, am_lv_of, h1, not_false_eq_true, if_false, if_true, rX13_apartNow_8, rX13_apartNow_9, rX13_apartNow_12, rX13_apartNow_13, rX13_apartNow_14, rX13_apartNow_17, ro_69_1 hR, ro_69_3 hR, ro_69_5 hR, ro_69_6 hR, ro_69_7 hR, ro_69_8 hR, ro_69_9 hR, ro_69_21 hR, ro_69_22 hR, ro_69_23 hR, ro_69_24 hR, ro_69_25 hR, ro_69_26 hR, ro_69_27 hR, ro_69_28 hR, ro_69_29 hR, ro_69_30 hR, ro_69_31 hR, ro_69_32 hR, ro_69_33 hR, ro_69_34 hR, ro_69_35 hR, ro_69_36 hR, ro_69_38 hR, ro_69_39 hR, ro_69_40 hR, ro_69_41 hR, ro_69_42 hR, ro_69_44 hR, ro_69_45 hR, ro_69_46 hR, ro_69_48 hR, ro_69_49 hR, ro_69_51 hR, ro_69_52 hR, ro_69_55 hR, ro_69_56 hR, ro_69_57 hR, ro_69_58 hR, ro_69_59 hR, ro_69_61 hR, ro_69_62 hR, ro_69_63 hR, ro_69_64 hR, ro_69_65 hR, ro_69_66 hR, hl, sh_69, sh_104, Nat.reduceLT, k2, rAp]
set_option maxRecDepth 8192 in
theorem c_nodsNow (hR : am_OR R) (hN : 116 ≤ n) : am_E X d mX13_nodsNow 0 [some (.ref 69), none, none] [] (n, I, L, R) Q ↔ Q (some (.int (rNd (I 104)))) (n, I, L, R) := by
  have hl := am_lt hN
  have hvw9 := am_lw hN
  simp only [hvw9, am_lv_of, rX13_nodsNow_0, rX13_nodsNow_1, rX13_nodsNow_2, rX13_nodsNow_3, rX13_nodsNow_4, rX13_nodsNow_5, rX13_nodsNow_6, rX13_nodsNow_9, rX13_nodsNow_10, rX13_nodsNow_11, rX13_nodsNow_14, rX13_nodsNow_15, rX13_nodsNow_16, rX13_nodsNow_17, rX13_nodsNow_18, rX13_nodsNow_19, rX13_nodsNow_20, rX13_nodsNow_23, rX13_nodsNow_26, rX13_nodsNow_27, ro_69_1 hR, ro_69_3 hR, ro_69_5 hR, ro_69_6 hR, ro_69_7 hR, ro_69_8 hR, ro_69_9 hR, ro_69_21 hR, ro_69_22 hR, ro_69_23 hR, ro_69_24 hR, ro_69_25 hR, ro_69_26 hR, ro_69_27 hR, ro_69_28 hR, ro_69_29 hR, ro_69_30 hR, ro_69_31 hR, ro_69_32 hR, ro_69_33 hR, ro_69_34 hR, ro_69_35 hR, ro_69_36 hR, ro_69_38 hR, ro_69_39 hR, ro_69_40 hR, ro_69_41 hR, ro_69_42 hR, ro_69_44 hR, ro_69_45 hR, ro_69_46 hR, ro_69_48 hR, ro_69_49 hR, ro_69_51 hR, ro_69_52 hR, ro_69_55 hR, ro_69_56 hR, ro_69_57 hR, ro_69_58 hR, ro_69_59 hR, ro_69_61 hR, ro_69_62 hR, ro_69_63 hR, ro_69_64 hR, ro_69_65 hR, ro_69_66 hR, hl, sh_69, sh_104, Nat.reduceLT, am_ci, am_cr, am_cn0, nI_add, Nat.reduceAdd, nI_leI, Nat.reducePow, Nat.reduceLeDiff, if_false, if_true, rNd]
/-- what the laws are told of a row -/
def rV (r : Nat → Int32) (P j : Nat) : Int32 := if j = 0 then rAp r P else if j = 1 then nI (tg r P) else if j = 2 then r 16 else if j = 3 then rNd r else if j = 5 then r 12 else nI 0
theorem c_looks (hR : am_OR R) (hN : 116 ≤ n) (hn : n ≤ 1000) (H : rf_S I σ) (hQ : ∀ I', am_ag (fun k _ => k = 101) I I' → (∀ j, j < 9 → I' 101 j = rV (I 104) (p_P σ) j) → Q none (n, I', L, R)) : am_E X (d + 3) mX13_looks 0 [some (.ref 69)] [] (n, I, L, R) Q := by
  have hl := am_lt hN
  have hvw9 := am_lw hN
  obtain ⟨hlv, hl2, hP, hP5, -⟩ := id H
  simp only [am_lv_of, rX13_looks_0, rX13_looks_1, rX13_looks_4, rX13_looks_5, rX13_looks_6, ro_69_1 hR, ro_69_3 hR, ro_69_5 hR, ro_69_6 hR, ro_69_7 hR, ro_69_8 hR, ro_69_9 hR, ro_69_21 hR, ro_69_22 hR, ro_69_23 hR, ro_69_24 hR, ro_69_25 hR, ro_69_26 hR, ro_69_27 hR, ro_69_28 hR, ro_69_29 hR, ro_69_30 hR, ro_69_31 hR, ro_69_32 hR, ro_69_33 hR, ro_69_34 hR, ro_69_35 hR, ro_69_36 hR, ro_69_38 hR, ro_69_39 hR, ro_69_40 hR, ro_69_41 hR, ro_69_42 hR, ro_69_44 hR, ro_69_45 hR, ro_69_46 hR, ro_69_48 hR, ro_69_49 hR, ro_69_51 hR, ro_69_52 hR, ro_69_55 hR, ro_69_56 hR, ro_69_57 hR, ro_69_58 hR, ro_69_59 hR, ro_69_61 hR, ro_69_62 hR, ro_69_63 hR, ro_69_64 hR, ro_69_65 hR, ro_69_66 hR, sh_69, sh_101, hl, hvw9, Nat.reduceLT, Nat.reduceAdd, Nat.reduceMul, ne_eq, Nat.reduceEqDiff, not_false_eq_true, or_true, true_or, or_false, false_or, and_true, true_and, and_self, Nat.reduceLeDiff, am_ci, am_cr, am_cn0, Option.toList_some, Option.toList_none, List.cons_append, List.nil_append, am_s0, am_s1, am_s1r, am_s2, am_s2r, am_s3r, nI_add, am_u_ne, am_u_at, am_u_n1, am_u_n2, am_w_ne, c_apartNow hR hN H]
  simp only [am_lv_of, rX13_looks_9, rX13_looks_10, rX13_looks_11, rX13_looks_14, rX13_looks_15, rX13_looks_16, ro_69_1 hR, ro_69_3 hR, ro_69_5 hR, ro_69_6 hR, ro_69_7 hR, ro_69_8 hR, ro_69_9 hR, ro_69_21 hR, ro_69_22 hR, ro_69_23 hR, ro_69_24 hR, ro_69_25 hR, ro_69_26 hR, ro_69_27 hR, ro_69_28 hR, ro_69_29 hR, ro_69_30 hR, ro_69_31 hR, ro_69_32 hR, ro_69_33 hR, ro_69_34 hR, ro_69_35 hR, ro_69_36 hR, ro_69_38 hR, ro_69_39 hR, ro_69_40 hR, ro_69_41 hR, ro_69_42 hR, ro_69_44 hR, ro_69_45 hR, ro_69_46 hR, ro_69_48 hR, ro_69_49 hR, ro_69_51 hR, ro_69_52 hR, ro_69_55 hR, ro_69_56 hR, ro_69_57 hR, ro_69_58 hR, ro_69_59 hR, ro_69_61 hR, ro_69_62 hR, ro_69_63 hR, ro_69_64 hR, ro_69_65 hR, ro_69_66 hR, sh_69, sh_101, hl, hvw9, Nat.reduceLT, Nat.reduceAdd, Nat.reduceMul, ne_eq, Nat.reduceEqDiff, not_false_eq_true, or_true, true_or, or_false, false_or, and_true, true_and, and_self, Nat.reduceLeDiff, am_ci, am_cr, am_cn0, Option.toList_some, Option.toList_none, List.cons_append, List.nil_append, am_s0, am_s1, am_s1r, am_s2, am_s2r, am_s3r, nI_add, am_u_ne, am_u_at, am_u_n1, am_u_n2, am_w_ne, hn]
  have H1 : rf_S (am_u I 101 0 (rAp (I 104) (p_P σ))) σ := H.ag (am_ag.refl.u (Or.inl (Or.inl rfl)))
  rw [c_tanglesNow hR hN H1.1 hl2 H1.2.2.1 hP5]
  simp only [am_lv_of, rX13_looks_19, rX13_looks_20, rX13_looks_21, rX13_looks_24, rX13_looks_25, rX13_looks_26, rX13_looks_29, rX13_looks_31, rX13_looks_32, rX13_looks_33, rX13_looks_34, rX13_looks_37, rX13_looks_38, rX13_looks_39, ro_69_1 hR, ro_69_3 hR, ro_69_5 hR, ro_69_6 hR, ro_69_7 hR, ro_69_8 hR, ro_69_9 hR, ro_69_21 hR, ro_69_22 hR, ro_69_23 hR, ro_69_24 hR, ro_69_25 hR, ro_69_26 hR, ro_69_27 hR, ro_69_28 hR, ro_69_29 hR, ro_69_30 hR, ro_69_31 hR, ro_69_32 hR, ro_69_33 hR, ro_69_34 hR, ro_69_35 hR, ro_69_36 hR, ro_69_38 hR, ro_69_39 hR, ro_69_40 hR, ro_69_41 hR, ro_69_42 hR, ro_69_44 hR, ro_69_45 hR, ro_69_46 hR, ro_69_48 hR, ro_69_49 hR, ro_69_51 hR, ro_69_52 hR, ro_69_55 hR, ro_69_56 hR, ro_69_57 hR, ro_69_58 hR, ro_69_59 hR, ro_69_61 hR, ro_69_62 hR, ro_69_63 hR, ro_69_64 hR, ro_69_65 hR, ro_69_66 hR, sh_69, sh_101, sh_104, hl, hvw9, Nat.reduceLT, Nat.reduceAdd, Nat.reduceMul, ne_eq, Nat.reduceEqDiff, not_false_eq_true, or_true, true_or, or_false, false_or, and_true, true_and, and_self, Nat.reduceLeDiff, am_ci, am_cr, am_cn0, Option.toList_some, Option.toList_none, List.cons_append, List.nil_append, am_s0, am_s1, am_s1r, am_s2, am_s2r, am_s3r, nI_add, am_u_ne, am_u_at, am_u_n1, am_u_n2, am_w_ne, hn, c_nodsNow hR hN]
  simp only [am_lv_of, rX13_looks_42, rX13_looks_43, rX13_looks_44, rX13_looks_47, rX13_looks_48, rX13_looks_49, rX13_looks_50, rX13_looks_51, rX13_looks_54, rX13_looks_55, rX13_looks_56, rX13_looks_59, rX13_looks_61, rX13_looks_62, rX13_looks_63, rX13_looks_64, rX13_looks_67, rX13_looks_69, rX13_looks_70, rX13_looks_71, rX13_looks_72, rX13_looks_75, rX13_looks_77, rX13_looks_78, rX13_looks_79, rX13_looks_80, rX13_looks_83, rX13_looks_85, rX13_looks_86, rX13_looks_87, ro_69_1 hR, ro_69_3 hR, ro_69_5 hR, ro_69_6 hR, ro_69_7 hR, ro_69_8 hR, ro_69_9 hR, ro_69_21 hR, ro_69_22 hR, ro_69_23 hR, ro_69_24 hR, ro_69_25 hR, ro_69_26 hR, ro_69_27 hR, ro_69_28 hR, ro_69_29 hR, ro_69_30 hR, ro_69_31 hR, ro_69_32 hR, ro_69_33 hR, ro_69_34 hR, ro_69_35 hR, ro_69_36 hR, ro_69_38 hR, ro_69_39 hR, ro_69_40 hR, ro_69_41 hR, ro_69_42 hR, ro_69_44 hR, ro_69_45 hR, ro_69_46 hR, ro_69_48 hR, ro_69_49 hR, ro_69_51 hR, ro_69_52 hR, ro_69_55 hR, ro_69_56 hR, ro_69_57 hR, ro_69_58 hR, ro_69_59 hR, ro_69_61 hR, ro_69_62 hR, ro_69_63 hR, ro_69_64 hR, ro_69_65 hR, ro_69_66 hR, sh_69, sh_101, sh_104, hl, hvw9, Nat.reduceLT, Nat.reduceAdd, Nat.reduceMul, ne_eq, Nat.reduceEqDiff, not_false_eq_true, or_true, true_or, or_false, false_or, and_true, true_and, and_self, Nat.reduceLeDiff, am_ci, am_cr, am_cn0, Option.toList_some, Option.toList_none, List.cons_append, List.nil_append, am_s0, am_s1, am_s1r, am_s2, am_s2r, am_s3r, nI_add, am_u_ne, am_u_at, am_u_n1, am_u_n2, am_w_ne, hn]
  refine hQ _ (by repeat (first | exact am_ag.refl | refine am_ag.u ?_ rfl)) (fun j hj => ?_)
  have : j = 0 ∨ j = 1 ∨ j = 2 ∨ j = 3 ∨ j = 4 ∨ j = 5 ∨ j = 6 ∨ j = 7 ∨ j = 8 := by omega
  rcases this with rfl | rfl | rfl | rfl | rfl | rfl | rfl | rfl | rfl <;> simp [am_u, rV]
/-- where a string would take its puppet -/
def rGo (σ : rfP) (r : Nat → Int32) (s : Nat) : Int32 := r (p_ow σ s) + p_far σ s
def rSt (σ : rfP) (r : Nat → Int32) (s : Nat) : Bool := decide (nI 0 ≤ rGo σ r s) && decide (rGo σ r s ≤ nI 9)
theorem c_goesTo {s : Nat} (hR : am_OR R) (hN : 116 ≤ n) (H : rf_S I σ) (hs : s < p_S σ) : am_E X d mX13_goesTo 0 [some (.ref 69), some (.int (nI s))] [] (n, I, L, R) Q ↔ Q (some (.int (rGo σ (I 104) s))) (n, I, L, R) := by
  have hl := am_lt hN
  have hvw9 := am_lw hN
  obtain ⟨hlv, hl2, -, hP5, -, hS7, -, -, how, -⟩ := id H
  obtain ⟨h1, h2, h5, -⟩ := how s hs
  have h3 : 7 * p_lv σ + s < 14 := by omega
  have h4 : p_ow σ s < 68 := by omega
  simp only [am_lv_of, rX13_goesTo_0, rX13_goesTo_1, rX13_goesTo_4, rX13_goesTo_5, rX13_goesTo_8, rX13_goesTo_10, rX13_goesTo_11, rX13_goesTo_14, rX13_goesTo_15, rX13_goesTo_16, rX13_goesTo_17, rX13_goesTo_18, rX13_goesTo_19, rX13_goesTo_20, rX13_goesTo_23, rX13_goesTo_25, rX13_goesTo_26, rX13_goesTo_29, rX13_goesTo_30, rX13_goesTo_31, rX13_goesTo_32, rX13_goesTo_33, rX13_goesTo_34, ro_69_1 hR, ro_69_3 hR, ro_69_5 hR, ro_69_6 hR, ro_69_7 hR, ro_69_8 hR, ro_69_9 hR, ro_69_21 hR, ro_69_22 hR, ro_69_23 hR, ro_69_24 hR, ro_69_25 hR, ro_69_26 hR, ro_69_27 hR, ro_69_28 hR, ro_69_29 hR, ro_69_30 hR, ro_69_31 hR, ro_69_32 hR, ro_69_33 hR, ro_69_34 hR, ro_69_35 hR, ro_69_36 hR, ro_69_38 hR, ro_69_39 hR, ro_69_40 hR, ro_69_41 hR, ro_69_42 hR, ro_69_44 hR, ro_69_45 hR, ro_69_46 hR, ro_69_48 hR, ro_69_49 hR, ro_69_51 hR, ro_69_52 hR, ro_69_55 hR, ro_69_56 hR, ro_69_57 hR, ro_69_58 hR, ro_69_59 hR, ro_69_61 hR, ro_69_62 hR, ro_69_63 hR, ro_69_64 hR, ro_69_65 hR, ro_69_66 hR, sh_69, sh_83, sh_85, sh_104, hl, hvw9, Nat.reduceLT, Nat.reduceAdd, Nat.reduceMul, ne_eq, Nat.reduceEqDiff, not_false_eq_true, or_true, true_or, or_false, false_or, and_true, true_and, and_self, Nat.reduceLeDiff, am_ci, am_cr, am_cn0, Option.toList_some, Option.toList_none, List.cons_append, List.nil_append, am_s0, am_s1, am_s1r, am_s2, am_s2r, am_s3r, nI_add, am_u_ne, am_u_at, am_u_n1, am_u_n2, am_w_ne, hlv, pk_mul, h1, h3, h4, h5, rGo]
theorem c_staysWithin {s : Nat} (hR : am_OR R) (hN : 116 ≤ n) (H : rf_S I σ) (hs : s < p_S σ) : am_E X (d + 1) mX13_staysWithin 0 [some (.ref 69), some (.int (nI s))] [] (n, I, L, R) Q ↔ Q (some (.int (bI (rSt σ (I 104) s)))) (n, I, L, R) := by
  have hl := am_lt hN
  have hvw9 := am_lw hN
  simp only [am_lv_of, rX13_staysWithin_0, rX13_staysWithin_1, rX13_staysWithin_2, rX13_staysWithin_5, rX13_staysWithin_6, rX13_staysWithin_8, sh_69, hl, hvw9, Nat.reduceLT, Nat.reduceAdd, Nat.reduceMul, ne_eq, Nat.reduceEqDiff, not_false_eq_true, or_true, true_or, or_false, false_or, and_true, true_and, and_self, Nat.reduceLeDiff, am_ci, am_cr, am_cn0, Option.toList_some, Option.toList_none, List.cons_append, List.nil_append, am_s0, am_s1, am_s1r, am_s2, am_s2r, am_s3r, nI_add, am_u_ne, am_u_at, am_u_n1, am_u_n2, am_w_ne, c_goesTo hR hN H hs, c_in]
  rw [rX13_staysWithin_11 (nb_b _)]
  rfl
end RFB
