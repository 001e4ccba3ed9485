--! 42
/-! THE CLASS: what the bench says of a pose -/
def plainN (k : Nat) : Nat := if k = 0 then 1 else if k = 1 then 0 else 5
def lwOf (k : Nat) (lw : Option (lawB × pfx)) : lawB × pfx := match lw with
  | none => ([], [(0, plainN k)])
  | some q => q
theorem lwOf_V {vars : Nat → Int32} {k : Nat} {lw : Option (lawB × pfx)} : lawV vars (lwOf k lw).2 (lwOf k lw).1 = lawO vars (nI (plainN k)) lw := by
  cases lw with
  | none => simp [lwOf, lawV, lawO, pfV, pfR]
  | some q => rfl
def cl_law (I : Nat → Nat → Int32) (sz k : Nat) (lw : Option (lawB × pfx)) : Prop := ∃ f, I 11 k = nI f ∧ cl_brs I sz (lwOf k lw).2 f (lwOf k lw).1
def fb (σ : rfP) (s : Nat) : Nat := (p_far σ s + nI 9).toNatClampNeg
def ft (σ : rfP) (s : Nat) : Nat := (p_trn σ s).toNatClampNeg
/-- a script as it may be told -/
def ok_S (σ : rfP) : Prop := p_P σ ≤ 5 ∧ p_S σ ≤ 7 ∧ p_C σ ≤ 7 ∧ ∀ s, s < p_S σ → p_ow σ s < p_P σ ∧ fb σ s ≤ 18 ∧ p_far σ s = nI (fb σ s) - nI 9 ∧ ft σ s < 4 ∧ p_trn σ s = nI (ft σ s)
def cl_S (I : Nat → Nat → Int32) (σ : rfP) : Prop := I 2 0 = nI (p_P σ) ∧ I 2 1 = nI (p_S σ) ∧ I 2 2 = nI (p_C σ) ∧ (∀ s, s < p_S σ → I 4 s = nI (p_ow σ s) ∧ I 6 s = p_far σ s ∧ I 5 s = p_sd σ s ∧ I 7 s = p_trn σ s) ∧ ∃ sz, sz ≤ 406 ∧ I 9 3 = nI sz ∧ ∀ k, k < 3 → cl_law I sz k (p_lw σ k)
/-- what a look at the laws writes -/
def skc (k _j : Nat) : Prop := k = 33 ∨ k = 12
theorem cl_seg.mv' {I I' : Nat → Nat → Int32} {a : Nat} {p : pfx} (h : cl_seg I a p) (g : ∀ j, I' 10 j = I 10 j) : cl_seg I' a p := fun i q hq => by
  rw [g]; exact h i q hq
theorem cl_brs_mv' {I I' : Nat → Nat → Int32} {sz : Nat} {e : pfx} (g : ∀ j, I' 10 j = I 10 j) : ∀ {r : lawB} {f : Nat}, cl_brs I sz e f r → cl_brs I' sz e f r := by
  intro r
  induction r with
  | nil =>
    rintro f ⟨h1, h2, h3, h4⟩
    exact ⟨h1.mv' g, by rw [g]; exact h2, h3, h4⟩
  | cons q r ih =>
    obtain ⟨t1, t2, e1⟩ := q
    rintro f ⟨h1, h2, h3, h4, h5, h6, h7, h8, h9, h10⟩
    exact ⟨h1.mv' g, h2, h3.mv' g, h4, by rw [g]; exact h5, h6.mv' g, h7, by rw [g]; exact h8, h9, ih h10⟩
/-- the script's cells are as they were -/
theorem cl_S.ag {I I' : Nat → Nat → Int32} {σ : rfP} (h : cl_S I σ) (g : ∀ k j, (k = 2 ∧ j < 3) ∨ k = 4 ∨ k = 5 ∨ k = 6 ∨ k = 7 ∨ (k = 9 ∧ j = 3) ∨ k = 10 ∨ k = 11 → I' k j = I k j) : cl_S I' σ := by
  obtain ⟨h1, h2, h3, h4, sz, h5, h6, h7⟩ := h
  refine ⟨by rw [g _ _ (by omega)]; exact h1, by rw [g _ _ (by omega)]; exact h2, by rw [g _ _ (by omega)]; exact h3, fun s hs => ?_, sz, h5, by rw [g _ _ (by omega)]; exact h6, fun k hk => ?_⟩
  · rw [g 4 _ (by omega), g 5 _ (by omega), g 6 _ (by omega), g 7 _ (by omega)]; exact h4 s hs
  · obtain ⟨f, a1, a2⟩ := h7 k hk
    exact ⟨f, by rw [g _ _ (by omega)]; exact a1, cl_brs_mv' (fun j => g 10 j (by omega)) a2⟩
theorem cl_S.sk {I I' : Nat → Nat → Int32} {σ : rfP} (h : cl_S I σ) (g : am_ag skc I I') : cl_S I' σ := h.ag (fun k j hk => g k j (by unfold skc; omega))
theorem tgI_congr {f g : Nat → Int32} {P p : Nat} (h : ∀ q, q < P → f q = g q) (hp : p < P) : ∀ (m o : Nat), o + m ≤ P → tgI f p o m = tgI g p o m := by
  intro m
  induction m with
  | zero => intro o ho; rfl
  | succ m ih => intro o ho; rw [tgI, tgI, ih (o + 1) (by omega), h p hp, h o (by omega)]
theorem tgO_congr {f g : Nat → Int32} {P : Nat} (h : ∀ q, q < P → f q = g q) : ∀ (m p : Nat), p + m = P → tgO f P p m = tgO g P p m := by
  intro m
  induction m with
  | zero => intro o ho; rfl
  | succ m ih => intro p hp; rw [tgO, tgO, ih (p + 1) (by omega), tgI_congr h (by omega) _ _ (by omega)]
theorem tg_congr {f g : Nat → Int32} {P : Nat} (h : ∀ q, q < P → f q = g q) : tg f P = tg g P := tgO_congr h P 0 (by omega)
theorem psr.tg {w P : Nat} {r : Nat → Int32} (h : psr w P r) (hP : P ≤ 5) : tg (fun p => nI (xw w p)) P = tg r P := tg_congr (fun q hq => ((h.2.1 q (by omega)).1).symm)
theorem psr.ap {w P : Nat} {r : Nat → Int32} (h : psr w P r) (hP : P ≤ 5) : nI (xw w 1) - nI (xw w 0) = rAp r P := by
  have h0 := h.2.1 0 (by omega)
  have h1 := h.2.1 1 (by omega)
  unfold rAp
  by_cases c1 : 1 < P
  · rw [if_pos c1, if_pos (by omega), h0.1, h1.1]
  · have z1 := h.2.2 1 (by omega) (by omega)
    rw [if_neg c1, z1]
    by_cases c0 : 0 < P
    · rw [if_pos c0, h0.1]
    · rw [if_neg c0, h.2.2 0 (by omega) (by omega)]
theorem psr.nd {w P : Nat} {r : Nat → Int32} (h : psr w P r) : nI (hdw w 0 + hdw w 1 + hdw w 2 + hdw w 3 + hdw w 4) = rNd r := by
  unfold rNd
  rw [(h.2.1 0 (by omega)).2.1, (h.2.1 1 (by omega)).2.1, (h.2.1 2 (by omega)).2.1, (h.2.1 3 (by omega)).2.1, (h.2.1 4 (by omega)).2.1]
  simp only [nI_add, Nat.zero_add]
section CLD
variable {X : am_X} {d n : Nat} {I : Nat → Nat → Int32} {L : Nat → Nat → Int64} {R : Nat → Nat → Option Nat} {Q : Option Value → am_M → Prop} {σ : rfP}
theorem c_valueOf {k : Nat} {lw : Option (lawB × pfx)} {sz : Nat} {vars : Nat → Int32} (hR : am_OR R) (hN : 116 ≤ n) (hn : n ≤ 1000) (hk : k < 3) (hz : I 9 3 = nI sz) (hsz : sz ≤ 406) (hlw : cl_law I sz k lw) (hv : ∀ v, v < 9 → I 33 v = vars v) (hQ : ∀ I', am_ag ag12 I I' → Q (some (.int (lawO vars (nI (plainN k)) lw))) (n, I', L, R)) : am_E X (d + 1) mX1_valueOf 0 [some (.ref 9), some (.int (nI k)), some (.ref 33), none, none, none, none, none] [] (n, I, L, R) Q := by
  have hl := am_lt hN
  have hvw9 := am_lw hN
  obtain ⟨f, h1, h2⟩ := hlw
  have c1 : ¬ nI k < 0 := nI_pos (by omega)
  have c2 : nI k < nI 3 := nI_lt hk (by omega)
  simp only [am_lv_of, rX1_valueOf_0, rX1_valueOf_1, rX1_valueOf_4, rX1_valueOf_5, rX1_valueOf_6, rX1_valueOf_9, rX1_valueOf_10, rX1_valueOf_13, rX1_valueOf_14, rX1_valueOf_15, rX1_valueOf_16, rX1_valueOf_19, rX1_valueOf_20, rX1_valueOf_21, rX1_valueOf_22, rX1_valueOf_23, rX1_valueOf_25, rX1_valueOf_26, ro_0_0 hR, ro_0_3 hR, ro_0_4 hR, ro_0_5 hR, ro_0_6 hR, ro_0_7 hR, ro_0_8 hR, ro_0_9 hR, ro_0_10 hR, ro_0_11 hR, ro_2_6 hR, ro_2_7 hR, ro_2_8 hR, ro_2_9 hR, ro_2_10 hR, ro_2_11 hR, ro_2_12 hR, ro_2_13 hR, ro_9_0 hR, ro_9_1 hR, ro_9_2 hR, ro_14_0 hR, ro_14_1 hR, ro_14_2 hR, ro_14_7 hR, ro_15_0 hR, ro_15_1 hR, ro_15_2 hR, ro_15_3 hR, ro_20_6 hR, ro_20_7 hR, ro_20_8 hR, ro_20_9 hR, ro_20_10 hR, ro_20_11 hR, ro_20_12 hR, ro_20_13 hR, ro_27_0 hR, ro_27_1 hR, ro_27_2 hR, ro_32_0 hR, ro_32_1 hR, ro_34_10 hR, ro_34_11 hR, ro_34_12 hR, ro_34_13 hR, ro_39_0 hR, ro_39_1 hR, ro_42_0 hR, ro_42_1 hR, ro_47_0 hR, ro_47_1 hR, ro_47_2 hR, ro_47_3 hR, ro_55_0 hR, ro_55_1 hR, ro_55_2 hR, ro_57_0 hR, ro_57_1 hR, ro_57_2 hR, ro_57_3 hR, ro_57_4 hR, ro_57_5 hR, ro_57_8 hR, sh_0, sh_1, sh_2, sh_3, sh_4, sh_5, sh_6, sh_7, sh_8, sh_9, sh_10, sh_11, sh_12, sh_13, sh_14, sh_15, sh_16, sh_17, sh_18, sh_19, sh_20, sh_21, sh_22, sh_23, sh_24, sh_25, sh_26, sh_27, sh_28, sh_29, sh_30, sh_31, sh_32, sh_33, sh_34, sh_35, sh_36, sh_37, sh_38, sh_39, sh_40, sh_41, sh_42, sh_43, sh_44, sh_45, sh_46, sh_47, sh_48, sh_49, sh_50, sh_51, sh_52, sh_53, sh_54, sh_55, sh_56, sh_57, sh_58, sh_59, sh_60, sh_61, sh_62, sh_63, sh_64, sh_65, sh_66, sh_67, sh_68, hl, hvw9, Nat.reduceLT, Nat.reduceAdd, Nat.reduceMul, ne_eq, Nat.reduceEqDiff, not_false_eq_true, or_true, true_or, or_false, false_or, and_true, true_and, and_self, Nat.reduceLeDiff, am_ci, am_cr, am_cn0, Option.toList_some, Option.toList_none, List.cons_append, List.nil_append, am_s0, am_s1, am_s1r, am_s2, am_s2r, am_s3r, nI_add, am_u_ne, am_u_at, am_u_n1, am_u_n2, am_w_ne, if_neg c1, if_pos c2, hk, h1]
  rw [← lwOf_V] at hQ
  exact l_val_brs hR hN hn hsz _ f 0 I none none am_cn0 (by omega) h2 hz hv hQ
def vSet (w P : Nat) (pulls : Int32) (j : Nat) : Int32 := if j = 0 then nI (xw w 1) - nI (xw w 0) else if j = 1 then nI (tg (fun p => nI (xw w p)) P) else if j = 2 then pulls else if j = 3 then nI (hdw w 0 + hdw w 1 + hdw w 2 + hdw w 3 + hdw w 4) else if j = 5 then nI (hnw w 2) else nI 0
theorem psr.v {w P : Nat} {r : Nat → Int32} (h : psr w P r) (hP : P ≤ 5) {j : Nat} : vSet w P (r 16) j = rV r P j := by
  unfold vSet rV
  rw [h.ap hP, h.tg hP, h.nd, ← (h.2.1 2 (by omega)).2.2.1]
theorem c_set {w P : Nat} {pulls : Int32} (hR : am_OR R) (hN : 116 ≤ n) (hn : n ≤ 1000) (hw : w < 2 ^ 30) (hP : I 2 0 = nI P) (hP5 : P ≤ 5) (hQ : ∀ I', am_ag (fun k _ => k = 33) I I' → (∀ j, j < 9 → I' 33 j = vSet w P pulls j) → Q none (n, I', L, R)) : am_E X (d + 2) mX0_set 0 [some (.ref 32), some (.int (nI w)), some (.int pulls)] [] (n, I, L, R) Q := by
  have hl := am_lt hN
  have hvw9 := am_lw hN
  simp only [am_lv_of, rX0_set_0, rX0_set_1, rX0_set_4, rX0_set_5, rX0_set_6, rX0_set_9, rX0_set_10, rX0_set_11, rX0_set_14, rX0_set_15, rX0_set_16, rX0_set_19, ro_0_0 hR, ro_0_3 hR, ro_0_4 hR, ro_0_5 hR, ro_0_6 hR, ro_0_7 hR, ro_0_8 hR, ro_0_9 hR, ro_0_10 hR, ro_0_11 hR, ro_2_6 hR, ro_2_7 hR, ro_2_8 hR, ro_2_9 hR, ro_2_10 hR, ro_2_11 hR, ro_2_12 hR, ro_2_13 hR, ro_9_0 hR, ro_9_1 hR, ro_9_2 hR, ro_14_0 hR, ro_14_1 hR, ro_14_2 hR, ro_14_7 hR, ro_15_0 hR, ro_15_1 hR, ro_15_2 hR, ro_15_3 hR, ro_20_6 hR, ro_20_7 hR, ro_20_8 hR, ro_20_9 hR, ro_20_10 hR, ro_20_11 hR, ro_20_12 hR, ro_20_13 hR, ro_27_0 hR, ro_27_1 hR, ro_27_2 hR, ro_32_0 hR, ro_32_1 hR, ro_34_10 hR, ro_34_11 hR, ro_34_12 hR, ro_34_13 hR, ro_39_0 hR, ro_39_1 hR, ro_42_0 hR, ro_42_1 hR, ro_47_0 hR, ro_47_1 hR, ro_47_2 hR, ro_47_3 hR, ro_55_0 hR, ro_55_1 hR, ro_55_2 hR, ro_57_0 hR, ro_57_1 hR, ro_57_2 hR, ro_57_3 hR, ro_57_4 hR, ro_57_5 hR, ro_57_8 hR, sh_0, sh_1, sh_2, sh_3, sh_4, sh_5, sh_6, sh_7, sh_8, sh_9, sh_10, sh_11, sh_12, sh_13, sh_14, sh_15, sh_16, sh_17, sh_18, sh_19, sh_20, sh_21, sh_22, sh_23, sh_24, sh_25, sh_26, sh_27, sh_28, sh_29, sh_30, sh_31, sh_32, sh_33, sh_34, sh_35, sh_36, sh_37, sh_38, sh_39, sh_40, sh_41, sh_42, sh_43, sh_44, sh_45, sh_46, sh_47, sh_48, sh_49, sh_50, sh_51, sh_52, sh_53, sh_54, sh_55, sh_56, sh_57, sh_58, sh_59, sh_60, sh_61, sh_62, sh_63, sh_64, sh_65, sh_66, sh_67, sh_68, hl, hvw9, Nat.reduceLT, Nat.reduceAdd, Nat.reduceMul, ne_eq, Nat.reduceEqDiff, not_false_eq_true, or_true, true_or, or_false, false_or, and_true, true_and, and_self, Nat.reduceLeDiff, am_ci, am_cr, am_cn0, Option.toList_some, Option.toList_none, List.cons_append, List.nil_append, am_s0, am_s1, am_s1r, am_s2, am_s2r, am_s3r, nI_add, am_u_ne, am_u_at, am_u_n1, am_u_n2, am_w_ne, hn, c_apart hw]
  simp only [am_lv_of, rX0_set_20, ro_0_0 hR, ro_0_3 hR, ro_0_4 hR, ro_0_5 hR, ro_0_6 hR, ro_0_7 hR, ro_0_8 hR, ro_0_9 hR, ro_0_10 hR, ro_0_11 hR, ro_2_6 hR, ro_2_7 hR, ro_2_8 hR, ro_2_9 hR, ro_2_10 hR, ro_2_11 hR, ro_2_12 hR, ro_2_13 hR, ro_9_0 hR, ro_9_1 hR, ro_9_2 hR, ro_14_0 hR, ro_14_1 hR, ro_14_2 hR, ro_14_7 hR, ro_15_0 hR, ro_15_1 hR, ro_15_2 hR, ro_15_3 hR, ro_20_6 hR, ro_20_7 hR, ro_20_8 hR, ro_20_9 hR, ro_20_10 hR, ro_20_11 hR, ro_20_12 hR, ro_20_13 hR, ro_27_0 hR, ro_27_1 hR, ro_27_2 hR, ro_32_0 hR, ro_32_1 hR, ro_34_10 hR, ro_34_11 hR, ro_34_12 hR, ro_34_13 hR, ro_39_0 hR, ro_39_1 hR, ro_42_0 hR, ro_42_1 hR, ro_47_0 hR, ro_47_1 hR, ro_47_2 hR, ro_47_3 hR, ro_55_0 hR, ro_55_1 hR, ro_55_2 hR, ro_57_0 hR, ro_57_1 hR, ro_57_2 hR, ro_57_3 hR, ro_57_4 hR, ro_57_5 hR, ro_57_8 hR, sh_0, sh_1, sh_2, sh_3, sh_4, sh_5, sh_6, sh_7, sh_8, sh_9, sh_10, sh_11, sh_12, sh_13, sh_14, sh_15, sh_16, sh_17, sh_18, sh_19, sh_20, sh_21, sh_22, sh_23, sh_24, sh_25, sh_26, sh_27, sh_28, sh_29, sh_30, sh_31, sh_32, sh_33, sh_34, sh_35, sh_36, sh_37, sh_38, sh_39, sh_40, sh_41, sh_42, sh_43, sh_44, sh_45, sh_46, sh_47, sh_48, sh_49, sh_50, sh_51, sh_52, sh_53, sh_54, sh_55, sh_56, sh_57, sh_58, sh_59, sh_60, sh_61, sh_62, sh_63, sh_64, sh_65, sh_66, sh_67, sh_68, hl, hvw9, Nat.reduceLT, Nat.reduceAdd, Nat.reduceMul, ne_eq, Nat.reduceEqDiff, not_false_eq_true, or_true, true_or, or_false, false_or, and_true, true_and, and_self, Nat.reduceLeDiff, am_ci, am_cr, am_cn0, Option.toList_some, Option.toList_none, List.cons_append, List.nil_append, am_s0, am_s1, am_s1r, am_s2, am_s2r, am_s3r, nI_add, am_u_ne, am_u_at, am_u_n1, am_u_n2, am_w_ne]
  rw [c_tanglesIn hN hw (by rw [am_u_n1 (by omega)]; exact hP) hP5]
  simp only [am_lv_of, rX0_set_23, rX0_set_24, rX0_set_25, rX0_set_28, rX0_set_29, rX0_set_30, rX0_set_31, rX0_set_32, rX0_set_35, rX0_set_36, rX0_set_37, rX0_set_40, rX0_set_41, rX0_set_42, rX0_set_45, rX0_set_46, rX0_set_47, rX0_set_50, rX0_set_51, rX0_set_52, rX0_set_55, rX0_set_56, rX0_set_57, rX0_set_58, rX0_set_59, rX0_set_62, rX0_set_64, rX0_set_65, rX0_set_66, rX0_set_67, rX0_set_70, rX0_set_72, rX0_set_73, rX0_set_74, rX0_set_75, rX0_set_78, rX0_set_80, rX0_set_81, rX0_set_82, ro_0_0 hR, ro_0_3 hR, ro_0_4 hR, ro_0_5 hR, ro_0_6 hR, ro_0_7 hR, ro_0_8 hR, ro_0_9 hR, ro_0_10 hR, ro_0_11 hR, ro_2_6 hR, ro_2_7 hR, ro_2_8 hR, ro_2_9 hR, ro_2_10 hR, ro_2_11 hR, ro_2_12 hR, ro_2_13 hR, ro_9_0 hR, ro_9_1 hR, ro_9_2 hR, ro_14_0 hR, ro_14_1 hR, ro_14_2 hR, ro_14_7 hR, ro_15_0 hR, ro_15_1 hR, ro_15_2 hR, ro_15_3 hR, ro_20_6 hR, ro_20_7 hR, ro_20_8 hR, ro_20_9 hR, ro_20_10 hR, ro_20_11 hR, ro_20_12 hR, ro_20_13 hR, ro_27_0 hR, ro_27_1 hR, ro_27_2 hR, ro_32_0 hR, ro_32_1 hR, ro_34_10 hR, ro_34_11 hR, ro_34_12 hR, ro_34_13 hR, ro_39_0 hR, ro_39_1 hR, ro_42_0 hR, ro_42_1 hR, ro_47_0 hR, ro_47_1 hR, ro_47_2 hR, ro_47_3 hR, ro_55_0 hR, ro_55_1 hR, ro_55_2 hR, ro_57_0 hR, ro_57_1 hR, ro_57_2 hR, ro_57_3 hR, ro_57_4 hR, ro_57_5 hR, ro_57_8 hR, sh_0, sh_1, sh_2, sh_3, sh_4, sh_5, sh_6, sh_7, sh_8, sh_9, sh_10, sh_11, sh_12, sh_13, sh_14, sh_15, sh_16, sh_17, sh_18, sh_19, sh_20, sh_21, sh_22, sh_23, sh_24, sh_25, sh_26, sh_27, sh_28, sh_29, sh_30, sh_31, sh_32, sh_33, sh_34, sh_35, sh_36, sh_37, sh_38, sh_39, sh_40, sh_41, sh_42, sh_43, sh_44, sh_45, sh_46, sh_47, sh_48, sh_49, sh_50, sh_51, sh_52, sh_53, sh_54, sh_55, sh_56, sh_57, sh_58, sh_59, sh_60, sh_61, sh_62, sh_63, sh_64, sh_65, sh_66, sh_67, sh_68, hl, hvw9, Nat.reduceLT, Nat.reduceAdd, Nat.reduceMul, ne_eq, Nat.reduceEqDiff, not_false_eq_true, or_true, true_or, or_false, false_or, and_true, true_and, and_self, Nat.reduceLeDiff, am_ci, am_cr, am_cn0, Option.toList_some, Option.toList_none, List.cons_append, List.nil_append, am_s0, am_s1, am_s1r, am_s2, am_s2r, am_s3r, nI_add, am_u_ne, am_u_at, am_u_n1, am_u_n2, am_w_ne, hn, c_nods hw, c_judgesHand hw]
  refine hQ _ (by repeat (first | exact am_ag.refl | refine am_ag.u ?_ rfl)) (fun j hj => ?_)
  have : j = 0 ∨ j = 1 ∨ j = 2 ∨ j = 3 ∨ j = 4 ∨ j = 5 ∨ j = 6 ∨ j = 7 ∨ j = 8 := by omega
  rcases this with rfl | rfl | rfl | rfl | rfl | rfl | rfl | rfl | rfl <;> simp [am_u, vSet]
/-- the pose behind a pull -/
def cMv (σ : rfP) (w s : Nat) : Nat := mvW w (p_ow σ s) (fb σ s) (ft σ s)
theorem st_iff {x b : Nat} (hx : x ≤ 15) (hb : b ≤ 18) : ((decide (nI 0 ≤ nI x + (nI b - nI 9)) && decide (nI x + (nI b - nI 9) ≤ nI 9)) = true) ↔ (9 ≤ x + b ∧ x + b ≤ 18) := by
  have e : (nI x + (nI b - nI 9)) = nI (x + b) - nI 9 := by rw [← nI_add]; rw [Int32.sub_eq_add_neg, Int32.sub_eq_add_neg, Int32.add_assoc]
  have e2 : (nI (x + b) - nI 9).toInt = ((x + b : Nat) : Int) - (9 : Nat) := pk_sub_toInt (by omega) (by omega)
  rw [e, Bool.and_eq_true, decide_eq_true_eq, decide_eq_true_eq, Int32.le_iff_toInt_le, Int32.le_iff_toInt_le, e2, nI_toInt (by omega), nI_toInt (by omega)]
  omega
theorem go_eq {x b : Nat} (h : 9 ≤ x + b) : nI x + (nI b - nI 9) = nI (x + b - 9) := by
  have e : (nI x + (nI b - nI 9)) = nI (x + b) - nI 9 := by rw [← nI_add]; rw [Int32.sub_eq_add_neg, Int32.sub_eq_add_neg, Int32.add_assoc]
  rw [e, pk_sub h]
theorem psr.st {w s : Nat} {r : Nat → Int32} (ho : ok_S σ) (hs : s < p_S σ) (h : psr w (p_P σ) r) : rSt σ r s = true ↔ (9 ≤ xw w (p_ow σ s) + fb σ s ∧ xw w (p_ow σ s) + fb σ s ≤ 18) := by
  obtain ⟨o1, o2, o3, o4⟩ := ho
  obtain ⟨a1, a2, a3, a4, a5⟩ := o4 s hs
  obtain ⟨b1, b2, b3, b4⟩ := h.2.1 (p_ow σ s) (by omega)
  unfold rSt rGo
  rw [b1, a3]
  exact st_iff (by omega) a2
theorem psr.mv {w s : Nat} {r : Nat → Int32} (ho : ok_S σ) (hs : s < p_S σ) (h : psr w (p_P σ) r) (hst : rSt σ r s = true) : psr (cMv σ w s) (p_P σ) (rMv σ r s) := by
  have hx := (h.st ho hs).mp hst
  obtain ⟨o1, o2, o3, o4⟩ := ho
  obtain ⟨a1, a2, a3, a4, a5⟩ := o4 s hs
  have hp5 : p_ow σ s < 5 := by omega
  obtain ⟨m1, m2, m3, m4⟩ := mv_ok (t := ft σ s) h.1 hp5 a4 hx.1 hx.2
  obtain ⟨b1, b2, b3, b4⟩ := h.2.1 (p_ow σ s) hp5
  obtain ⟨-, -, t1, t2⟩ := trn_sh _ a4 0 (by omega)
  refine ⟨m1, fun q hq => ?_, fun q hq hq5 => ?_⟩
  · have c1 := m2 q hq
    have c2 := m3 q hq
    have c3 := m4 q hq
    have hb := h.2.1 q hq
    unfold cMv
    rw [c1, c2, c3]
    unfold rMv rGo
    rw [a5, t1, t2, b1, b2, b3, a3, go_eq hx.1]
    have l1 : hdw w (p_ow σ s) < 2 ^ 32 := Nat.lt_of_lt_of_le (Nat.mod_lt _ (by omega)) (by omega)
    have l2 : hnw w (p_ow σ s) < 2 ^ 32 := Nat.lt_of_lt_of_le (Nat.mod_lt _ (by omega)) (by omega)
    rw [nI_xor l1 (by omega), nI_xor l2 (by omega)]
    by_cases e : q = p_ow σ s
    · subst e
      simp only [if_true]
      refine ⟨?_, ?_, ?_, by omega⟩
      · rw [upd_n (by omega), upd_n (by omega), upd_at]
      · rw [upd_n (by omega), upd_at]
      · rw [upd_at]
    · simp only [if_neg e]
      refine ⟨?_, ?_, ?_, hb.2.2.2⟩
      · rw [upd_n (by omega), upd_n (by omega), upd_n e]; exact hb.1
      · rw [upd_n (by omega), upd_n (by omega), upd_n (by omega)]; exact hb.2.1
      · rw [upd_n (by omega), upd_n (by omega), upd_n (by omega)]; exact hb.2.2.1
  · unfold cMv
    rw [m2 q hq5, if_neg (by omega)]
    exact h.2.2 q hq hq5
theorem c_moved {w s : Nat} {r : Nat → Int32} (hR : am_OR R) (hN : 116 ≤ n) (hn : n ≤ 1000) (ho : ok_S σ) (H : cl_S I σ) (hs : s < p_S σ) (h : psr w (p_P σ) r) : am_E X (d + 1) mX10_moved 0 [some (.ref 2), some (.int (nI w)), some (.int (nI s)), none, none] [] (n, I, L, R) Q ↔ Q (some (.int (if rSt σ r s = true then nI (cMv σ w s) else -1))) (n, I, L, R) := by
  have hl := am_lt hN
  have hvw9 := am_lw hN
  have hst := h.st ho hs
  have hgo : rSt σ r s = (decide (nI 0 ≤ nI (xw w (p_ow σ s)) + p_far σ s) && decide (nI (xw w (p_ow σ s)) + p_far σ s ≤ nI 9)) := by
    unfold rSt rGo
    rw [(h.2.1 (p_ow σ s) (by have := (ho.2.2.2 s hs).1; have := ho.1; omega)).1]
  obtain ⟨o1, o2, o3, o4⟩ := ho
  obtain ⟨a1, a2, a3, a4, a5⟩ := o4 s hs
  obtain ⟨g1, g2, g3, g4, -⟩ := H
  obtain ⟨k1, k2, k3, k4⟩ := g4 s hs
  have hp5 : p_ow σ s < 5 := by omega
  have hs7 : s < 7 := by omega
  have hb1 : bI (isN (p_S σ) (nI s)) = nI 1 := by rw [isN_nI (by omega) (by omega)]; simp [hs, bI]
  have z1 : ¬ nI 1 = 0 := by decide
  simp only [am_lv_of, rX10_moved_0, rX10_moved_1, rX10_moved_2, rX10_moved_5, rX10_moved_8, rX10_moved_9, rX10_moved_10, rX10_moved_11, rX10_moved_14, rX10_moved_15, rX10_moved_16, rX10_moved_17, rX10_moved_18, rX10_moved_19, rX10_moved_22, rX10_moved_23, rX10_moved_26, rX10_moved_27, rX10_moved_28, rX10_moved_29, ro_0_0 hR, ro_0_3 hR, ro_0_4 hR, ro_0_5 hR, ro_0_6 hR, ro_0_7 hR, ro_0_8 hR, ro_0_9 hR, ro_0_10 hR, ro_0_11 hR, ro_2_6 hR, ro_2_7 hR, ro_2_8 hR, ro_2_9 hR, ro_2_10 hR, ro_2_11 hR, ro_2_12 hR, ro_2_13 hR, ro_9_0 hR, ro_9_1 hR, ro_9_2 hR, ro_14_0 hR, ro_14_1 hR, ro_14_2 hR, ro_14_7 hR, ro_15_0 hR, ro_15_1 hR, ro_15_2 hR, ro_15_3 hR, ro_20_6 hR, ro_20_7 hR, ro_20_8 hR, ro_20_9 hR, ro_20_10 hR, ro_20_11 hR, ro_20_12 hR, ro_20_13 hR, ro_27_0 hR, ro_27_1 hR, ro_27_2 hR, ro_32_0 hR, ro_32_1 hR, ro_34_10 hR, ro_34_11 hR, ro_34_12 hR, ro_34_13 hR, ro_39_0 hR, ro_39_1 hR, ro_42_0 hR, ro_42_1 hR, ro_47_0 hR, ro_47_1 hR, ro_47_2 hR, ro_47_3 hR, ro_55_0 hR, ro_55_1 hR, ro_55_2 hR, ro_57_0 hR, ro_57_1 hR, ro_57_2 hR, ro_57_3 hR, ro_57_4 hR, ro_57_5 hR, ro_57_8 hR, sh_0, sh_1, sh_2, sh_3, sh_4, sh_5, sh_6, sh_7, sh_8, sh_9, sh_10, sh_11, sh_12, sh_13, sh_14, sh_15, sh_16, sh_17, sh_18, sh_19, sh_20, sh_21, sh_22, sh_23, sh_24, sh_25, sh_26, sh_27, sh_28, sh_29, sh_30, sh_31, sh_32, sh_33, sh_34, sh_35, sh_36, sh_37, sh_38, sh_39, sh_40, sh_41, sh_42, sh_43, sh_44, sh_45, sh_46, sh_47, sh_48, sh_49, sh_50, sh_51, sh_52, sh_53, sh_54, sh_55, sh_56, sh_57, sh_58, sh_59, sh_60, sh_61, sh_62, sh_63, sh_64, sh_65, sh_66, sh_67, sh_68, hl, hvw9, Nat.reduceLT, Nat.reduceAdd, Nat.reduceMul, ne_eq, Nat.reduceEqDiff, not_false_eq_true, or_true, true_or, or_false, false_or, and_true, true_and, and_self, Nat.reduceLeDiff, am_ci, am_cr, am_cn0, Option.toList_some, Option.toList_none, List.cons_append, List.nil_append, am_s0, am_s1, am_s1r, am_s2, am_s2r, am_s3r, nI_add, am_u_ne, am_u_at, am_u_n1, am_u_n2, am_w_ne, c_hasString hN g2 o2, hb1, if_pos z1, hs7, k1, k2, c_xOf h.1 hp5]
  by_cases hh : rSt σ r s = true
  · have hx := hst.mp hh
    have c1 : ¬ (nI (xw w (p_ow σ s)) + p_far σ s) < 0 := by rw [a3, go_eq hx.1]; exact nI_pos (by omega)
    have c2 : (nI (xw w (p_ow σ s)) + p_far σ s) ≤ nI 9 := by rw [a3, go_eq hx.1]; exact nI_le (by omega) (by omega)
    obtain ⟨t1, t2, -, -⟩ := trn_sh _ a4 _ hp5
    have hge := sh_ge hp5 hx.1
    have f1 : nI w + (nI (fb σ s * 16 ^ p_ow σ s) - nI (9 * 16 ^ p_ow σ s)) = nI (shW w (p_ow σ s) (fb σ s)) := by
      unfold shW
      rw [← pk_sub hge, ← nI_add, Int32.sub_eq_add_neg, Int32.sub_eq_add_neg, Int32.add_assoc]
    obtain ⟨q1, q2, q3⟩ := sh_x (b := fb σ s) h.1 _ hp5 hx.1 hx.2
    have l1 : ft σ s % 2 * 2 ^ (20 + p_ow σ s) < 2 ^ 32 := by
      rcases tb (c := ft σ s % 2) (k := 20 + p_ow σ s) (by omega) with z | z <;> rw [z]
      · omega
      · exact Nat.pow_lt_pow_right (by omega) (by omega)
    have l2 : ft σ s / 2 * 2 ^ (25 + p_ow σ s) < 2 ^ 32 := by
      rcases tb (c := ft σ s / 2) (k := 25 + p_ow σ s) (by omega) with z | z <;> rw [z]
      · omega
      · exact Nat.pow_lt_pow_right (by omega) (by omega)
    simp only [am_lv_of, rX10_moved_31, rX10_moved_33, rX10_moved_36, rX10_moved_38, rX10_moved_40, rX10_moved_43, rX10_moved_44, rX10_moved_45, rX10_moved_46, rX10_moved_47, rX10_moved_48, rX10_moved_51, rX10_moved_52, rX10_moved_53, rX10_moved_56, rX10_moved_57, rX10_moved_58, rX10_moved_61, rX10_moved_62, rX10_moved_63, rX10_moved_66, ro_0_0 hR, ro_0_3 hR, ro_0_4 hR, ro_0_5 hR, ro_0_6 hR, ro_0_7 hR, ro_0_8 hR, ro_0_9 hR, ro_0_10 hR, ro_0_11 hR, ro_2_6 hR, ro_2_7 hR, ro_2_8 hR, ro_2_9 hR, ro_2_10 hR, ro_2_11 hR, ro_2_12 hR, ro_2_13 hR, ro_9_0 hR, ro_9_1 hR, ro_9_2 hR, ro_14_0 hR, ro_14_1 hR, ro_14_2 hR, ro_14_7 hR, ro_15_0 hR, ro_15_1 hR, ro_15_2 hR, ro_15_3 hR, ro_20_6 hR, ro_20_7 hR, ro_20_8 hR, ro_20_9 hR, ro_20_10 hR, ro_20_11 hR, ro_20_12 hR, ro_20_13 hR, ro_27_0 hR, ro_27_1 hR, ro_27_2 hR, ro_32_0 hR, ro_32_1 hR, ro_34_10 hR, ro_34_11 hR, ro_34_12 hR, ro_34_13 hR, ro_39_0 hR, ro_39_1 hR, ro_42_0 hR, ro_42_1 hR, ro_47_0 hR, ro_47_1 hR, ro_47_2 hR, ro_47_3 hR, ro_55_0 hR, ro_55_1 hR, ro_55_2 hR, ro_57_0 hR, ro_57_1 hR, ro_57_2 hR, ro_57_3 hR, ro_57_4 hR, ro_57_5 hR, ro_57_8 hR, sh_0, sh_1, sh_2, sh_3, sh_4, sh_5, sh_6, sh_7, sh_8, sh_9, sh_10, sh_11, sh_12, sh_13, sh_14, sh_15, sh_16, sh_17, sh_18, sh_19, sh_20, sh_21, sh_22, sh_23, sh_24, sh_25, sh_26, sh_27, sh_28, sh_29, sh_30, sh_31, sh_32, sh_33, sh_34, sh_35, sh_36, sh_37, sh_38, sh_39, sh_40, sh_41, sh_42, sh_43, sh_44, sh_45, sh_46, sh_47, sh_48, sh_49, sh_50, sh_51, sh_52, sh_53, sh_54, sh_55, sh_56, sh_57, sh_58, sh_59, sh_60, sh_61, sh_62, sh_63, sh_64, sh_65, sh_66, sh_67, sh_68, hl, hvw9, Nat.reduceLT, Nat.reduceAdd, Nat.reduceMul, ne_eq, Nat.reduceEqDiff, not_false_eq_true, or_true, true_or, or_false, false_or, and_true, true_and, and_self, Nat.reduceLeDiff, am_ci, am_cr, am_cn0, Option.toList_some, Option.toList_none, List.cons_append, List.nil_append, am_s0, am_s1, am_s1r, am_s2, am_s2r, am_s3r, nI_add, am_u_ne, am_u_at, am_u_n1, am_u_n2, am_w_ne, if_neg c1, if_pos c2, hs7, k2, k4, rX8_shifted_0, rX8_shifted_1, rX8_shifted_2, rX8_shifted_3, rX8_shifted_4, rX8_shifted_5, rX8_shifted_6, rX8_shifted_7, rX8_turned_0, rX8_turned_1, rX8_turned_2, rX8_turned_3, rX8_turned_4, rX8_turned_6, rX8_turned_7, rX8_turned_8, rX8_turned_9, rX8_turned_10, rX8_turned_11, rX8_turned_12, rX8_turned_13, rX8_turned_15, rX8_turned_16, rX8_turned_17, rX8_turned_18, rX8_turned_19]
    rw [a3, a5, far_sh _ (by omega) _ hp5, f1, t1, t2, nI_xor (by omega) l1, nI_xor (Nat.xor_lt_two_pow (by omega) l1) l2, if_pos hh]
    rfl
  · rw [if_neg hh]
    rw [hgo] at hh
    by_cases c1 : (nI (xw w (p_ow σ s)) + p_far σ s) < 0
    · simp only [am_lv_of, rX10_moved_31, rX10_moved_33, rX10_moved_43, rX10_moved_44, ro_0_0 hR, ro_0_3 hR, ro_0_4 hR, ro_0_5 hR, ro_0_6 hR, ro_0_7 hR, ro_0_8 hR, ro_0_9 hR, ro_0_10 hR, ro_0_11 hR, ro_2_6 hR, ro_2_7 hR, ro_2_8 hR, ro_2_9 hR, ro_2_10 hR, ro_2_11 hR, ro_2_12 hR, ro_2_13 hR, ro_9_0 hR, ro_9_1 hR, ro_9_2 hR, ro_14_0 hR, ro_14_1 hR, ro_14_2 hR, ro_14_7 hR, ro_15_0 hR, ro_15_1 hR, ro_15_2 hR, ro_15_3 hR, ro_20_6 hR, ro_20_7 hR, ro_20_8 hR, ro_20_9 hR, ro_20_10 hR, ro_20_11 hR, ro_20_12 hR, ro_20_13 hR, ro_27_0 hR, ro_27_1 hR, ro_27_2 hR, ro_32_0 hR, ro_32_1 hR, ro_34_10 hR, ro_34_11 hR, ro_34_12 hR, ro_34_13 hR, ro_39_0 hR, ro_39_1 hR, ro_42_0 hR, ro_42_1 hR, ro_47_0 hR, ro_47_1 hR, ro_47_2 hR, ro_47_3 hR, ro_55_0 hR, ro_55_1 hR, ro_55_2 hR, ro_57_0 hR, ro_57_1 hR, ro_57_2 hR, ro_57_3 hR, ro_57_4 hR, ro_57_5 hR, ro_57_8 hR, sh_0, sh_1, sh_2, sh_3, sh_4, sh_5, sh_6, sh_7, sh_8, sh_9, sh_10, sh_11, sh_12, sh_13, sh_14, sh_15, sh_16, sh_17, sh_18, sh_19, sh_20, sh_21, sh_22, sh_23, sh_24, sh_25, sh_26, sh_27, sh_28, sh_29, sh_30, sh_31, sh_32, sh_33, sh_34, sh_35, sh_36, sh_37, sh_38, sh_39, sh_40, sh_41, sh_42, sh_43, sh_44, sh_45, sh_46, sh_47, sh_48, sh_49, sh_50, sh_51, sh_52, sh_53, sh_54, sh_55, sh_56, sh_57, sh_58, sh_59, sh_60, sh_61, sh_62, sh_63, sh_64, sh_65, sh_66, sh_67, sh_68, hl, hvw9, Nat.reduceLT, Nat.reduceAdd, Nat.reduceMul, ne_eq, Nat.reduceEqDiff, not_false_eq_true, or_true, true_or, or_false, false_or, and_true, true_and, and_self, Nat.reduceLeDiff, am_ci, am_cr, am_cn0, Option.toList_some, Option.toList_none, List.cons_append, List.nil_append, am_s0, am_s1, am_s1r, am_s2, am_s2r, am_s3r, nI_add, am_u_ne, am_u_at, am_u_n1, am_u_n2, am_w_ne, if_pos c1]
    · have c2 : ¬ (nI (xw w (p_ow σ s)) + p_far σ s) ≤ nI 9 := fun z => hh (by simp [z]; exact Int32.not_lt.mp c1)
      simp only [am_lv_of, rX10_moved_31, rX10_moved_33, rX10_moved_36, rX10_moved_38, rX10_moved_40, rX10_moved_43, rX10_moved_44, ro_0_0 hR, ro_0_3 hR, ro_0_4 hR, ro_0_5 hR, ro_0_6 hR, ro_0_7 hR, ro_0_8 hR, ro_0_9 hR, ro_0_10 hR, ro_0_11 hR, ro_2_6 hR, ro_2_7 hR, ro_2_8 hR, ro_2_9 hR, ro_2_10 hR, ro_2_11 hR, ro_2_12 hR, ro_2_13 hR, ro_9_0 hR, ro_9_1 hR, ro_9_2 hR, ro_14_0 hR, ro_14_1 hR, ro_14_2 hR, ro_14_7 hR, ro_15_0 hR, ro_15_1 hR, ro_15_2 hR, ro_15_3 hR, ro_20_6 hR, ro_20_7 hR, ro_20_8 hR, ro_20_9 hR, ro_20_10 hR, ro_20_11 hR, ro_20_12 hR, ro_20_13 hR, ro_27_0 hR, ro_27_1 hR, ro_27_2 hR, ro_32_0 hR, ro_32_1 hR, ro_34_10 hR, ro_34_11 hR, ro_34_12 hR, ro_34_13 hR, ro_39_0 hR, ro_39_1 hR, ro_42_0 hR, ro_42_1 hR, ro_47_0 hR, ro_47_1 hR, ro_47_2 hR, ro_47_3 hR, ro_55_0 hR, ro_55_1 hR, ro_55_2 hR, ro_57_0 hR, ro_57_1 hR, ro_57_2 hR, ro_57_3 hR, ro_57_4 hR, ro_57_5 hR, ro_57_8 hR, sh_0, sh_1, sh_2, sh_3, sh_4, sh_5, sh_6, sh_7, sh_8, sh_9, sh_10, sh_11, sh_12, sh_13, sh_14, sh_15, sh_16, sh_17, sh_18, sh_19, sh_20, sh_21, sh_22, sh_23, sh_24, sh_25, sh_26, sh_27, sh_28, sh_29, sh_30, sh_31, sh_32, sh_33, sh_34, sh_35, sh_36, sh_37, sh_38, sh_39, sh_40, sh_41, sh_42, sh_43, sh_44, sh_45, sh_46, sh_47, sh_48, sh_49, sh_50, sh_51, sh_52, sh_53, sh_54, sh_55, sh_56, sh_57, sh_58, sh_59, sh_60, sh_61, sh_62, sh_63, sh_64, sh_65, sh_66, sh_67, sh_68, hl, hvw9, Nat.reduceLT, Nat.reduceAdd, Nat.reduceMul, ne_eq, Nat.reduceEqDiff, not_false_eq_true, or_true, true_or, or_false, false_or, and_true, true_and, and_self, Nat.reduceLeDiff, am_ci, am_cr, am_cn0, Option.toList_some, Option.toList_none, List.cons_append, List.nil_append, am_s0, am_s1, am_s1r, am_s2, am_s2r, am_s3r, nI_add, am_u_ne, am_u_at, am_u_n1, am_u_n2, am_w_ne, if_neg c1, if_neg c2]
end CLD
