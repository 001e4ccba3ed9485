--! 79
/-! PLAYS: one more pull for all poses -/
def agR (R R' : Nat → Nat → Option Nat) : Prop := ∀ k j, ¬ (k = 42 ∧ 2 ≤ j ∧ j ≤ 5) → R' k j = R k j
theorem agR.refl {R : Nat → Nat → Option Nat} : agR R R := fun _ _ _ => rfl
theorem agR.trans {R R' R'' : Nat → Nat → Option Nat} (h1 : agR R R') (h2 : agR R' R'') : agR R R'' := fun k j h => (h2 k j h).trans (h1 k j h)
theorem agR.OR {R R' : Nat → Nat → Option Nat} (h : agR R R') (hR : am_OR R) : am_OR R' := fun e he => by
  rw [h _ _ (am_links_42 e he)]; exact hR e he
theorem agR.row {R R' : Nat → Nat → Option Nat} {k : Nat} (h : agR R R') (hk : k ≠ 42) : R' k = R k := funext fun j => h k j (fun z => hk z.1)
theorem plA.L {R : Nat → Nat → Option Nat} {A B C D : Nat} (h : plA R A B C D) : plL R := by
  obtain ⟨h0, h1, h2, h3, h4⟩ := h
  rcases h0 with ⟨rfl, rfl, rfl, rfl⟩ | ⟨rfl, rfl, rfl, rfl⟩
  · exact Or.inl ⟨h1, h2, h3, h4⟩
  · exact Or.inr ⟨h1, h2, h3, h4⟩
theorem agR.rel {n : Nat} {R R' : Nat → Nat → Option Nat} (h : agR R R') (H : relR n R) (hp : plL R') : relR n R' := by
  obtain ⟨h1, h2, h3, h4, h5, h6, h7, h8, -⟩ := H
  have e40 := h.row (k := 40) (by omega)
  have e41 := h.row (k := 41) (by omega)
  have ec : cnt R' = cnt R := by unfold cnt; rw [e40, e41]
  refine ⟨h.OR h1, by rw [ec]; exact h2, by rw [e40]; exact h3, by rw [e41]; exact h4, by rw [e40]; exact h5, by rw [e41]; exact h6, by rw [e40, e41]; exact h7, fun k hk => ?_, hp⟩
  rw [h.row (k := k) (by have := hk.1; omega)]; exact h8 k hk
theorem RELs.pl {n : Nat} {I I' : Nat → Nat → Int32} {L : Nat → Nat → Int64} {R R' : Nat → Nat → Option Nat} {σ : rfP} (h : RELs (n, I, L, R) σ) (g : am_ag scrP I I') (a : agR R R') (hp : plL R') : RELs (n, I', L, R') σ := by
  obtain ⟨h1, h2, h3, h4, h5, h6, h7, h8⟩ := h.scr g
  refine ⟨a.rel h1 hp, h2, h3, h4, h5, ?_, ?_, h8⟩
  · have e40 := a.row (k := 40) (by omega)
    show relU I' R' _ _
    unfold relU
    rw [e40]
    exact h6
  · have e41 := a.row (k := 41) (by omega)
    show relH I' R' _ _
    unfold relH
    rw [e41]
    exact h7
/-- what holds while the ways below t of the next level are gone through -/
def lvN (lst : Prop) (ok' : Nat → Option Nat) (z' : Nat → Bool) (fd' : Nat → Int32) (gl : Nat → Bool) (t : Nat) (l : List (Nat × Int32)) : Prop := noG ok' gl t ∧ (∀ q, q ∈ l → gl q.1 = false) ∧ l.length ≤ 210 ∧ (¬ lst → l = lv ok' z' fd' t)
theorem lvN.seen {lst : Prop} {ok' : Nat → Option Nat} {z' : Nat → Bool} {fd' : Nat → Int32} {gl : Nat → Bool} {t : Nat} {l : List (Nat × Int32)} (h : lvN lst ok' z' fd' gl t l) (hs : ∀ w, ok' t = some w → ∃ y, y < t ∧ ok' y = some w) : lvN lst ok' z' fd' gl (t + 1) l :=
  ⟨noG_seen h.1 hs, h.2.1, h.2.2.1, fun z => by rw [lv_seen hs]; exact h.2.2.2 z⟩
theorem lvN.seens {lst : Prop} {ok' : Nat → Option Nat} {z' : Nat → Bool} {fd' : Nat → Int32} {gl : Nat → Bool} {l : List (Nat × Int32)} : ∀ (m t : Nat), (∀ s, s < m → ∀ w, ok' (t + s) = some w → ∃ y, y < t + s ∧ ok' y = some w) → lvN lst ok' z' fd' gl t l → lvN lst ok' z' fd' gl (t + m) l := by
  intro m
  induction m with
  | zero => intro t _ h; exact h
  | succ m ih =>
    intro t hs h
    exact (ih t (fun s hm => hs s (by omega)) h).seen (hs m (by omega))
/-- what a level writes -/
def omP (C D k j : Nat) : Prop := skc k j ∨ (k = 42 ∧ (j = 7 ∨ j = 11)) ∨ k = C ∨ k = D
section PC
variable {X : am_X} {d n : Nat} {I : Nat → Nat → Int32} {L : Nat → Nat → Int64} {R : Nat → Nat → Option Nat} {Q : Option Value → am_M → Prop} {σ : rfP}
def glW (σ : rfP) (kind pp : Nat) (wt pl : Int32) (w : Nat) : Bool := gB kind wt pp (p_P σ) w (vdW σ w pl)
theorem cl_om {A B C D : Nat} {J : Nat → Nat → Int32} (H : cl_S I σ) (hpl : plA R A B C D) (g : am_ag (omP C D) I J) : cl_S J σ := by
  obtain ⟨bA, bB, bC, bD, -⟩ := hpl.bd
  exact H.ag (fun k j hk => g k j (by unfold omP skc; omega))
theorem l_omIn {A B C D w i y kind pp : Nat} {pl sd wt f : Int32} {lst : Prop} {ok' : Nat → Option Nat} {z' : Nat → Bool} {fd' : Nat → Int32} (hR : am_OR R) (hN : 116 ≤ n) (hn : n ≤ 1000) (ho : ok_S σ) (H : cl_S I σ) (hpl : plA R A B C D) (hi : i < 210) (hA : I A i = nI w) (hB : I B i = f) (hw : okP σ w) (hk : I 42 8 = nI kind) (hk2 : kind ≤ 2) (hwt : I 42 9 = wt) (hpp : kind = 2 → I 42 10 = nI pp ∧ pp < 5)
    (hok : ∀ s, s < 7 → ok' (7 * y + s) = if s < p_S σ ∧ mayW σ w s sd pl = true then some (cMv σ w s) else none)
    (hfd : ∀ s, s < 7 → fd' (7 * y + s) = if f = -1 then nI s else f)
    (hz : ∀ x, z' x = decide (vdW σ x (pl + nI 1) = 0))
    (hlen : ¬ lst → ∀ t, (lv ok' z' fd' t).length ≤ 210)
    (hT : ∀ t x I', t < 7 * (y + 1) → noG ok' (glW σ kind pp wt (pl + nI 1)) t → ok' t = some x → glW σ kind pp wt (pl + nI 1) x = true → am_ag (omP C D) I I' → I' 42 11 = fd' t → Q (some (.int (nI 1))) (n, I', L, R))
    (hF : ∀ I' l l4 l5, am_nl l4 → am_ag (omP C D) I I' → arrI I' C D l → I' 42 7 = nI l.length → lvN lst ok' z' fd' (glW σ kind pp wt (pl + nI 1)) (7 * (y + 1)) l → am_E X (d + 5) mX7_oneMore 115 [some (.ref 42), some (.int pl), some (.int sd), some (.int (nI i)), l4, l5] [] (n, I', L, R) Q) :
    ∀ (m s : Nat) (J : Nat → Nat → Int32) (l : List (Nat × Int32)) (l5 : Option Value), s + m = p_S σ → am_ag (omP C D) I J → arrI J C D l → J 42 7 = nI l.length → lvN lst ok' z' fd' (glW σ kind pp wt (pl + nI 1)) (7 * y + s) l → am_E X (d + 5) mX7_oneMore 25 [some (.ref 42), some (.int pl), some (.int sd), some (.int (nI i)), some (.int (nI s)), l5] [] (n, J, L, R) Q := by
  have hl := am_lt hN
  have hvw9 := am_lw hN
  have S7 := ho.2.1
  obtain ⟨rA, rB, rC, rD⟩ := hpl.rf
  obtain ⟨sA, sB, sC, sD⟩ := hpl.sh
  obtain ⟨bA, bB, bC, bD, nAC, nAD, nBC, nBD, nCD, nAB⟩ := hpl.bd
  have lA : A < n := by omega
  have lB : B < n := by omega
  intro m
  induction m with
  | zero =>
    intro s J l l5 hs hJ ha h7 hv
    have hs : s = p_S σ := by omega
    subst hs
    have h1 : nI (p_S σ) ≤ nI (p_S σ) := nI_le (Nat.le_refl _) (by omega)
    have e1 : J 2 1 = nI (p_S σ) := (cl_om H hpl hJ).2.1
    simp only [am_lv_of, rX7_oneMore_25, rX7_oneMore_27, rX7_oneMore_28, rX7_oneMore_31, rX7_oneMore_34, ro_0_0 hR, ro_0_3 hR, ro_0_4 hR, ro_0_5 hR, ro_0_6 hR, ro_0_7 hR, ro_0_8 hR, ro_0_9 hR, ro_0_10 hR, ro_0_11 hR, ro_2_6 hR, ro_2_7 hR, ro_2_8 hR, ro_2_9 hR, ro_2_10 hR, ro_2_11 hR, ro_2_12 hR, ro_2_13 hR, ro_9_0 hR, ro_9_1 hR, ro_9_2 hR, ro_14_0 hR, ro_14_1 hR, ro_14_2 hR, ro_14_7 hR, ro_15_0 hR, ro_15_1 hR, ro_15_2 hR, ro_15_3 hR, ro_20_6 hR, ro_20_7 hR, ro_20_8 hR, ro_20_9 hR, ro_20_10 hR, ro_20_11 hR, ro_20_12 hR, ro_20_13 hR, ro_27_0 hR, ro_27_1 hR, ro_27_2 hR, ro_32_0 hR, ro_32_1 hR, ro_34_10 hR, ro_34_11 hR, ro_34_12 hR, ro_34_13 hR, ro_39_0 hR, ro_39_1 hR, ro_42_0 hR, ro_42_1 hR, ro_47_0 hR, ro_47_1 hR, ro_47_2 hR, ro_47_3 hR, ro_55_0 hR, ro_55_1 hR, ro_55_2 hR, ro_57_0 hR, ro_57_1 hR, ro_57_2 hR, ro_57_3 hR, ro_57_4 hR, ro_57_5 hR, ro_57_8 hR, sh_0, sh_1, sh_2, sh_3, sh_4, sh_5, sh_6, sh_7, sh_8, sh_9, sh_10, sh_11, sh_12, sh_13, sh_14, sh_15, sh_16, sh_17, sh_18, sh_19, sh_20, sh_21, sh_22, sh_23, sh_24, sh_25, sh_26, sh_27, sh_28, sh_29, sh_30, sh_31, sh_32, sh_33, sh_34, sh_35, sh_36, sh_37, sh_38, sh_39, sh_40, sh_41, sh_42, sh_43, sh_44, sh_45, sh_46, sh_47, sh_48, sh_49, sh_50, sh_51, sh_52, sh_53, sh_54, sh_55, sh_56, sh_57, sh_58, sh_59, sh_60, sh_61, sh_62, sh_63, sh_64, sh_65, sh_66, sh_67, sh_68, hl, hvw9, Nat.reduceLT, Nat.reduceAdd, Nat.reduceMul, ne_eq, Nat.reduceEqDiff, not_false_eq_true, or_true, true_or, or_false, false_or, and_true, true_and, and_self, Nat.reduceLeDiff, am_ci, am_cr, am_cn0, Option.toList_some, Option.toList_none, List.cons_append, List.nil_append, am_s0, am_s1, am_s1r, am_s2, am_s2r, am_s3r, nI_add, am_u_ne, am_u_at, am_u_n1, am_u_n2, am_w_ne, ↓reduceIte, e1, h1]
    refine hF J l _ _ am_ci hJ ha h7 ?_
    have := lvN.seens (7 - p_S σ) (7 * y + p_S σ) (fun s hs w' hw' => by
      rw [Nat.add_assoc, hok (p_S σ + s) (by omega), if_neg (by omega)] at hw'
      cases hw') hv
    rw [show 7 * (y + 1) = 7 * y + p_S σ + (7 - p_S σ) by omega]
    exact this
  | succ m ih =>
    intro s J l l5 hs hJ ha h7 hv
    have hs2 : s < p_S σ := by omega
    have h1 : ¬ nI (p_S σ) ≤ nI s := nI_ge (by omega) (by omega)
    have HJ := cl_om H hpl hJ
    have e1 : J 2 1 = nI (p_S σ) := HJ.2.1
    have eA : J A i = nI w := by rw [hJ A i (by unfold omP skc; omega)]; exact hA
    rw [rX7_oneMore_25]
    simp only [am_lv_of, rX7_oneMore_27, rX7_oneMore_28, rX7_oneMore_31, rX7_oneMore_34, rX7_oneMore_37, rX7_oneMore_38, rX7_oneMore_41, rX7_oneMore_42, rX7_oneMore_45, rX7_oneMore_46, rX7_oneMore_47, rX7_oneMore_48, rX7_oneMore_49, rX7_oneMore_51, ro_0_0 hR, ro_0_3 hR, ro_0_4 hR, ro_0_5 hR, ro_0_6 hR, ro_0_7 hR, ro_0_8 hR, ro_0_9 hR, ro_0_10 hR, ro_0_11 hR, ro_2_6 hR, ro_2_7 hR, ro_2_8 hR, ro_2_9 hR, ro_2_10 hR, ro_2_11 hR, ro_2_12 hR, ro_2_13 hR, ro_9_0 hR, ro_9_1 hR, ro_9_2 hR, ro_14_0 hR, ro_14_1 hR, ro_14_2 hR, ro_14_7 hR, ro_15_0 hR, ro_15_1 hR, ro_15_2 hR, ro_15_3 hR, ro_20_6 hR, ro_20_7 hR, ro_20_8 hR, ro_20_9 hR, ro_20_10 hR, ro_20_11 hR, ro_20_12 hR, ro_20_13 hR, ro_27_0 hR, ro_27_1 hR, ro_27_2 hR, ro_32_0 hR, ro_32_1 hR, ro_34_10 hR, ro_34_11 hR, ro_34_12 hR, ro_34_13 hR, ro_39_0 hR, ro_39_1 hR, ro_42_0 hR, ro_42_1 hR, ro_47_0 hR, ro_47_1 hR, ro_47_2 hR, ro_47_3 hR, ro_55_0 hR, ro_55_1 hR, ro_55_2 hR, ro_57_0 hR, ro_57_1 hR, ro_57_2 hR, ro_57_3 hR, ro_57_4 hR, ro_57_5 hR, ro_57_8 hR, sh_0, sh_1, sh_2, sh_3, sh_4, sh_5, sh_6, sh_7, sh_8, sh_9, sh_10, sh_11, sh_12, sh_13, sh_14, sh_15, sh_16, sh_17, sh_18, sh_19, sh_20, sh_21, sh_22, sh_23, sh_24, sh_25, sh_26, sh_27, sh_28, sh_29, sh_30, sh_31, sh_32, sh_33, sh_34, sh_35, sh_36, sh_37, sh_38, sh_39, sh_40, sh_41, sh_42, sh_43, sh_44, sh_45, sh_46, sh_47, sh_48, sh_49, sh_50, sh_51, sh_52, sh_53, sh_54, sh_55, sh_56, sh_57, sh_58, sh_59, sh_60, sh_61, sh_62, sh_63, sh_64, sh_65, sh_66, sh_67, sh_68, hl, hvw9, Nat.reduceLT, Nat.reduceAdd, Nat.reduceMul, ne_eq, Nat.reduceEqDiff, not_false_eq_true, or_true, true_or, or_false, false_or, and_true, true_and, and_self, Nat.reduceLeDiff, am_ci, am_cr, am_cn0, Option.toList_some, Option.toList_none, List.cons_append, List.nil_append, am_s0, am_s1, am_s1r, am_s2, am_s2r, am_s3r, nI_add, am_u_ne, am_u_at, am_u_n1, am_u_n2, am_w_ne, ↓reduceIte, e1, h1, rA, sA, lA, hi, eA]
    refine c_allowsW (σ := σ) hR hN hn ho HJ hs2 hw (fun J1 g1 => ?_)
    have hJ1 : am_ag (omP C D) I J1 := hJ.trans (g1.mono (fun k j z => Or.inl z))
    have HJ1 := cl_om H hpl hJ1
    have ha1 : arrI J1 C D l := ha.ag (fun j => ⟨g1 C j (by unfold skc; omega), g1 D j (by unfold skc; omega)⟩)
    have h71 : J1 42 7 = nI l.length := by rw [g1 42 7 (by unfold skc; omega)]; exact h7
    have eok := hok s (by omega)
    simp only [am_lv_of, Option.toList_some, List.cons_append, List.nil_append, rX7_oneMore_54, bI_ne]
    by_cases hm : mayW σ w s sd pl = true
    · have hst := mayW_st ho hs2 hw hm
      have hwm := hw.mv ho hs2 hst
      rw [if_pos ⟨hs2, hm⟩] at eok
      have eA1 : J1 A i = nI w := by rw [hJ1 A i (by unfold omP skc; omega)]; exact hA
      have eB1 : J1 B i = f := by rw [hJ1 B i (by unfold omP skc; omega)]; exact hB
      have key : ∀ fv, fv = fd' (7 * y + s) → am_E X (d + 5) mX7_oneMore 80 [some (.ref 42), some (.int pl), some (.int sd), some (.int (nI i)), some (.int (nI s)), some (.int fv)] [] (n, J1, L, R) Q := by
        intro fv hfv
        have z0 : (nI 0 = 0) = True := eq_true rfl
        have z1 : ¬ nI 1 = 0 := by decide
        simp only [am_lv_of, rX7_oneMore_80, rX7_oneMore_81, rX7_oneMore_82, rX7_oneMore_85, rX7_oneMore_86, rX7_oneMore_89, rX7_oneMore_90, rX7_oneMore_91, rX7_oneMore_93, rX7_oneMore_96, rX7_oneMore_97, rX7_oneMore_98, rX7_oneMore_99, rX7_oneMore_101, ro_0_0 hR, ro_0_3 hR, ro_0_4 hR, ro_0_5 hR, ro_0_6 hR, ro_0_7 hR, ro_0_8 hR, ro_0_9 hR, ro_0_10 hR, ro_0_11 hR, ro_2_6 hR, ro_2_7 hR, ro_2_8 hR, ro_2_9 hR, ro_2_10 hR, ro_2_11 hR, ro_2_12 hR, ro_2_13 hR, ro_9_0 hR, ro_9_1 hR, ro_9_2 hR, ro_14_0 hR, ro_14_1 hR, ro_14_2 hR, ro_14_7 hR, ro_15_0 hR, ro_15_1 hR, ro_15_2 hR, ro_15_3 hR, ro_20_6 hR, ro_20_7 hR, ro_20_8 hR, ro_20_9 hR, ro_20_10 hR, ro_20_11 hR, ro_20_12 hR, ro_20_13 hR, ro_27_0 hR, ro_27_1 hR, ro_27_2 hR, ro_32_0 hR, ro_32_1 hR, ro_34_10 hR, ro_34_11 hR, ro_34_12 hR, ro_34_13 hR, ro_39_0 hR, ro_39_1 hR, ro_42_0 hR, ro_42_1 hR, ro_47_0 hR, ro_47_1 hR, ro_47_2 hR, ro_47_3 hR, ro_55_0 hR, ro_55_1 hR, ro_55_2 hR, ro_57_0 hR, ro_57_1 hR, ro_57_2 hR, ro_57_3 hR, ro_57_4 hR, ro_57_5 hR, ro_57_8 hR, sh_0, sh_1, sh_2, sh_3, sh_4, sh_5, sh_6, sh_7, sh_8, sh_9, sh_10, sh_11, sh_12, sh_13, sh_14, sh_15, sh_16, sh_17, sh_18, sh_19, sh_20, sh_21, sh_22, sh_23, sh_24, sh_25, sh_26, sh_27, sh_28, sh_29, sh_30, sh_31, sh_32, sh_33, sh_34, sh_35, sh_36, sh_37, sh_38, sh_39, sh_40, sh_41, sh_42, sh_43, sh_44, sh_45, sh_46, sh_47, sh_48, sh_49, sh_50, sh_51, sh_52, sh_53, sh_54, sh_55, sh_56, sh_57, sh_58, sh_59, sh_60, sh_61, sh_62, sh_63, sh_64, sh_65, sh_66, sh_67, sh_68, hl, hvw9, Nat.reduceLT, Nat.reduceAdd, Nat.reduceMul, ne_eq, Nat.reduceEqDiff, not_false_eq_true, or_true, true_or, or_false, false_or, and_true, true_and, and_self, Nat.reduceLeDiff, am_ci, am_cr, am_cn0, Option.toList_some, Option.toList_none, List.cons_append, List.nil_append, am_s0, am_s1, am_s1r, am_s2, am_s2r, am_s3r, nI_add, am_u_ne, am_u_at, am_u_n1, am_u_n2, am_w_ne, ↓reduceIte, rA, sA, lA, hi, eA1, c_movedW hR hN hn ho HJ1 hs2 hw, hst]
        refine c_reaches (σ := σ) (kind := kind) (pp := pp) (wt := wt) (l := l) hR hN hn ho HJ1 hpl ha1 h71 hv.2.2.1 hwm (by rw [hJ1 42 8 (by unfold omP skc; omega)]; exact hk) hk2 (by rw [hJ1 42 9 (by unfold omP skc; omega)]; exact hwt) (fun z => by rw [hJ1 42 10 (by unfold omP skc; omega)]; exact hpp z) ?_ ?_ ?_ ?_
        · intro hmem
          simp only [am_lv_of, Option.toList_some, List.cons_append, List.nil_append, rX7_oneMore_104, z0, ↓reduceIte, rX7_oneMore_109, rX7_oneMore_112, hl, hvw9, Nat.reduceLT, Nat.reduceAdd, Nat.reduceMul, ne_eq, Nat.reduceEqDiff, not_false_eq_true, or_true, true_or, or_false, false_or, and_true, true_and, and_self, Nat.reduceLeDiff, am_ci, am_cr, am_cn0, Option.toList_some, Option.toList_none, List.cons_append, List.nil_append, am_s0, am_s1, am_s1r, am_s2, am_s2r, am_s3r, nI_add, am_u_ne, am_u_at, am_u_n1, am_u_n2, am_w_ne]
          refine ih (s + 1) J1 l _ (by omega) hJ1 ha1 h71 ?_
          rw [← Nat.add_assoc]
          obtain ⟨q, q1, q2⟩ := List.mem_map.mp hmem
          have hg : glW σ kind pp wt (pl + nI 1) (cMv σ w s) = false := by rw [← q2]; exact hv.2.1 q q1
          refine ⟨fun y' hy' w' hw' => ?_, hv.2.1, hv.2.2.1, fun hls => ?_⟩
          · by_cases e : y' = 7 * y + s
            · rw [e, eok] at hw'; cases hw'; exact hg
            · exact hv.1 y' (by omega) w' hw'
          · have el := hv.2.2.2 hls
            rw [lv_same eok (fun z => z.2 (by rw [← el]; exact hmem))]
            exact el
        · intro hmem hg I2 g2 e2
          simp only [am_lv_of, Option.toList_some, List.cons_append, List.nil_append, rX7_oneMore_104, z1, ↓reduceIte, rX7_oneMore_107, rX7_oneMore_108, rX7_oneMore_108_0, rX7_oneMore_108_1, hl, hvw9, Nat.reduceLT, Nat.reduceAdd, Nat.reduceMul, ne_eq, Nat.reduceEqDiff, not_false_eq_true, or_true, true_or, or_false, false_or, and_true, true_and, and_self, Nat.reduceLeDiff, am_ci, am_cr, am_cn0, Option.toList_some, Option.toList_none, List.cons_append, List.nil_append, am_s0, am_s1, am_s1r, am_s2, am_s2r, am_s3r, nI_add, am_u_ne, am_u_at, am_u_n1, am_u_n2, am_w_ne]
          exact hT (7 * y + s) (cMv σ w s) I2 (by omega) hv.1 eok hg (hJ1.trans (g2.mono (fun k j z => by unfold skc at z; unfold omP skc; omega))) (by rw [e2]; exact hfv)
        · intro hmem hg hv0 hlen2 I2 g2 ha2 h72
          simp only [am_lv_of, Option.toList_some, List.cons_append, List.nil_append, rX7_oneMore_104, z0, ↓reduceIte, rX7_oneMore_109, rX7_oneMore_112, hl, hvw9, Nat.reduceLT, Nat.reduceAdd, Nat.reduceMul, ne_eq, Nat.reduceEqDiff, not_false_eq_true, or_true, true_or, or_false, false_or, and_true, true_and, and_self, Nat.reduceLeDiff, am_ci, am_cr, am_cn0, Option.toList_some, Option.toList_none, List.cons_append, List.nil_append, am_s0, am_s1, am_s1r, am_s2, am_s2r, am_s3r, nI_add, am_u_ne, am_u_at, am_u_n1, am_u_n2, am_w_ne]
          refine ih (s + 1) I2 _ _ (by omega) (hJ1.trans (g2.mono (fun k j z => by unfold skc at z; unfold omP skc; omega))) ha2 h72 ?_
          rw [← Nat.add_assoc]
          refine ⟨fun y' hy' w' hw' => ?_, fun q hq => ?_, ?_, fun hls => ?_⟩
          · by_cases e : y' = 7 * y + s
            · rw [e, eok] at hw'; cases hw'; exact hg
            · exact hv.1 y' (by omega) w' hw'
          · rw [List.mem_append] at hq
            rcases hq with hq | hq
            · exact hv.2.1 q hq
            · have : q = (cMv σ w s, fv) := by simpa using hq
              rw [this]; exact hg
          · rw [List.length_append]; simp; omega
          · have el := hv.2.2.2 hls
            rw [lv_new eok (by rw [hz]; exact decide_eq_true hv0) (by rw [← el]; exact hmem), ← el, hfv]
        · intro hmem hg hv0 I2 g2
          simp only [am_lv_of, Option.toList_some, List.cons_append, List.nil_append, rX7_oneMore_104, z0, ↓reduceIte, rX7_oneMore_109, rX7_oneMore_112, hl, hvw9, Nat.reduceLT, Nat.reduceAdd, Nat.reduceMul, ne_eq, Nat.reduceEqDiff, not_false_eq_true, or_true, true_or, or_false, false_or, and_true, true_and, and_self, Nat.reduceLeDiff, am_ci, am_cr, am_cn0, Option.toList_some, Option.toList_none, List.cons_append, List.nil_append, am_s0, am_s1, am_s1r, am_s2, am_s2r, am_s3r, nI_add, am_u_ne, am_u_at, am_u_n1, am_u_n2, am_w_ne]
          refine ih (s + 1) I2 l _ (by omega) (hJ1.trans (g2.mono (fun k j z => Or.inl z))) (ha1.ag (fun j => ⟨g2 C j (by unfold skc; omega), g2 D j (by unfold skc; omega)⟩)) (by rw [g2 42 7 (by unfold skc; omega)]; exact h71) ?_
          rw [← Nat.add_assoc]
          refine ⟨fun y' hy' w' hw' => ?_, hv.2.1, hv.2.2.1, fun hls => ?_⟩
          · by_cases e : y' = 7 * y + s
            · rw [e, eok] at hw'; cases hw'; exact hg
            · exact hv.1 y' (by omega) w' hw'
          · have el := hv.2.2.2 hls
            by_cases hv1 : vdW σ (cMv σ w s) (pl + nI 1) = 0
            · have h210 : l.length = 210 := hv0.resolve_left (fun z => z hv1)
              have := hlen hls (7 * y + s + 1)
              rw [lv_new eok (by rw [hz]; exact decide_eq_true hv1) (by rw [← el]; exact hmem), List.length_append, ← el] at this
              simp at this
              omega
            · rw [lv_same eok (fun z => hv1 (by have := z.1; rw [hz] at this; exact of_decide_eq_true this))]
              exact el
      have efd := hfd s (by omega)
      by_cases hf : f = -1
      · have hf' : (f = -1) = True := eq_true hf
        simp only [am_lv_of, hm, Bool.true_eq_false, ↓reduceIte, rX7_oneMore_57, rX7_oneMore_58, rX7_oneMore_61, rX7_oneMore_62, rX7_oneMore_63, rX7_oneMore_64, rX7_oneMore_67, rX7_oneMore_69, rX7_oneMore_72, rX7_oneMore_73, rX7_oneMore_76, rX7_oneMore_77, rX7_oneMore_78, ro_0_0 hR, ro_0_3 hR, ro_0_4 hR, ro_0_5 hR, ro_0_6 hR, ro_0_7 hR, ro_0_8 hR, ro_0_9 hR, ro_0_10 hR, ro_0_11 hR, ro_2_6 hR, ro_2_7 hR, ro_2_8 hR, ro_2_9 hR, ro_2_10 hR, ro_2_11 hR, ro_2_12 hR, ro_2_13 hR, ro_9_0 hR, ro_9_1 hR, ro_9_2 hR, ro_14_0 hR, ro_14_1 hR, ro_14_2 hR, ro_14_7 hR, ro_15_0 hR, ro_15_1 hR, ro_15_2 hR, ro_15_3 hR, ro_20_6 hR, ro_20_7 hR, ro_20_8 hR, ro_20_9 hR, ro_20_10 hR, ro_20_11 hR, ro_20_12 hR, ro_20_13 hR, ro_27_0 hR, ro_27_1 hR, ro_27_2 hR, ro_32_0 hR, ro_32_1 hR, ro_34_10 hR, ro_34_11 hR, ro_34_12 hR, ro_34_13 hR, ro_39_0 hR, ro_39_1 hR, ro_42_0 hR, ro_42_1 hR, ro_47_0 hR, ro_47_1 hR, ro_47_2 hR, ro_47_3 hR, ro_55_0 hR, ro_55_1 hR, ro_55_2 hR, ro_57_0 hR, ro_57_1 hR, ro_57_2 hR, ro_57_3 hR, ro_57_4 hR, ro_57_5 hR, ro_57_8 hR, sh_0, sh_1, sh_2, sh_3, sh_4, sh_5, sh_6, sh_7, sh_8, sh_9, sh_10, sh_11, sh_12, sh_13, sh_14, sh_15, sh_16, sh_17, sh_18, sh_19, sh_20, sh_21, sh_22, sh_23, sh_24, sh_25, sh_26, sh_27, sh_28, sh_29, sh_30, sh_31, sh_32, sh_33, sh_34, sh_35, sh_36, sh_37, sh_38, sh_39, sh_40, sh_41, sh_42, sh_43, sh_44, sh_45, sh_46, sh_47, sh_48, sh_49, sh_50, sh_51, sh_52, sh_53, sh_54, sh_55, sh_56, sh_57, sh_58, sh_59, sh_60, sh_61, sh_62, sh_63, sh_64, sh_65, sh_66, sh_67, sh_68, hl, hvw9, Nat.reduceLT, Nat.reduceAdd, Nat.reduceMul, ne_eq, Nat.reduceEqDiff, not_false_eq_true, or_true, true_or, or_false, false_or, and_true, true_and, and_self, Nat.reduceLeDiff, am_ci, am_cr, am_cn0, Option.toList_some, Option.toList_none, List.cons_append, List.nil_append, am_s0, am_s1, am_s1r, am_s2, am_s2r, am_s3r, nI_add, am_u_ne, am_u_at, am_u_n1, am_u_n2, am_w_ne, rB, sB, lB, hi, eB1, hf', not_true_eq_false]
        exact key _ (by rw [efd, if_pos hf])
      · simp only [am_lv_of, hm, Bool.true_eq_false, ↓reduceIte, rX7_oneMore_57, rX7_oneMore_58, rX7_oneMore_61, rX7_oneMore_62, rX7_oneMore_63, rX7_oneMore_64, rX7_oneMore_67, rX7_oneMore_69, rX7_oneMore_72, rX7_oneMore_73, rX7_oneMore_76, rX7_oneMore_77, rX7_oneMore_78, ro_0_0 hR, ro_0_3 hR, ro_0_4 hR, ro_0_5 hR, ro_0_6 hR, ro_0_7 hR, ro_0_8 hR, ro_0_9 hR, ro_0_10 hR, ro_0_11 hR, ro_2_6 hR, ro_2_7 hR, ro_2_8 hR, ro_2_9 hR, ro_2_10 hR, ro_2_11 hR, ro_2_12 hR, ro_2_13 hR, ro_9_0 hR, ro_9_1 hR, ro_9_2 hR, ro_14_0 hR, ro_14_1 hR, ro_14_2 hR, ro_14_7 hR, ro_15_0 hR, ro_15_1 hR, ro_15_2 hR, ro_15_3 hR, ro_20_6 hR, ro_20_7 hR, ro_20_8 hR, ro_20_9 hR, ro_20_10 hR, ro_20_11 hR, ro_20_12 hR, ro_20_13 hR, ro_27_0 hR, ro_27_1 hR, ro_27_2 hR, ro_32_0 hR, ro_32_1 hR, ro_34_10 hR, ro_34_11 hR, ro_34_12 hR, ro_34_13 hR, ro_39_0 hR, ro_39_1 hR, ro_42_0 hR, ro_42_1 hR, ro_47_0 hR, ro_47_1 hR, ro_47_2 hR, ro_47_3 hR, ro_55_0 hR, ro_55_1 hR, ro_55_2 hR, ro_57_0 hR, ro_57_1 hR, ro_57_2 hR, ro_57_3 hR, ro_57_4 hR, ro_57_5 hR, ro_57_8 hR, sh_0, sh_1, sh_2, sh_3, sh_4, sh_5, sh_6, sh_7, sh_8, sh_9, sh_10, sh_11, sh_12, sh_13, sh_14, sh_15, sh_16, sh_17, sh_18, sh_19, sh_20, sh_21, sh_22, sh_23, sh_24, sh_25, sh_26, sh_27, sh_28, sh_29, sh_30, sh_31, sh_32, sh_33, sh_34, sh_35, sh_36, sh_37, sh_38, sh_39, sh_40, sh_41, sh_42, sh_43, sh_44, sh_45, sh_46, sh_47, sh_48, sh_49, sh_50, sh_51, sh_52, sh_53, sh_54, sh_55, sh_56, sh_57, sh_58, sh_59, sh_60, sh_61, sh_62, sh_63, sh_64, sh_65, sh_66, sh_67, sh_68, hl, hvw9, Nat.reduceLT, Nat.reduceAdd, Nat.reduceMul, ne_eq, Nat.reduceEqDiff, not_false_eq_true, or_true, true_or, or_false, false_or, and_true, true_and, and_self, Nat.reduceLeDiff, am_ci, am_cr, am_cn0, Option.toList_some, Option.toList_none, List.cons_append, List.nil_append, am_s0, am_s1, am_s1r, am_s2, am_s2r, am_s3r, nI_add, am_u_ne, am_u_at, am_u_n1, am_u_n2, am_w_ne, rB, sB, lB, hi, eB1, hf, not_false_eq_true]
        exact key _ (by rw [efd, if_neg hf])
    · rw [if_neg (fun z => hm z.2)] at eok
      have hm : mayW σ w s sd pl = false := by simpa using hm
      simp only [am_lv_of, hm, ↓reduceIte, rX7_oneMore_109, rX7_oneMore_112, hl, hvw9, Nat.reduceLT, Nat.reduceAdd, Nat.reduceMul, ne_eq, Nat.reduceEqDiff, not_false_eq_true, or_true, true_or, or_false, false_or, and_true, true_and, and_self, Nat.reduceLeDiff, am_ci, am_cr, am_cn0, Option.toList_some, Option.toList_none, List.cons_append, List.nil_append, am_s0, am_s1, am_s1r, am_s2, am_s2r, am_s3r, nI_add, am_u_ne, am_u_at, am_u_n1, am_u_n2, am_w_ne]
      refine ih (s + 1) J1 l _ (by omega) hJ1 ha1 h71 ?_
      rw [← Nat.add_assoc]
      exact hv.seen (fun w' hw' => by rw [eok] at hw'; cases hw')
theorem l_omOut {A B C D N kind pp : Nat} {pl sd wt : Int32} {lst : Prop} {ok ok' : Nat → Option Nat} {z z' : Nat → Bool} {fd fd' : Nat → Int32} (hR : am_OR R) (hN : 116 ≤ n) (hn : n ≤ 1000) (ho : ok_S σ) (H : cl_S I σ) (hpl : plA R A B C D) (ha0 : arrI I A B (lv ok z fd N)) (h6 : I 42 6 = nI (lv ok z fd N).length) (h210 : (lv ok z fd N).length ≤ 210) (hk : I 42 8 = nI kind) (hk2 : kind ≤ 2) (hwt : I 42 9 = wt) (hpp : kind = 2 → I 42 10 = nI pp ∧ pp < 5)
    (hokP : ∀ y w, ok y = some w → okP σ w)
    (hok : ∀ y s, s < 7 → ok' (7 * y + s) = (ok y).bind (fun w => if s < p_S σ ∧ z w = true ∧ mayW σ w s sd pl = true then some (cMv σ w s) else none))
    (hfd : ∀ y s, s < 7 → fd' (7 * y + s) = if fd y = -1 then nI s else fd y)
    (hz : ∀ x, z' x = decide (vdW σ x (pl + nI 1) = 0))
    (hlen : ¬ lst → ∀ t, (lv ok' z' fd' t).length ≤ 210)
    (hT : ∀ t x I', t < 7 * N → noG ok' (glW σ kind pp wt (pl + nI 1)) t → ok' t = some x → glW σ kind pp wt (pl + nI 1) x = true → am_ag (omP C D) I I' → I' 42 11 = fd' t → Q (some (.int (nI 1))) (n, I', L, R))
    (hF : ∀ I' l R', agR R R' → plA R' C D A B → am_ag (fun k j => omP C D k j ∨ (k = 42 ∧ j = 6)) I I' → arrI I' C D l → I' 42 6 = nI l.length → lvN lst ok' z' fd' (glW σ kind pp wt (pl + nI 1)) (7 * N) l → Q (some (.int (nI 0))) (n, I', L, R')) :
    ∀ (m y : Nat) (J : Nat → Nat → Int32) (l : List (Nat × Int32)) (l4 l5 : Option Value), y + m = N → am_nl l4 → am_ag (omP C D) I J → arrI J C D l → J 42 7 = nI l.length → lvN lst ok' z' fd' (glW σ kind pp wt (pl + nI 1)) (7 * y) l → am_E X (d + 5) mX7_oneMore 7 [some (.ref 42), some (.int pl), some (.int sd), some (.int (nI (lv ok z fd y).length)), l4, l5] [] (n, J, L, R) Q := by
  have hl := am_lt hN
  have hvw9 := am_lw hN
  have S7 := ho.2.1
  obtain ⟨rA, rB, rC, rD⟩ := hpl.rf
  obtain ⟨bA, bB, bC, bD, nAC, nAD, nBC, nBD, nCD, nAB⟩ := hpl.bd
  intro m
  induction m with
  | zero =>
    intro y J l l4 l5 hy n4 hJ ha h7 hv
    have hy : y = N := by omega
    subst hy
    have h1 : nI (lv ok z fd y).length ≤ nI (lv ok z fd y).length := nI_le (Nat.le_refl _) (by omega)
    have e6 : J 42 6 = nI (lv ok z fd y).length := by rw [hJ 42 6 (by unfold omP skc; omega)]; exact h6
    obtain ⟨p0, p1, p2, p3, p4⟩ := id hpl
    simp only [am_lv_of, rX7_oneMore_7, rX7_oneMore_8, rX7_oneMore_9, rX7_oneMore_12, rX7_oneMore_121, rX7_oneMore_122, rX7_swap_0, rX7_swap_1, rX7_swap_4, rX7_swap_5, rX7_swap_6, rX7_swap_9, rX7_swap_10, rX7_swap_11, rX7_swap_12, rX7_swap_15, rX7_swap_18, rX7_swap_19, rX7_swap_20, rX7_swap_23, rX7_swap_26, rX7_swap_27, rX7_swap_28, rX7_swap_31, rX7_swap_32, rX7_swap_33, rX7_swap_36, rX7_swap_37, rX7_swap_38, rX7_swap_41, rX7_swap_44, ro_0_0 hR, ro_0_3 hR, ro_0_4 hR, ro_0_5 hR, ro_0_6 hR, ro_0_7 hR, ro_0_8 hR, ro_0_9 hR, ro_0_10 hR, ro_0_11 hR, ro_2_6 hR, ro_2_7 hR, ro_2_8 hR, ro_2_9 hR, ro_2_10 hR, ro_2_11 hR, ro_2_12 hR, ro_2_13 hR, ro_9_0 hR, ro_9_1 hR, ro_9_2 hR, ro_14_0 hR, ro_14_1 hR, ro_14_2 hR, ro_14_7 hR, ro_15_0 hR, ro_15_1 hR, ro_15_2 hR, ro_15_3 hR, ro_20_6 hR, ro_20_7 hR, ro_20_8 hR, ro_20_9 hR, ro_20_10 hR, ro_20_11 hR, ro_20_12 hR, ro_20_13 hR, ro_27_0 hR, ro_27_1 hR, ro_27_2 hR, ro_32_0 hR, ro_32_1 hR, ro_34_10 hR, ro_34_11 hR, ro_34_12 hR, ro_34_13 hR, ro_39_0 hR, ro_39_1 hR, ro_42_0 hR, ro_42_1 hR, ro_47_0 hR, ro_47_1 hR, ro_47_2 hR, ro_47_3 hR, ro_55_0 hR, ro_55_1 hR, ro_55_2 hR, ro_57_0 hR, ro_57_1 hR, ro_57_2 hR, ro_57_3 hR, ro_57_4 hR, ro_57_5 hR, ro_57_8 hR, sh_0, sh_1, sh_2, sh_3, sh_4, sh_5, sh_6, sh_7, sh_8, sh_9, sh_10, sh_11, sh_12, sh_13, sh_14, sh_15, sh_16, sh_17, sh_18, sh_19, sh_20, sh_21, sh_22, sh_23, sh_24, sh_25, sh_26, sh_27, sh_28, sh_29, sh_30, sh_31, sh_32, sh_33, sh_34, sh_35, sh_36, sh_37, sh_38, sh_39, sh_40, sh_41, sh_42, sh_43, sh_44, sh_45, sh_46, sh_47, sh_48, sh_49, sh_50, sh_51, sh_52, sh_53, sh_54, sh_55, sh_56, sh_57, sh_58, sh_59, sh_60, sh_61, sh_62, sh_63, sh_64, sh_65, sh_66, sh_67, sh_68, hl, hvw9, Nat.reduceLT, Nat.reduceAdd, Nat.reduceMul, ne_eq, Nat.reduceEqDiff, not_false_eq_true, or_true, true_or, or_false, false_or, and_true, true_and, and_self, Nat.reduceLeDiff, am_ci, am_cr, am_cn0, Option.toList_some, Option.toList_none, List.cons_append, List.nil_append, am_s0, am_s1, am_s1r, am_s2, am_s2r, am_s3r, nI_add, am_u_ne, am_u_at, am_u_n1, am_u_n2, am_w_ne, ↓reduceIte, hn, e6, h1, rA, rB, rC, rD, rX7_oneMore_125, rX7_oneMore_126_0]
    refine hF _ l _ (fun k j hkj => ?_) ⟨?_, ?_, ?_, ?_, ?_⟩ ((hJ.mono (fun k j z => Or.inl z)).u (Or.inr ⟨rfl, rfl⟩)) (ha.ag (fun j => ⟨am_u_n1 (by omega), am_u_n1 (by omega)⟩)) ?_ hv
    · by_cases e : k = 42
      · subst e
        rw [am_u_n2 (by omega), am_u_n2 (by omega), am_u_n2 (by omega), am_u_n2 (by omega)]
      · rw [am_u_n1 e, am_u_n1 e, am_u_n1 e, am_u_n1 e]
    · rcases p0 with h | h
      · exact Or.inr ⟨h.2.2.1, h.2.2.2, h.1, h.2.1⟩
      · exact Or.inl ⟨h.2.2.1, h.2.2.2, h.1, h.2.1⟩
    · rw [am_u_n2 (by omega), am_u_n2 (by omega), am_u_n2 (by omega), am_u_at]
    · rw [am_u_n2 (by omega), am_u_n2 (by omega), am_u_at]
    · rw [am_u_n2 (by omega), am_u_at]
    · rw [am_u_at]
    · rw [am_u_at]; exact h7
  | succ m ih =>
    intro y J l l4 l5 hy n4 hJ ha h7 hv
    have old : (lv ok z fd (y + 1) = lv ok z fd y) → (∀ s, s < 7 → ∀ w, ok' (7 * y + s) = some w → ∃ y', y' < 7 * y + s ∧ ok' y' = some w) → am_E X (d + 5) mX7_oneMore 7 [some (.ref 42), some (.int pl), some (.int sd), some (.int (nI (lv ok z fd y).length)), l4, l5] [] (n, J, L, R) Q := by
      intro e1 e2
      rw [← e1]
      refine ih (y + 1) J l l4 l5 (by omega) n4 hJ ha h7 ?_
      exact lvN.seens 7 (7 * y) e2 hv
    cases hoy : ok y with
    | none => exact old (lv_none hoy) (fun s hs w hw => by rw [hok y s hs, hoy] at hw; cases hw)
    | some w =>
      by_cases hnew : z w = true ∧ ¬ w ∈ (lv ok z fd y).map (fun q => q.1)
      · have hnw := lv_new (fd := fd) hoy hnew.1 hnew.2
        have hi : (lv ok z fd (y + 1))[(lv ok z fd y).length]? = some (w, fd y) := by rw [hnw, List.getElem?_append_right (Nat.le_refl _), Nat.sub_self]; rfl
        have hiN : (lv ok z fd N)[(lv ok z fd y).length]? = some (w, fd y) := by
          have := lv_keep m (y + 1) _ _ hi
          rw [show y + 1 + m = N by omega] at this
          exact this
        obtain ⟨a1, a2, a3⟩ := ha0 _ _ hiN
        have hlt := (List.getElem?_eq_some_iff.mp hiN).1
        have h1 : ¬ nI (lv ok z fd N).length ≤ nI (lv ok z fd y).length := nI_ge hlt (by omega)
        have h2 : ¬ nI 210 ≤ nI (lv ok z fd y).length := nI_ge (by omega) (by omega)
        have e6 : J 42 6 = nI (lv ok z fd N).length := by rw [hJ 42 6 (by unfold omP skc; omega)]; exact h6
        rw [rX7_oneMore_7]
        simp only [am_lv_of, rX7_oneMore_8, rX7_oneMore_9, rX7_oneMore_12, rX7_oneMore_15, rX7_oneMore_16, rX7_oneMore_19, rX7_oneMore_22, rX7_oneMore_23, ro_0_0 hR, ro_0_3 hR, ro_0_4 hR, ro_0_5 hR, ro_0_6 hR, ro_0_7 hR, ro_0_8 hR, ro_0_9 hR, ro_0_10 hR, ro_0_11 hR, ro_2_6 hR, ro_2_7 hR, ro_2_8 hR, ro_2_9 hR, ro_2_10 hR, ro_2_11 hR, ro_2_12 hR, ro_2_13 hR, ro_9_0 hR, ro_9_1 hR, ro_9_2 hR, ro_14_0 hR, ro_14_1 hR, ro_14_2 hR, ro_14_7 hR, ro_15_0 hR, ro_15_1 hR, ro_15_2 hR, ro_15_3 hR, ro_20_6 hR, ro_20_7 hR, ro_20_8 hR, ro_20_9 hR, ro_20_10 hR, ro_20_11 hR, ro_20_12 hR, ro_20_13 hR, ro_27_0 hR, ro_27_1 hR, ro_27_2 hR, ro_32_0 hR, ro_32_1 hR, ro_34_10 hR, ro_34_11 hR, ro_34_12 hR, ro_34_13 hR, ro_39_0 hR, ro_39_1 hR, ro_42_0 hR, ro_42_1 hR, ro_47_0 hR, ro_47_1 hR, ro_47_2 hR, ro_47_3 hR, ro_55_0 hR, ro_55_1 hR, ro_55_2 hR, ro_57_0 hR, ro_57_1 hR, ro_57_2 hR, ro_57_3 hR, ro_57_4 hR, ro_57_5 hR, ro_57_8 hR, sh_0, sh_1, sh_2, sh_3, sh_4, sh_5, sh_6, sh_7, sh_8, sh_9, sh_10, sh_11, sh_12, sh_13, sh_14, sh_15, sh_16, sh_17, sh_18, sh_19, sh_20, sh_21, sh_22, sh_23, sh_24, sh_25, sh_26, sh_27, sh_28, sh_29, sh_30, sh_31, sh_32, sh_33, sh_34, sh_35, sh_36, sh_37, sh_38, sh_39, sh_40, sh_41, sh_42, sh_43, sh_44, sh_45, sh_46, sh_47, sh_48, sh_49, sh_50, sh_51, sh_52, sh_53, sh_54, sh_55, sh_56, sh_57, sh_58, sh_59, sh_60, sh_61, sh_62, sh_63, sh_64, sh_65, sh_66, sh_67, sh_68, hl, hvw9, Nat.reduceLT, Nat.reduceAdd, Nat.reduceMul, ne_eq, Nat.reduceEqDiff, not_false_eq_true, or_true, true_or, or_false, false_or, and_true, true_and, and_self, Nat.reduceLeDiff, am_ci, am_cr, am_cn0, Option.toList_some, Option.toList_none, List.cons_append, List.nil_append, am_s0, am_s1, am_s1r, am_s2, am_s2r, am_s3r, nI_add, am_u_ne, am_u_at, am_u_n1, am_u_n2, am_w_ne, ↓reduceIte, e6, h1, h2]
        refine l_omIn (σ := σ) (y := y) (w := w) (f := fd y) (kind := kind) (pp := pp) (wt := wt) (lst := lst) (ok' := ok') (z' := z') (fd' := fd') hR hN hn ho (cl_om H hpl hJ) hpl (by omega) (by rw [hJ A _ (by unfold omP skc; omega)]; exact a1) (by rw [hJ B _ (by unfold omP skc; omega)]; exact a2) (hokP y w hoy) (by rw [hJ 42 8 (by unfold omP skc; omega)]; exact hk) hk2 (by rw [hJ 42 9 (by unfold omP skc; omega)]; exact hwt) (fun z => by rw [hJ 42 10 (by unfold omP skc; omega)]; exact hpp z) (fun s hs => ?_) (fun s hs => hfd y s hs) hz hlen (fun t x I' t1 t2 t3 t4 t5 t6 => hT t x I' (by omega) t2 t3 t4 (hJ.trans t5) t6) (fun I' l' l4' l5' n4' g a1' a2' a3' => ?_) (p_S σ) 0 J l l5 (by omega) am_ag.refl ha h7 hv
        · rw [hok y s hs, hoy]
          simp [hnew.1]
        · simp only [am_lv_of, rX7_oneMore_115, rX7_oneMore_118, hl, hvw9, Nat.reduceLT, Nat.reduceAdd, Nat.reduceMul, ne_eq, Nat.reduceEqDiff, not_false_eq_true, or_true, true_or, or_false, false_or, and_true, true_and, and_self, Nat.reduceLeDiff, am_ci, am_cr, am_cn0, Option.toList_some, Option.toList_none, List.cons_append, List.nil_append, am_s0, am_s1, am_s1r, am_s2, am_s2r, am_s3r, nI_add, am_u_ne, am_u_at, am_u_n1, am_u_n2, am_w_ne]
          have e : (lv ok z fd y).length + 1 = (lv ok z fd (y + 1)).length := by rw [hnw, List.length_append]; rfl
          rw [e]
          exact ih (y + 1) I' l' l4' l5' (by omega) n4' (hJ.trans g) a1' a2' a3'
      · refine old (lv_same hoy hnew) (fun s hs w' hw' => ?_)
        rw [hok y s hs, hoy] at hw'
        by_cases hzw : z w = true
        · have hmem : w ∈ (lv ok z fd y).map (fun q => q.1) := Classical.byContradiction fun c => hnew ⟨hzw, c⟩
          obtain ⟨q, q1, q2⟩ := List.mem_map.mp hmem
          obtain ⟨y', y1, y2, -⟩ := lv_from y q q1
          refine ⟨7 * y' + s, by omega, ?_⟩
          rw [hok y' s hs, y2, q2]
          exact hw'
        · rw [Option.bind_some, if_neg (fun z => hzw z.2.1)] at hw'
          cases hw'
theorem c_oneMore {A B C D N kind pp : Nat} {pl sd wt : Int32} {lst : Prop} {ok ok' : Nat → Option Nat} {z z' : Nat → Bool} {fd fd' : Nat → Int32} (hR : am_OR R) (hN : 116 ≤ n) (hn : n ≤ 1000) (ho : ok_S σ) (H : cl_S I σ) (hpl : plA R A B C D) (ha0 : arrI I A B (lv ok z fd N)) (h6 : I 42 6 = nI (lv ok z fd N).length) (h210 : (lv ok z fd N).length ≤ 210) (hk : I 42 8 = nI kind) (hk2 : kind ≤ 2) (hwt : I 42 9 = wt) (hpp : kind = 2 → I 42 10 = nI pp ∧ pp < 5)
    (hokP : ∀ y w, ok y = some w → okP σ w)
    (hok : ∀ y s, s < 7 → ok' (7 * y + s) = (ok y).bind (fun w => if s < p_S σ ∧ z w = true ∧ mayW σ w s sd pl = true then some (cMv σ w s) else none))
    (hfd : ∀ y s, s < 7 → fd' (7 * y + s) = if fd y = -1 then nI s else fd y)
    (hz : ∀ x, z' x = decide (vdW σ x (pl + nI 1) = 0))
    (hlen : ¬ lst → ∀ t, (lv ok' z' fd' t).length ≤ 210)
    (hT : ∀ t x I', t < 7 * N → noG ok' (glW σ kind pp wt (pl + nI 1)) t → ok' t = some x → glW σ kind pp wt (pl + nI 1) x = true → am_ag (omP C D) I I' → I' 42 11 = fd' t → Q (some (.int (nI 1))) (n, I', L, R))
    (hF : ∀ I' l R', agR R R' → plA R' C D A B → am_ag (fun k j => omP C D k j ∨ (k = 42 ∧ j = 6)) I I' → arrI I' C D l → I' 42 6 = nI l.length → lvN lst ok' z' fd' (glW σ kind pp wt (pl + nI 1)) (7 * N) l → Q (some (.int (nI 0))) (n, I', L, R')) : am_E X (d + 5) mX7_oneMore 0 [some (.ref 42), some (.int pl), some (.int sd), none, none, none] [] (n, I, L, R) Q := by
  have hl := am_lt hN
  have hvw9 := am_lw hN
  simp only [am_lv_of, rX7_oneMore_0, rX7_oneMore_1, rX7_oneMore_2, rX7_oneMore_5, rX7_oneMore_6, ro_0_0 hR, ro_0_3 hR, ro_0_4 hR, ro_0_5 hR, ro_0_6 hR, ro_0_7 hR, ro_0_8 hR, ro_0_9 hR, ro_0_10 hR, ro_0_11 hR, ro_2_6 hR, ro_2_7 hR, ro_2_8 hR, ro_2_9 hR, ro_2_10 hR, ro_2_11 hR, ro_2_12 hR, ro_2_13 hR, ro_9_0 hR, ro_9_1 hR, ro_9_2 hR, ro_14_0 hR, ro_14_1 hR, ro_14_2 hR, ro_14_7 hR, ro_15_0 hR, ro_15_1 hR, ro_15_2 hR, ro_15_3 hR, ro_20_6 hR, ro_20_7 hR, ro_20_8 hR, ro_20_9 hR, ro_20_10 hR, ro_20_11 hR, ro_20_12 hR, ro_20_13 hR, ro_27_0 hR, ro_27_1 hR, ro_27_2 hR, ro_32_0 hR, ro_32_1 hR, ro_34_10 hR, ro_34_11 hR, ro_34_12 hR, ro_34_13 hR, ro_39_0 hR, ro_39_1 hR, ro_42_0 hR, ro_42_1 hR, ro_47_0 hR, ro_47_1 hR, ro_47_2 hR, ro_47_3 hR, ro_55_0 hR, ro_55_1 hR, ro_55_2 hR, ro_57_0 hR, ro_57_1 hR, ro_57_2 hR, ro_57_3 hR, ro_57_4 hR, ro_57_5 hR, ro_57_8 hR, sh_0, sh_1, sh_2, sh_3, sh_4, sh_5, sh_6, sh_7, sh_8, sh_9, sh_10, sh_11, sh_12, sh_13, sh_14, sh_15, sh_16, sh_17, sh_18, sh_19, sh_20, sh_21, sh_22, sh_23, sh_24, sh_25, sh_26, sh_27, sh_28, sh_29, sh_30, sh_31, sh_32, sh_33, sh_34, sh_35, sh_36, sh_37, sh_38, sh_39, sh_40, sh_41, sh_42, sh_43, sh_44, sh_45, sh_46, sh_47, sh_48, sh_49, sh_50, sh_51, sh_52, sh_53, sh_54, sh_55, sh_56, sh_57, sh_58, sh_59, sh_60, sh_61, sh_62, sh_63, sh_64, sh_65, sh_66, sh_67, sh_68, hl, hvw9, Nat.reduceLT, Nat.reduceAdd, Nat.reduceMul, ne_eq, Nat.reduceEqDiff, not_false_eq_true, or_true, true_or, or_false, false_or, and_true, true_and, and_self, Nat.reduceLeDiff, am_ci, am_cr, am_cn0, Option.toList_some, Option.toList_none, List.cons_append, List.nil_append, am_s0, am_s1, am_s1r, am_s2, am_s2r, am_s3r, nI_add, am_u_ne, am_u_at, am_u_n1, am_u_n2, am_w_ne, hn]
  refine l_omOut (σ := σ) (N := N) (kind := kind) (pp := pp) (wt := wt) (lst := lst) (ok := ok) (ok' := ok') (z := z) (z' := z') (fd := fd) (fd' := fd') hR hN hn ho H hpl ha0 h6 h210 hk hk2 hwt hpp hokP hok hfd hz hlen hT hF N 0 _ [] none none (by omega) am_cn0 (am_ag.refl.u (Or.inr (Or.inl ⟨rfl, Or.inl rfl⟩))) (fun i q hq => by simp at hq) am_u_at ⟨fun y hy => absurd hy (Nat.not_lt_zero _), fun q hq => by simp at hq, by simp, fun _ => rfl⟩
end PC
