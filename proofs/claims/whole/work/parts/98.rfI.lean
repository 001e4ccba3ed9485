--! 98
/-! TEXTS: the reference and the names -/
def nmR (J : Nat → Nat → Int32) (K : Nat → Nat → Int64) (nm : nmT) : Prop := J 69 20 = nI nm.length ∧ nm.length ≤ 12 ∧ ∀ i e, nm[i]? = some e → K 77 i = lN (cdW 27 e.1) ∧ okW e.1 ∧ e.1.length ≤ 8 ∧ J 78 i = oI e.2 ∧ ∀ p, e.2 = some p → p < 5
def nmD (nm : nmT) : Prop := ∀ (i j : Nat) (e e' : List Nat × Option Nat), nm[i]? = some e → nm[j]? = some e' → e.1 = e'.1 → i = j
theorem nt_t {x : txt} {f : Nat × Nat} {k t : Nat} : nt x (nt x f true k t) true k t = nt x f true k t := by
  by_cases h : f.1 = 0
  · have e1 : nt x f true k t = (k, kP x t) := if_pos ⟨h, rfl⟩
    rw [e1]
    unfold nt
    split <;> rfl
  · have e1 : nt x f true k t = f := if_neg (fun z => h z.1)
    rw [e1, e1]
theorem nmR.ag {I J : Nat → Nat → Int32} {L : Nat → Nat → Int64} {nm : nmT} (H : nmR I L nm) (g : ∀ k j, (k = 69 ∧ j = 20) ∨ k = 78 → J k j = I k j) : nmR J L nm := by
  obtain ⟨h1, h2, h3⟩ := H
  refine ⟨by rw [g 69 20 (by omega)]; exact h1, h2, fun i e he => ?_⟩
  obtain ⟨a1, a2, a3, a4, a5⟩ := h3 i e he
  exact ⟨a1, a2, a3, by rw [g 78 i (by omega)]; exact a4, a5⟩
theorem nmD_lk {nm : nmT} {w : List Nat} (D : nmD nm) {i p : Nat} {e : List Nat × Option Nat} (h : nm[i]? = some e) (hw : e.1 = w) (hp : e.2 = some p) : lkN nm w = some p := by
  have hi := (List.getElem?_eq_some_iff.mp h).1
  have hlt : nIx nm w < nm.length := by
    by_cases c : nIx nm w ≤ i
    · omega
    · exact absurd hw (nIx_lt (by omega) h)
  obtain ⟨q, q1, q2⟩ := nIx_at hlt
  have := D i _ e q h q1 (by rw [hw, q2])
  unfold lkN
  rw [← this, h]
  exact hp
theorem lk_none {nm : nmT} {w : List Nat} (h : ∀ (i : Nat) (e : List Nat × Option Nat), nm[i]? = some e → e.1 = w → e.2 = none) : lkN nm w = none := by
  unfold lkN
  by_cases c : nIx nm w < nm.length
  · obtain ⟨q, q1, q2⟩ := nIx_at c
    rw [q1]
    exact h _ q q1 q2
  · rw [List.getElem?_eq_none (by omega)]
    rfl
section FI
variable {X : am_X} {d n : Nat} {I : Nat → Nat → Int32} {L : Nat → Nat → Int64} {R : Nat → Nat → Option Nat} {Q : Option Value → am_M → Prop} {x : txt}
theorem rsT.m {t u : Nat} (h : rsT I L x t) (hu : u ≤ t) (hk : kK x u = 20) : L 75 u = lN (cdW 27 (kM x u)) ∧ okW (kM x u) ∧ (kM x u).length ≤ 8 := by
  have h20 : tK x (ps x u) ≤ 20 := by show kK x u ≤ 20; omega
  exact ⟨(h.1 u (by have := h.2.2.1; omega) (fun q hq => h.2.2.2.1 q (by omega))).2.2.2 (by omega), tM_ok h20⟩
theorem rsT.frL {K : Nat → Nat → Int64} {t : Nat} (h : rsT I L x t) (g : ∀ j, K 75 j = L 75 j) : rsT I K x t := by
  obtain ⟨h1, h2⟩ := h
  refine ⟨fun k hk hq => ?_, h2⟩
  obtain ⟨a1, a2, a3, a4⟩ := h1 k hk hq
  exact ⟨a1, a2, a3, fun z => by rw [g]; exact a4 z⟩
theorem l_named {t : Nat} {f : Nat × Nat} {nm : nmT} {w : List Nat} (hx : x.1 ≤ 2000) (hR : am_OR R) (hN : 116 ≤ n) (hn : n ≤ 1000) (O : sfO f (kP x t)) (w1 : okW w) (w2 : w.length ≤ 8) (h75 : L 75 t = lN (cdW 27 w)) (hQ : ∀ J', am_ag wrP I J' → rsT J' L x (t + 1) → nmR J' L nm → sfR J' (nt x f (decide (nIx nm w < nm.length)) 3 t) → Q (some (.int (nI t))) (n, J', L, R)) : ∀ (m i : Nat) (J : Nat → Nat → Int32), i + m = nm.length → am_ag wrP I J → rsT J L x (t + 1) → nmR J L nm → sfR J (nt x f (decide (nIx nm w < i)) 3 t) → am_E X (d + 3) mX13_named 12 [some (.ref 69), some (.int (nI t)), some (.int (nI i))] [] (n, J, L, R) Q := by
  have hl := am_lt hN
  have hvw9 := am_lw hN
  have z0 : (nI 0 = 0) = True := eq_true rfl
  intro m
  induction m with
  | zero =>
    intro i J hi g T H F
    have hi : i = nm.length := by omega
    subst hi
    have c1 : nI nm.length ≤ nI nm.length := nI_le (Nat.le_refl _) (by have := H.2.1; omega)
    simp only [am_lv_of, rX13_named_12, rX13_named_13, rX13_named_14, rX13_named_17, rX13_named_55, rX13_named_56, ro_69_1 hR, ro_69_3 hR, ro_69_5 hR, ro_69_6 hR, ro_69_7 hR, ro_69_8 hR, ro_69_9 hR, ro_69_21 hR, ro_69_22 hR, ro_69_23 hR, ro_69_24 hR, ro_69_25 hR, ro_69_26 hR, ro_69_27 hR, ro_69_28 hR, ro_69_29 hR, ro_69_30 hR, ro_69_31 hR, ro_69_32 hR, ro_69_33 hR, ro_69_34 hR, ro_69_35 hR, ro_69_36 hR, ro_69_38 hR, ro_69_39 hR, ro_69_40 hR, ro_69_41 hR, ro_69_42 hR, ro_69_44 hR, ro_69_45 hR, ro_69_46 hR, ro_69_48 hR, ro_69_49 hR, ro_69_51 hR, ro_69_52 hR, ro_69_55 hR, ro_69_56 hR, ro_69_57 hR, ro_69_58 hR, ro_69_59 hR, ro_69_61 hR, ro_69_62 hR, ro_69_63 hR, ro_69_64 hR, ro_69_65 hR, ro_69_66 hR, sh_69, sh_70, sh_71, sh_72, sh_73, sh_74, sh_75, sh_76, sh_77, sh_78, sh_79, sh_80, sh_81, sh_82, sh_83, sh_84, sh_85, sh_86, sh_87, sh_88, sh_89, sh_90, sh_91, sh_92, sh_93, sh_94, sh_95, sh_96, sh_97, sh_98, sh_99, sh_100, sh_101, sh_102, sh_103, sh_104, sh_105, sh_106, sh_107, sh_108, sh_109, sh_110, sh_111, sh_112, sh_113, sh_114, sh_115, hl, hvw9, Nat.reduceLT, Nat.reduceAdd, Nat.reduceMul, ne_eq, Nat.reduceEqDiff, not_false_eq_true, or_true, true_or, or_false, false_or, and_true, true_and, and_self, Nat.reduceLeDiff, am_ci, am_cr, am_cn0, Option.toList_some, Option.toList_none, List.cons_append, List.nil_append, am_s0, am_s1, am_s1r, am_s2, am_s2r, am_s3r, nI_add, am_u_ne, am_u_at, am_u_n1, am_u_n2, am_w_ne, ↓reduceIte, H.1, c1]
    exact hQ J g T H F
  | succ m ih =>
    intro i J hi g T H F
    obtain ⟨h1, h2, h3⟩ := id H
    have t4 := T.2.2.1
    have c1 : ¬ nI nm.length ≤ nI i := nI_ge (by omega) (by omega)
    have i12 : i < 12 := by omega
    have t3 : t < 403 := by omega
    obtain ⟨e, he⟩ : ∃ e, nm[i]? = some e := ⟨nm[i]'(by omega), List.getElem?_eq_getElem (by omega)⟩
    obtain ⟨e1, e2, e3, e4, e5⟩ := h3 i e he
    rw [rX13_named_12]
    simp only [am_lv_of, rX13_named_13, rX13_named_14, rX13_named_17, rX13_named_20, rX13_named_21, rX13_named_24, rX13_named_27, rX13_named_28, rX13_named_31, rX13_named_32, rX13_named_33, rX13_named_34, rX13_named_37, rX13_named_38, rX13_named_39, ro_69_1 hR, ro_69_3 hR, ro_69_5 hR, ro_69_6 hR, ro_69_7 hR, ro_69_8 hR, ro_69_9 hR, ro_69_21 hR, ro_69_22 hR, ro_69_23 hR, ro_69_24 hR, ro_69_25 hR, ro_69_26 hR, ro_69_27 hR, ro_69_28 hR, ro_69_29 hR, ro_69_30 hR, ro_69_31 hR, ro_69_32 hR, ro_69_33 hR, ro_69_34 hR, ro_69_35 hR, ro_69_36 hR, ro_69_38 hR, ro_69_39 hR, ro_69_40 hR, ro_69_41 hR, ro_69_42 hR, ro_69_44 hR, ro_69_45 hR, ro_69_46 hR, ro_69_48 hR, ro_69_49 hR, ro_69_51 hR, ro_69_52 hR, ro_69_55 hR, ro_69_56 hR, ro_69_57 hR, ro_69_58 hR, ro_69_59 hR, ro_69_61 hR, ro_69_62 hR, ro_69_63 hR, ro_69_64 hR, ro_69_65 hR, ro_69_66 hR, sh_69, sh_70, sh_71, sh_72, sh_73, sh_74, sh_75, sh_76, sh_77, sh_78, sh_79, sh_80, sh_81, sh_82, sh_83, sh_84, sh_85, sh_86, sh_87, sh_88, sh_89, sh_90, sh_91, sh_92, sh_93, sh_94, sh_95, sh_96, sh_97, sh_98, sh_99, sh_100, sh_101, sh_102, sh_103, sh_104, sh_105, sh_106, sh_107, sh_108, sh_109, sh_110, sh_111, sh_112, sh_113, sh_114, sh_115, hl, hvw9, Nat.reduceLT, Nat.reduceAdd, Nat.reduceMul, ne_eq, Nat.reduceEqDiff, not_false_eq_true, or_true, true_or, or_false, false_or, and_true, true_and, and_self, Nat.reduceLeDiff, am_ci, am_cr, am_cn0, Option.toList_some, Option.toList_none, List.cons_append, List.nil_append, am_s0, am_s1, am_s1r, am_s2, am_s2r, am_s3r, nI_add, am_u_ne, am_u_at, am_u_n1, am_u_n2, am_w_ne, ↓reduceIte, h1, c1, i12, t3, T.2.2.2.2, z0, not_true_eq_false, e1, h75, rX13_named_40, lcmp_eq, cdW_eq (Or.inl rfl) e2 w1 e3 w2]
    by_cases hc : e.1 = w
    · have hc' : (e.1 = w) = True := eq_true hc
      have hle : nIx nm w ≤ i := by
        by_cases c : nIx nm w ≤ i
        · exact c
        · exact absurd hc (nIx_lt (by omega) he)
      simp only [am_lv_of, hc', not_true_eq_false, ↓reduceIte, rX13_named_43, rX13_named_44, rX13_named_45, rX13_named_46, ro_69_1 hR, ro_69_3 hR, ro_69_5 hR, ro_69_6 hR, ro_69_7 hR, ro_69_8 hR, ro_69_9 hR, ro_69_21 hR, ro_69_22 hR, ro_69_23 hR, ro_69_24 hR, ro_69_25 hR, ro_69_26 hR, ro_69_27 hR, ro_69_28 hR, ro_69_29 hR, ro_69_30 hR, ro_69_31 hR, ro_69_32 hR, ro_69_33 hR, ro_69_34 hR, ro_69_35 hR, ro_69_36 hR, ro_69_38 hR, ro_69_39 hR, ro_69_40 hR, ro_69_41 hR, ro_69_42 hR, ro_69_44 hR, ro_69_45 hR, ro_69_46 hR, ro_69_48 hR, ro_69_49 hR, ro_69_51 hR, ro_69_52 hR, ro_69_55 hR, ro_69_56 hR, ro_69_57 hR, ro_69_58 hR, ro_69_59 hR, ro_69_61 hR, ro_69_62 hR, ro_69_63 hR, ro_69_64 hR, ro_69_65 hR, ro_69_66 hR, sh_69, sh_70, sh_71, sh_72, sh_73, sh_74, sh_75, sh_76, sh_77, sh_78, sh_79, sh_80, sh_81, sh_82, sh_83, sh_84, sh_85, sh_86, sh_87, sh_88, sh_89, sh_90, sh_91, sh_92, sh_93, sh_94, sh_95, sh_96, sh_97, sh_98, sh_99, sh_100, sh_101, sh_102, sh_103, sh_104, sh_105, sh_106, sh_107, sh_108, sh_109, sh_110, sh_111, sh_112, sh_113, sh_114, sh_115, hl, hvw9, Nat.reduceLT, Nat.reduceAdd, Nat.reduceMul, ne_eq, Nat.reduceEqDiff, not_false_eq_true, or_true, true_or, or_false, false_or, and_true, true_and, and_self, Nat.reduceLeDiff, am_ci, am_cr, am_cn0, Option.toList_some, Option.toList_none, List.cons_append, List.nil_append, am_s0, am_s1, am_s1r, am_s2, am_s2r, am_s3r, nI_add, am_u_ne, am_u_at, am_u_n1, am_u_n2, am_w_ne]
      refine c_wrongR (k := 3) (u := t) (t := t + 1) (f := nt x f (decide (nIx nm w < i)) 3 t) hx hR hN hn (by omega) T (by omega) F (fun z => ?_) (fun J1 g1 F1 => ?_)
      · by_cases hf : f.1 = 0
        · by_cases hb : nIx nm w < i
          · unfold nt
            rw [if_pos ⟨hf, decide_eq_true hb⟩]
            exact Or.inr ⟨rfl, Nat.le_refl _⟩
          · exfalso
            rw [decide_eq_false hb, nt_f] at z
            exact z hf
        · unfold nt
          rw [if_neg (fun y => hf y.1)]
          exact Or.inl (O hf)
      · simp only [am_lv_of, Option.toList_none, List.nil_append, rX13_named_49, rX13_named_52, ro_69_1 hR, ro_69_3 hR, ro_69_5 hR, ro_69_6 hR, ro_69_7 hR, ro_69_8 hR, ro_69_9 hR, ro_69_21 hR, ro_69_22 hR, ro_69_23 hR, ro_69_24 hR, ro_69_25 hR, ro_69_26 hR, ro_69_27 hR, ro_69_28 hR, ro_69_29 hR, ro_69_30 hR, ro_69_31 hR, ro_69_32 hR, ro_69_33 hR, ro_69_34 hR, ro_69_35 hR, ro_69_36 hR, ro_69_38 hR, ro_69_39 hR, ro_69_40 hR, ro_69_41 hR, ro_69_42 hR, ro_69_44 hR, ro_69_45 hR, ro_69_46 hR, ro_69_48 hR, ro_69_49 hR, ro_69_51 hR, ro_69_52 hR, ro_69_55 hR, ro_69_56 hR, ro_69_57 hR, ro_69_58 hR, ro_69_59 hR, ro_69_61 hR, ro_69_62 hR, ro_69_63 hR, ro_69_64 hR, ro_69_65 hR, ro_69_66 hR, sh_69, sh_70, sh_71, sh_72, sh_73, sh_74, sh_75, sh_76, sh_77, sh_78, sh_79, sh_80, sh_81, sh_82, sh_83, sh_84, sh_85, sh_86, sh_87, sh_88, sh_89, sh_90, sh_91, sh_92, sh_93, sh_94, sh_95, sh_96, sh_97, sh_98, sh_99, sh_100, sh_101, sh_102, sh_103, sh_104, sh_105, sh_106, sh_107, sh_108, sh_109, sh_110, sh_111, sh_112, sh_113, sh_114, sh_115, hl, hvw9, Nat.reduceLT, Nat.reduceAdd, Nat.reduceMul, ne_eq, Nat.reduceEqDiff, not_false_eq_true, or_true, true_or, or_false, false_or, and_true, true_and, and_self, Nat.reduceLeDiff, am_ci, am_cr, am_cn0, Option.toList_some, Option.toList_none, List.cons_append, List.nil_append, am_s0, am_s1, am_s1r, am_s2, am_s2r, am_s3r, nI_add, am_u_ne, am_u_at, am_u_n1, am_u_n2, am_w_ne]
        refine ih (i + 1) J1 (by omega) (g.trans g1) (T.fr (fun k j hk => g1 k j (by unfold wrP; omega))) (H.ag (fun k j hk => g1 k j (by unfold wrP; omega))) ?_
        have : nt x (nt x f (decide (nIx nm w < i)) 3 t) true 3 t = nt x f (decide (nIx nm w < i + 1)) 3 t := by
          rw [decide_eq_true (show nIx nm w < i + 1 by omega)]
          by_cases hb : nIx nm w < i
          · rw [decide_eq_true hb]; exact nt_t
          · rw [decide_eq_false hb, nt_f]
        rw [← this]
        exact F1
    · have hne : nIx nm w ≠ i := by
        intro z
        obtain ⟨q, q1, q2⟩ := nIx_at (nm := nm) (w := w) (by omega)
        rw [z, he] at q1
        cases q1
        exact hc q2
      simp only [am_lv_of, hc, not_false_eq_true, ↓reduceIte, rX13_named_49, rX13_named_52, ro_69_1 hR, ro_69_3 hR, ro_69_5 hR, ro_69_6 hR, ro_69_7 hR, ro_69_8 hR, ro_69_9 hR, ro_69_21 hR, ro_69_22 hR, ro_69_23 hR, ro_69_24 hR, ro_69_25 hR, ro_69_26 hR, ro_69_27 hR, ro_69_28 hR, ro_69_29 hR, ro_69_30 hR, ro_69_31 hR, ro_69_32 hR, ro_69_33 hR, ro_69_34 hR, ro_69_35 hR, ro_69_36 hR, ro_69_38 hR, ro_69_39 hR, ro_69_40 hR, ro_69_41 hR, ro_69_42 hR, ro_69_44 hR, ro_69_45 hR, ro_69_46 hR, ro_69_48 hR, ro_69_49 hR, ro_69_51 hR, ro_69_52 hR, ro_69_55 hR, ro_69_56 hR, ro_69_57 hR, ro_69_58 hR, ro_69_59 hR, ro_69_61 hR, ro_69_62 hR, ro_69_63 hR, ro_69_64 hR, ro_69_65 hR, ro_69_66 hR, sh_69, sh_70, sh_71, sh_72, sh_73, sh_74, sh_75, sh_76, sh_77, sh_78, sh_79, sh_80, sh_81, sh_82, sh_83, sh_84, sh_85, sh_86, sh_87, sh_88, sh_89, sh_90, sh_91, sh_92, sh_93, sh_94, sh_95, sh_96, sh_97, sh_98, sh_99, sh_100, sh_101, sh_102, sh_103, sh_104, sh_105, sh_106, sh_107, sh_108, sh_109, sh_110, sh_111, sh_112, sh_113, sh_114, sh_115, hl, hvw9, Nat.reduceLT, Nat.reduceAdd, Nat.reduceMul, ne_eq, Nat.reduceEqDiff, not_false_eq_true, or_true, true_or, or_false, false_or, and_true, true_and, and_self, Nat.reduceLeDiff, am_ci, am_cr, am_cn0, Option.toList_some, Option.toList_none, List.cons_append, List.nil_append, am_s0, am_s1, am_s1r, am_s2, am_s2r, am_s3r, nI_add, am_u_ne, am_u_at, am_u_n1, am_u_n2, am_w_ne]
      refine ih (i + 1) J (by omega) g T H ?_
      have : decide (nIx nm w < i + 1) = decide (nIx nm w < i) := decide_eq_decide.mpr (by omega)
      rw [this]
      exact F
theorem l_namedD {e : Nat × Nat} {u : Int32} (hR : am_OR R) (hN : 116 ≤ n) (D : ddR I x e) (hQ : Q (some (.int u)) (n, I, L, R)) : am_E X (d + 3) mX13_named 12 [some (.ref 69), some (.int u), some (.int (nI 0))] [] (n, I, L, R) Q := by
  have hl := am_lt hN
  have hvw9 := am_lw hN
  have zf : ¬ nI e.1 = 0 := nI_ne0 (by have := D.1; omega) (by have := D.1; omega)
  by_cases c : I 69 20 ≤ nI 0
  · simp only [am_lv_of, rX13_named_12, rX13_named_13, rX13_named_14, rX13_named_17, rX13_named_55, rX13_named_56, ro_69_1 hR, ro_69_3 hR, ro_69_5 hR, ro_69_6 hR, ro_69_7 hR, ro_69_8 hR, ro_69_9 hR, ro_69_21 hR, ro_69_22 hR, ro_69_23 hR, ro_69_24 hR, ro_69_25 hR, ro_69_26 hR, ro_69_27 hR, ro_69_28 hR, ro_69_29 hR, ro_69_30 hR, ro_69_31 hR, ro_69_32 hR, ro_69_33 hR, ro_69_34 hR, ro_69_35 hR, ro_69_36 hR, ro_69_38 hR, ro_69_39 hR, ro_69_40 hR, ro_69_41 hR, ro_69_42 hR, ro_69_44 hR, ro_69_45 hR, ro_69_46 hR, ro_69_48 hR, ro_69_49 hR, ro_69_51 hR, ro_69_52 hR, ro_69_55 hR, ro_69_56 hR, ro_69_57 hR, ro_69_58 hR, ro_69_59 hR, ro_69_61 hR, ro_69_62 hR, ro_69_63 hR, ro_69_64 hR, ro_69_65 hR, ro_69_66 hR, sh_69, sh_70, sh_71, sh_72, sh_73, sh_74, sh_75, sh_76, sh_77, sh_78, sh_79, sh_80, sh_81, sh_82, sh_83, sh_84, sh_85, sh_86, sh_87, sh_88, sh_89, sh_90, sh_91, sh_92, sh_93, sh_94, sh_95, sh_96, sh_97, sh_98, sh_99, sh_100, sh_101, sh_102, sh_103, sh_104, sh_105, sh_106, sh_107, sh_108, sh_109, sh_110, sh_111, sh_112, sh_113, sh_114, sh_115, hl, hvw9, Nat.reduceLT, Nat.reduceAdd, Nat.reduceMul, ne_eq, Nat.reduceEqDiff, not_false_eq_true, or_true, true_or, or_false, false_or, and_true, true_and, and_self, Nat.reduceLeDiff, am_ci, am_cr, am_cn0, Option.toList_some, Option.toList_none, List.cons_append, List.nil_append, am_s0, am_s1, am_s1r, am_s2, am_s2r, am_s3r, nI_add, am_u_ne, am_u_at, am_u_n1, am_u_n2, am_w_ne, ↓reduceIte, c]
    exact hQ
  · simp only [am_lv_of, rX13_named_12, rX13_named_13, rX13_named_14, rX13_named_17, rX13_named_20, rX13_named_21, rX13_named_24, rX13_named_55, rX13_named_56, ro_69_1 hR, ro_69_3 hR, ro_69_5 hR, ro_69_6 hR, ro_69_7 hR, ro_69_8 hR, ro_69_9 hR, ro_69_21 hR, ro_69_22 hR, ro_69_23 hR, ro_69_24 hR, ro_69_25 hR, ro_69_26 hR, ro_69_27 hR, ro_69_28 hR, ro_69_29 hR, ro_69_30 hR, ro_69_31 hR, ro_69_32 hR, ro_69_33 hR, ro_69_34 hR, ro_69_35 hR, ro_69_36 hR, ro_69_38 hR, ro_69_39 hR, ro_69_40 hR, ro_69_41 hR, ro_69_42 hR, ro_69_44 hR, ro_69_45 hR, ro_69_46 hR, ro_69_48 hR, ro_69_49 hR, ro_69_51 hR, ro_69_52 hR, ro_69_55 hR, ro_69_56 hR, ro_69_57 hR, ro_69_58 hR, ro_69_59 hR, ro_69_61 hR, ro_69_62 hR, ro_69_63 hR, ro_69_64 hR, ro_69_65 hR, ro_69_66 hR, sh_69, sh_70, sh_71, sh_72, sh_73, sh_74, sh_75, sh_76, sh_77, sh_78, sh_79, sh_80, sh_81, sh_82, sh_83, sh_84, sh_85, sh_86, sh_87, sh_88, sh_89, sh_90, sh_91, sh_92, sh_93, sh_94, sh_95, sh_96, sh_97, sh_98, sh_99, sh_100, sh_101, sh_102, sh_103, sh_104, sh_105, sh_106, sh_107, sh_108, sh_109, sh_110, sh_111, sh_112, sh_113, sh_114, sh_115, hl, hvw9, Nat.reduceLT, Nat.reduceAdd, Nat.reduceMul, ne_eq, Nat.reduceEqDiff, not_false_eq_true, or_true, true_or, or_false, false_or, and_true, true_and, and_self, Nat.reduceLeDiff, am_ci, am_cr, am_cn0, Option.toList_some, Option.toList_none, List.cons_append, List.nil_append, am_s0, am_s1, am_s1r, am_s2, am_s2r, am_s3r, nI_add, am_u_ne, am_u_at, am_u_n1, am_u_n2, am_w_ne, ↓reduceIte, c, D.2.1, zf, not_false_eq_true]
    exact hQ
theorem c_namedD {e : Nat × Nat} (hR : am_OR R) (hN : 116 ≤ n) (D : ddR I x e) (hQ : Q (some (.int (I 69 11))) (n, I, L, R)) : am_E X (d + 3) mX13_named 0 [some (.ref 69), none, none] [] (n, I, L, R) Q := by
  have hl := am_lt hN
  have hvw9 := am_lw hN
  simp only [am_lv_of, rX13_named_0, rX13_named_1, rX13_named_4, rX13_named_5, rX13_named_6, rX13_named_7, ro_69_1 hR, ro_69_3 hR, ro_69_5 hR, ro_69_6 hR, ro_69_7 hR, ro_69_8 hR, ro_69_9 hR, ro_69_21 hR, ro_69_22 hR, ro_69_23 hR, ro_69_24 hR, ro_69_25 hR, ro_69_26 hR, ro_69_27 hR, ro_69_28 hR, ro_69_29 hR, ro_69_30 hR, ro_69_31 hR, ro_69_32 hR, ro_69_33 hR, ro_69_34 hR, ro_69_35 hR, ro_69_36 hR, ro_69_38 hR, ro_69_39 hR, ro_69_40 hR, ro_69_41 hR, ro_69_42 hR, ro_69_44 hR, ro_69_45 hR, ro_69_46 hR, ro_69_48 hR, ro_69_49 hR, ro_69_51 hR, ro_69_52 hR, ro_69_55 hR, ro_69_56 hR, ro_69_57 hR, ro_69_58 hR, ro_69_59 hR, ro_69_61 hR, ro_69_62 hR, ro_69_63 hR, ro_69_64 hR, ro_69_65 hR, ro_69_66 hR, sh_69, sh_70, sh_71, sh_72, sh_73, sh_74, sh_75, sh_76, sh_77, sh_78, sh_79, sh_80, sh_81, sh_82, sh_83, sh_84, sh_85, sh_86, sh_87, sh_88, sh_89, sh_90, sh_91, sh_92, sh_93, sh_94, sh_95, sh_96, sh_97, sh_98, sh_99, sh_100, sh_101, sh_102, sh_103, sh_104, sh_105, sh_106, sh_107, sh_108, sh_109, sh_110, sh_111, sh_112, sh_113, sh_114, sh_115, hl, hvw9, Nat.reduceLT, Nat.reduceAdd, Nat.reduceMul, ne_eq, Nat.reduceEqDiff, not_false_eq_true, or_true, true_or, or_false, false_or, and_true, true_and, and_self, Nat.reduceLeDiff, am_ci, am_cr, am_cn0, Option.toList_some, Option.toList_none, List.cons_append, List.nil_append, am_s0, am_s1, am_s1r, am_s2, am_s2r, am_s3r, nI_add, am_u_ne, am_u_at, am_u_n1, am_u_n2, am_w_ne, c_mustD hR hN D, rX13_named_10, rX13_named_11]
  exact l_namedD hR hN D hQ
theorem c_namedR {t : Nat} {f : Nat × Nat} {nm : nmT} (hx : x.1 ≤ 2000) (hR : am_OR R) (hN : 116 ≤ n) (hn : n ≤ 1000) (T : rsT I L x t) (F : sfR I f) (O : sfO f (kP x t)) (H : nmR I L nm)
    (hE : ∀ e, tkE x 20 t = .inl e → ∀ J', am_ag bdP I J' → ddR J' x e → ∀ v, Q (some (.int v)) (n, J', L, R))
    (hS : ∀ t', tkE x 20 t = .inr t' → ∀ J', am_ag bdP I J' → rsT J' L x t' → nmR J' L nm → sfR J' (nt x f (decide (nIx nm (kM x t) < nm.length)) 3 t) → sfO (nt x f (decide (nIx nm (kM x t) < nm.length)) 3 t) (kP x t') → Q (some (.int (nI t))) (n, J', L, R)) : am_E X (d + 3) mX13_named 0 [some (.ref 69), none, none] [] (n, I, L, R) Q := by
  have hl := am_lt hN
  have hvw9 := am_lw hN
  simp only [am_lv_of, rX13_named_0, rX13_named_1, rX13_named_4, rX13_named_5, rX13_named_6, rX13_named_7, ro_69_1 hR, ro_69_3 hR, ro_69_5 hR, ro_69_6 hR, ro_69_7 hR, ro_69_8 hR, ro_69_9 hR, ro_69_21 hR, ro_69_22 hR, ro_69_23 hR, ro_69_24 hR, ro_69_25 hR, ro_69_26 hR, ro_69_27 hR, ro_69_28 hR, ro_69_29 hR, ro_69_30 hR, ro_69_31 hR, ro_69_32 hR, ro_69_33 hR, ro_69_34 hR, ro_69_35 hR, ro_69_36 hR, ro_69_38 hR, ro_69_39 hR, ro_69_40 hR, ro_69_41 hR, ro_69_42 hR, ro_69_44 hR, ro_69_45 hR, ro_69_46 hR, ro_69_48 hR, ro_69_49 hR, ro_69_51 hR, ro_69_52 hR, ro_69_55 hR, ro_69_56 hR, ro_69_57 hR, ro_69_58 hR, ro_69_59 hR, ro_69_61 hR, ro_69_62 hR, ro_69_63 hR, ro_69_64 hR, ro_69_65 hR, ro_69_66 hR, sh_69, sh_70, sh_71, sh_72, sh_73, sh_74, sh_75, sh_76, sh_77, sh_78, sh_79, sh_80, sh_81, sh_82, sh_83, sh_84, sh_85, sh_86, sh_87, sh_88, sh_89, sh_90, sh_91, sh_92, sh_93, sh_94, sh_95, sh_96, sh_97, sh_98, sh_99, sh_100, sh_101, sh_102, sh_103, sh_104, sh_105, sh_106, sh_107, sh_108, sh_109, sh_110, sh_111, sh_112, sh_113, sh_114, sh_115, hl, hvw9, Nat.reduceLT, Nat.reduceAdd, Nat.reduceMul, ne_eq, Nat.reduceEqDiff, not_false_eq_true, or_true, true_or, or_false, false_or, and_true, true_and, and_self, Nat.reduceLeDiff, am_ci, am_cr, am_cn0, Option.toList_some, Option.toList_none, List.cons_append, List.nil_append, am_s0, am_s1, am_s1r, am_s2, am_s2r, am_s3r, nI_add, am_u_ne, am_u_at, am_u_n1, am_u_n2, am_w_ne, T.2.1]
  refine c_mustR (d := d) (c := 20) (r := 1) hR hN hn T (by omega) rfl (by omega) rfl (fun e he J1 g1 D => ?_) (fun t' ht J1 g1 T1 => ?_)
  · simp only [am_lv_of, Option.toList_none, List.nil_append, rX13_named_10, rX13_named_11, ro_69_1 hR, ro_69_3 hR, ro_69_5 hR, ro_69_6 hR, ro_69_7 hR, ro_69_8 hR, ro_69_9 hR, ro_69_21 hR, ro_69_22 hR, ro_69_23 hR, ro_69_24 hR, ro_69_25 hR, ro_69_26 hR, ro_69_27 hR, ro_69_28 hR, ro_69_29 hR, ro_69_30 hR, ro_69_31 hR, ro_69_32 hR, ro_69_33 hR, ro_69_34 hR, ro_69_35 hR, ro_69_36 hR, ro_69_38 hR, ro_69_39 hR, ro_69_40 hR, ro_69_41 hR, ro_69_42 hR, ro_69_44 hR, ro_69_45 hR, ro_69_46 hR, ro_69_48 hR, ro_69_49 hR, ro_69_51 hR, ro_69_52 hR, ro_69_55 hR, ro_69_56 hR, ro_69_57 hR, ro_69_58 hR, ro_69_59 hR, ro_69_61 hR, ro_69_62 hR, ro_69_63 hR, ro_69_64 hR, ro_69_65 hR, ro_69_66 hR, sh_69, sh_70, sh_71, sh_72, sh_73, sh_74, sh_75, sh_76, sh_77, sh_78, sh_79, sh_80, sh_81, sh_82, sh_83, sh_84, sh_85, sh_86, sh_87, sh_88, sh_89, sh_90, sh_91, sh_92, sh_93, sh_94, sh_95, sh_96, sh_97, sh_98, sh_99, sh_100, sh_101, sh_102, sh_103, sh_104, sh_105, sh_106, sh_107, sh_108, sh_109, sh_110, sh_111, sh_112, sh_113, sh_114, sh_115, hl, hvw9, Nat.reduceLT, Nat.reduceAdd, Nat.reduceMul, ne_eq, Nat.reduceEqDiff, not_false_eq_true, or_true, true_or, or_false, false_or, and_true, true_and, and_self, Nat.reduceLeDiff, am_ci, am_cr, am_cn0, Option.toList_some, Option.toList_none, List.cons_append, List.nil_append, am_s0, am_s1, am_s1r, am_s2, am_s2r, am_s3r, nI_add, am_u_ne, am_u_at, am_u_n1, am_u_n2, am_w_ne]
    exact l_namedD hR hN D (hE e he J1 (g1.mono (fun k j z => by unfold bdP; omega)) D _)
  · obtain ⟨hk, t4, rfl⟩ := tkE_inr ht
    obtain ⟨m1, m2, m3⟩ := T1.m (u := t) (by omega) hk
    have kl := kP_lt (x := x) (t := t) (by omega)
    simp only [am_lv_of, Option.toList_none, List.nil_append, rX13_named_10, rX13_named_11, ro_69_1 hR, ro_69_3 hR, ro_69_5 hR, ro_69_6 hR, ro_69_7 hR, ro_69_8 hR, ro_69_9 hR, ro_69_21 hR, ro_69_22 hR, ro_69_23 hR, ro_69_24 hR, ro_69_25 hR, ro_69_26 hR, ro_69_27 hR, ro_69_28 hR, ro_69_29 hR, ro_69_30 hR, ro_69_31 hR, ro_69_32 hR, ro_69_33 hR, ro_69_34 hR, ro_69_35 hR, ro_69_36 hR, ro_69_38 hR, ro_69_39 hR, ro_69_40 hR, ro_69_41 hR, ro_69_42 hR, ro_69_44 hR, ro_69_45 hR, ro_69_46 hR, ro_69_48 hR, ro_69_49 hR, ro_69_51 hR, ro_69_52 hR, ro_69_55 hR, ro_69_56 hR, ro_69_57 hR, ro_69_58 hR, ro_69_59 hR, ro_69_61 hR, ro_69_62 hR, ro_69_63 hR, ro_69_64 hR, ro_69_65 hR, ro_69_66 hR, sh_69, sh_70, sh_71, sh_72, sh_73, sh_74, sh_75, sh_76, sh_77, sh_78, sh_79, sh_80, sh_81, sh_82, sh_83, sh_84, sh_85, sh_86, sh_87, sh_88, sh_89, sh_90, sh_91, sh_92, sh_93, sh_94, sh_95, sh_96, sh_97, sh_98, sh_99, sh_100, sh_101, sh_102, sh_103, sh_104, sh_105, sh_106, sh_107, sh_108, sh_109, sh_110, sh_111, sh_112, sh_113, sh_114, sh_115, hl, hvw9, Nat.reduceLT, Nat.reduceAdd, Nat.reduceMul, ne_eq, Nat.reduceEqDiff, not_false_eq_true, or_true, true_or, or_false, false_or, and_true, true_and, and_self, Nat.reduceLeDiff, am_ci, am_cr, am_cn0, Option.toList_some, Option.toList_none, List.cons_append, List.nil_append, am_s0, am_s1, am_s1r, am_s2, am_s2r, am_s3r, nI_add, am_u_ne, am_u_at, am_u_n1, am_u_n2, am_w_ne]
    refine l_named (I := J1) (f := f) (nm := nm) (w := kM x t) hx hR hN hn O m2 m3 m1 (fun J2 g2 T2 H2 F2 => ?_) nm.length 0 J1 (by omega) am_ag.refl T1 (H.ag (fun k j hk => g1 k j (by omega))) ?_
    · exact hS (t + 1) ht J2 ((g1.mono (fun k j z => by unfold bdP; omega)).trans (g2.mono (fun k j z => by unfold wrP at z; unfold bdP; omega))) T2 H2 F2 (nt_O (O.le (by omega)) kl)
    · rw [decide_eq_false (by omega), nt_f]
      exact F.ag (fun j hj => g1 69 j (by omega))
end FI
