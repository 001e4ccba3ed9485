--! 98
/-! TEXTS: the reference reads a law, no fault -/
def lwC (pt c b k j : Nat) : Prop := (k = 69 ∧ (j = 11 ∨ j = 12 ∨ j = 13 ∨ j = 14 ∨ j = 37 ∨ j = 43 ∨ j = 47)) ∨ ((k = 98 ∨ k = 99) ∧ c ≤ j ∧ j < 420 * pt + 420) ∨ k = 100 ∨ ((k = 96 ∨ k = 97) ∧ j = b)
def laS (J : Nat → Nat → Int32) (K : Nat → Nat → Int64) (x : txt) (pt t b c : Nat) : Prop := rsT J K x t ∧ J 69 12 = nI 0 ∧ J 69 43 = nI c ∧ (420 * pt ≤ c ∧ c ≤ 420 * pt + t) ∧ J 69 37 = nI b ∧ (130 * pt ≤ b ∧ 4 * (b - 130 * pt) ≤ t) ∧ J 69 19 = nI pt
def rfB (J : Nat → Nat → Int32) (c f : Nat) (acc : lawB) (e : pfx) : Prop := rf_pre J c f acc ∧ J 93 (f + acc.length) = nI 0 ∧ ∃ a3, rf_trm J (f + acc.length) a3 e ∧ a3 + e.length ≤ c ∧ 420 * ((f + acc.length) / 130) ≤ a3
theorem rfB.brs {J : Nat → Nat → Int32} {c f : Nat} {acc : lawB} {e : pfx} (h : rfB J c f acc e) : rf_brs J e f acc := by
  obtain ⟨h1, h2, a3, h3, -⟩ := h
  exact rf_pre.fin h1 h2 ⟨a3, h3⟩
theorem rfB.ag {I J : Nat → Nat → Int32} {c c' f : Nat} {acc : lawB} {e : pfx} (h : rfB I c f acc e) (hc : c ≤ c') (g2 : ∀ k j, k = 98 ∨ k = 99 → j < c → J k j = I k j) (g : ∀ k j, 93 ≤ k → k ≤ 97 → f ≤ j → j < f + acc.length + 1 → J k j = I k j) : rfB J c' f acc e := by
  obtain ⟨h1, h2, a3, ⟨q1, q2, q3, q4, q5⟩, h4, h5⟩ := h
  refine ⟨h1.ag hc g2 (fun k j k1 k2 j1 j2 => g k j k1 k2 j1 (by omega)), by rw [g 93 _ (by omega) (by omega) (by omega) (by omega)]; exact h2, a3, ⟨?_, ?_, q3, rf_seg_g q4 (fun k j hk _ hj => g2 k j hk (by omega)), q5⟩, by omega, h5⟩
  · rw [g 96 _ (by omega) (by omega) (by omega) (by omega)]; exact q1
  · rw [g 97 _ (by omega) (by omega) (by omega) (by omega)]; exact q2
/-- what a law read well leaves: the branches from f on, nothing before b and c touched -/
def lwS (I J : Nat → Nat → Int32) (K : Nat → Nat → Int64) (x : txt) (pt kk b c f t : Nat) (acc : lawB) (e : pfx) : Prop := am_ag (lwR pt kk) I J ∧ (∃ c', c ≤ c' ∧ laS J K x pt t (f + acc.length + 1) c' ∧ rfB J c' f acc e) ∧ rf_brs J e f acc ∧ J 91 (3 * pt + kk) = nI f ∧ J 92 (3 * pt + kk) = nI (f + acc.length + 1) ∧ (∀ k j, k = 98 ∨ k = 99 → j < c → J k j = I k j) ∧ (∀ k j, 93 ≤ k → k ≤ 97 → j < b → J k j = I k j)
theorem er_C {pt c b : Nat} {I J : Nat → Nat → Int32} (h : am_ag (erP pt) I J) (g : ∀ k j, k = 98 ∨ k = 99 → j < c → J k j = I k j) : am_ag (lwC pt c b) I J := fun k j hk => by
  by_cases e : (k = 98 ∨ k = 99) ∧ j < c
  · exact g k j e.1 e.2
  · exact h k j (by unfold erP; unfold lwC at hk; omega)
theorem tm_C {pt c b : Nat} {I J : Nat → Nat → Int32} (h : am_ag (tmP pt b) I J) (g : ∀ k j, k = 98 ∨ k = 99 → j < c → J k j = I k j) : am_ag (lwC pt c b) I J := fun k j hk => by
  by_cases e : (k = 98 ∨ k = 99) ∧ j < c
  · exact g k j e.1 e.2
  · exact h k j (by unfold tmP erP; unfold lwC at hk; omega)
theorem st_C {pt c b : Nat} {I J : Nat → Nat → Int32} (h : am_ag (fun k j => k = 69 ∧ j = 11) I J) : am_ag (lwC pt c b) I J := h.mono (fun k j z => by unfold lwC; omega)
theorem lC_mono {pt c c' b : Nat} {I J : Nat → Nat → Int32} (hc : c' ≤ c) (h : am_ag (lwC pt c b) I J) : am_ag (lwC pt c' b) I J := h.mono (fun k j z => by unfold lwC at z ⊢; omega)
theorem lC_lw {pt c b kk : Nat} {I J : Nat → Nat → Int32} (hc : 420 * pt ≤ c) (hb : 130 * pt ≤ b ∧ b < 130 * pt + 130) (h : am_ag (lwC pt c b) I J) : am_ag (lwR pt kk) I J := h.mono (fun k j z => by unfold lwC at z; unfold lwR erP; omega)
theorem pf4 {x : txt} {t t' : Nat} {p : pfx} (h : exP x t = .inr (t', p)) : pfW 400 p 0 = some 1 := (exP_good t t' p h).2.2.2.1 400 0 (by omega)
section FF
variable {X : am_X} {d n : Nat} {I : Nat → Nat → Int32} {L : Nat → Nat → Int64} {R : Nat → Nat → Option Nat} {Q : Option Value → am_M → Prop} {x : txt}
theorem lL_53D {pt kk f ifs b : Nat} {e : Nat × Nat} (hR : am_OR R) (hN : 116 ≤ n) (hn : n ≤ 1000) (hpt : pt < 2) (D : ddR I x e) (h37 : I 69 37 = nI b) (hb : 130 * pt ≤ b ∧ b + 1 < 130 * pt + 130) (hQ : ∀ J', am_ag (lwR pt kk) I J' → ddR J' x e → Q none (n, J', L, R)) : am_E X (d + 5) mX13_tellLaw 53 (lsL kk f ifs) [] (n, I, L, R) Q := by
  have hl := am_lt hN
  have hvw9 := am_lw hN
  have b2 : b < 260 := by omega
  have gA : am_ag (lwR pt kk) I (am_u (am_u I 93 b (nI 1)) 94 b (I 69 43)) := (am_ag.refl.u (by unfold lwR erP; omega)).u (by unfold lwR erP; omega)
  have DA : ddR (am_u (am_u I 93 b (nI 1)) 94 b (I 69 43)) x e := D.ag (fun j hj => by rw [am_u_n1 (by omega), am_u_n1 (by omega)])
  unfold lsL
  simp only [am_lv_of, rX13_tellLaw_53, rX13_tellLaw_54, rX13_tellLaw_57, rX13_tellLaw_58, rX13_tellLaw_61, rX13_tellLaw_62z, rX13_tellLaw_63, rX13_tellLaw_64, rX13_tellLaw_67, rX13_tellLaw_68, rX13_tellLaw_71, rX13_tellLaw_72, rX13_tellLaw_75, rX13_tellLaw_76, rX13_tellLaw_77, ro_69_1 hR, ro_69_3 hR, ro_69_5 hR, ro_69_6 hR, ro_69_7 hR, ro_69_8 hR, ro_69_9 hR, ro_69_21 hR, ro_69_22 hR, ro_69_23 hR, ro_69_24 hR, ro_69_25 hR, ro_69_26 hR, ro_69_27 hR, ro_69_28 hR, ro_69_29 hR, ro_69_30 hR, ro_69_31 hR, ro_69_32 hR, ro_69_33 hR, ro_69_34 hR, ro_69_35 hR, ro_69_36 hR, ro_69_38 hR, ro_69_39 hR, ro_69_40 hR, ro_69_41 hR, ro_69_42 hR, ro_69_44 hR, ro_69_45 hR, ro_69_46 hR, ro_69_48 hR, ro_69_49 hR, ro_69_51 hR, ro_69_52 hR, ro_69_55 hR, ro_69_56 hR, ro_69_57 hR, ro_69_58 hR, ro_69_59 hR, ro_69_61 hR, ro_69_62 hR, ro_69_63 hR, ro_69_64 hR, ro_69_65 hR, ro_69_66 hR, sh_69, sh_70, sh_71, sh_72, sh_73, sh_74, sh_75, sh_76, sh_77, sh_78, sh_79, sh_80, sh_81, sh_82, sh_83, sh_84, sh_85, sh_86, sh_87, sh_88, sh_89, sh_90, sh_91, sh_92, sh_93, sh_94, sh_95, sh_96, sh_97, sh_98, sh_99, sh_100, sh_101, sh_102, sh_103, sh_104, sh_105, sh_106, sh_107, sh_108, sh_109, sh_110, sh_111, sh_112, sh_113, sh_114, sh_115, hl, hvw9, Nat.reduceLT, Nat.reduceAdd, Nat.reduceMul, ne_eq, Nat.reduceEqDiff, not_false_eq_true, or_true, true_or, or_false, false_or, and_true, true_and, and_self, Nat.reduceLeDiff, am_ci, am_cr, am_cn0, Option.toList_some, Option.toList_none, List.cons_append, List.nil_append, am_s0, am_s1, am_s1r, am_s2, am_s2r, am_s3r, nI_add, am_u_ne, am_u_at, am_u_n1, am_u_n2, am_w_ne, hn, h37, b2, nar_b1]
  refine c_exprD (d := d + 1) (pt := pt) (o := 0) hR hN hn DA (fun J1 g1 D1 => ?_)
  simp only [Option.toList_none, List.nil_append]
  have q37 : J1 69 37 = nI b := by rw [g1 69 37 (by unfold erP; omega), am_u_n1 (by omega), am_u_n1 (by omega)]; exact h37
  exact lL_80 (f := f) (ifs := ifs) (kk := kk) hR hN hn hpt D1 q37 hb (fun J2 g2 D2 => hQ J2 ((gA.trans (er_lw g1)).trans g2) D2)
theorem lL_br {pt kk f ifs t b c : Nat} (hR : am_OR R) (hN : 116 ≤ n) (hn : n ≤ 1000) (hpt : pt < 2) (S : laS I L x pt t b c) (h2 : 4 * (b - 130 * pt) + 2 ≤ t) (hk8 : kK x t = 8)
    (hE : ∀ e, lawB1 x t = .inl e → ∀ J', am_ag (lwR pt kk) I J' → ddR J' x e → Q none (n, J', L, R))
    (hS : ∀ t' p, lawB1 x t = .inr (t', p) → ∀ J' c', am_ag (lwR pt kk) I J' → laS J' L x pt t' (b + 1) c' → 4 * (b + 1 - 130 * pt) + 2 ≤ t' → c ≤ c' → rbE J' b p c' → (∀ k j, k = 98 ∨ k = 99 → j < c → J' k j = I k j) → (∀ k j, 93 ≤ k → k ≤ 97 → j < b → J' k j = I k j) → am_E X (d + 5) mX13_tellLaw 12 (lsL kk f ifs) [] (n, J', L, R) Q) : am_E X (d + 5) mX13_tellLaw 49 (lsL kk f ifs) [] (n, I, L, R) Q := by
  have hl := am_lt hN
  have hvw9 := am_lw hN
  obtain ⟨T, h12, h43, hc, h37, hb, h19⟩ := S
  have t4 := T.2.2.1
  have hb1 : 130 * pt ≤ b ∧ b + 1 < 130 * pt + 130 := by omega
  have hb0 : 130 * pt ≤ b ∧ b < 130 * pt + 130 := by omega
  have b2 : b < 260 := by omega
  have z0 : (nI 0 = 0) = True := eq_true rfl
  unfold lsL
  simp only [am_lv_of, rX13_tellLaw_49, rX13_tellLaw_50, ro_69_1 hR, ro_69_3 hR, ro_69_5 hR, ro_69_6 hR, ro_69_7 hR, ro_69_8 hR, ro_69_9 hR, ro_69_21 hR, ro_69_22 hR, ro_69_23 hR, ro_69_24 hR, ro_69_25 hR, ro_69_26 hR, ro_69_27 hR, ro_69_28 hR, ro_69_29 hR, ro_69_30 hR, ro_69_31 hR, ro_69_32 hR, ro_69_33 hR, ro_69_34 hR, ro_69_35 hR, ro_69_36 hR, ro_69_38 hR, ro_69_39 hR, ro_69_40 hR, ro_69_41 hR, ro_69_42 hR, ro_69_44 hR, ro_69_45 hR, ro_69_46 hR, ro_69_48 hR, ro_69_49 hR, ro_69_51 hR, ro_69_52 hR, ro_69_55 hR, ro_69_56 hR, ro_69_57 hR, ro_69_58 hR, ro_69_59 hR, ro_69_61 hR, ro_69_62 hR, ro_69_63 hR, ro_69_64 hR, ro_69_65 hR, ro_69_66 hR, sh_69, sh_70, sh_71, sh_72, sh_73, sh_74, sh_75, sh_76, sh_77, sh_78, sh_79, sh_80, sh_81, sh_82, sh_83, sh_84, sh_85, sh_86, sh_87, sh_88, sh_89, sh_90, sh_91, sh_92, sh_93, sh_94, sh_95, sh_96, sh_97, sh_98, sh_99, sh_100, sh_101, sh_102, sh_103, sh_104, sh_105, sh_106, sh_107, sh_108, sh_109, sh_110, sh_111, sh_112, sh_113, sh_114, sh_115, hl, hvw9, Nat.reduceLT, Nat.reduceAdd, Nat.reduceMul, ne_eq, Nat.reduceEqDiff, not_false_eq_true, or_true, true_or, or_false, false_or, and_true, true_and, and_self, Nat.reduceLeDiff, am_ci, am_cr, am_cn0, Option.toList_some, Option.toList_none, List.cons_append, List.nil_append, am_s0, am_s1, am_s1r, am_s2, am_s2r, am_s3r, nI_add, am_u_ne, am_u_at, am_u_n1, am_u_n2, am_w_ne]
  refine c_goesOnR (d := d + 3) hR hN hn T (by omega) (fun e he J1 g1 D => ?_) (fun t1 ht J1 g1 T1 => ?_)
  · simp only [Option.toList_none, List.nil_append]
    exact lL_53D (f := f) (ifs := ifs) (kk := kk) hR hN hn hpt D (by rw [g1 69 37 (by omega)]; exact h37) hb1 (fun J2 g2 D2 => hE e (by unfold lawB1; rw [he]; rfl) J2 ((dd_lw g1).trans g2) D2)
  obtain ⟨ht4, rfl⟩ := stE_inr ht
  have q37 : J1 69 37 = nI b := by rw [g1 69 37 (by omega)]; exact h37
  have q43 : J1 69 43 = nI c := by rw [g1 69 43 (by omega)]; exact h43
  have q12 : J1 69 12 = nI 0 := by rw [g1 69 12 (by omega)]; exact h12
  simp only [am_lv_of, Option.toList_none, List.nil_append, rX13_tellLaw_53, rX13_tellLaw_54, rX13_tellLaw_57, rX13_tellLaw_58, rX13_tellLaw_61, rX13_tellLaw_62z, rX13_tellLaw_63, rX13_tellLaw_64, rX13_tellLaw_67, rX13_tellLaw_68, rX13_tellLaw_71, rX13_tellLaw_72, rX13_tellLaw_75, rX13_tellLaw_76, rX13_tellLaw_77, ro_69_1 hR, ro_69_3 hR, ro_69_5 hR, ro_69_6 hR, ro_69_7 hR, ro_69_8 hR, ro_69_9 hR, ro_69_21 hR, ro_69_22 hR, ro_69_23 hR, ro_69_24 hR, ro_69_25 hR, ro_69_26 hR, ro_69_27 hR, ro_69_28 hR, ro_69_29 hR, ro_69_30 hR, ro_69_31 hR, ro_69_32 hR, ro_69_33 hR, ro_69_34 hR, ro_69_35 hR, ro_69_36 hR, ro_69_38 hR, ro_69_39 hR, ro_69_40 hR, ro_69_41 hR, ro_69_42 hR, ro_69_44 hR, ro_69_45 hR, ro_69_46 hR, ro_69_48 hR, ro_69_49 hR, ro_69_51 hR, ro_69_52 hR, ro_69_55 hR, ro_69_56 hR, ro_69_57 hR, ro_69_58 hR, ro_69_59 hR, ro_69_61 hR, ro_69_62 hR, ro_69_63 hR, ro_69_64 hR, ro_69_65 hR, ro_69_66 hR, sh_69, sh_70, sh_71, sh_72, sh_73, sh_74, sh_75, sh_76, sh_77, sh_78, sh_79, sh_80, sh_81, sh_82, sh_83, sh_84, sh_85, sh_86, sh_87, sh_88, sh_89, sh_90, sh_91, sh_92, sh_93, sh_94, sh_95, sh_96, sh_97, sh_98, sh_99, sh_100, sh_101, sh_102, sh_103, sh_104, sh_105, sh_106, sh_107, sh_108, sh_109, sh_110, sh_111, sh_112, sh_113, sh_114, sh_115, hl, hvw9, Nat.reduceLT, Nat.reduceAdd, Nat.reduceMul, ne_eq, Nat.reduceEqDiff, not_false_eq_true, or_true, true_or, or_false, false_or, and_true, true_and, and_self, Nat.reduceLeDiff, am_ci, am_cr, am_cn0, Option.toList_some, Option.toList_none, List.cons_append, List.nil_append, am_s0, am_s1, am_s1r, am_s2, am_s2r, am_s3r, nI_add, am_u_ne, am_u_at, am_u_n1, am_u_n2, am_w_ne, hn, q37, q43, b2, nar_b1]
  have gA : am_ag (lwR pt kk) I (am_u (am_u J1 93 b (nI 1)) 94 b (nI c)) := ((st_lw g1).u (by unfold lwR erP; omega)).u (by unfold lwR erP; omega)
  have o2 : ∀ k j, ¬ ((k = 93 ∨ k = 94) ∧ j = b) → ¬ (k = 69 ∧ j = 11) → am_u (am_u J1 93 b (nI 1)) 94 b (nI c) k j = I k j := by
    intro k j h h'
    rw [← g1 k j h']
    by_cases e1 : k = 94
    · subst e1; rw [am_u_n2 (by omega), am_u_n1 (by omega)]
    · rw [am_u_n1 e1]
      by_cases e2 : k = 93
      · subst e2; rw [am_u_n2 (by omega)]
      · rw [am_u_n1 e2]
  have e93 : am_u (am_u J1 93 b (nI 1)) 94 b (nI c) 93 b = nI 1 := by rw [am_u_n1 (by omega), am_u_at]
  have e94 : am_u (am_u J1 93 b (nI 1)) 94 b (nI c) 94 b = nI c := am_u_at
  have T2 : rsT (am_u (am_u J1 93 b (nI 1)) 94 b (nI c)) L x (t + 1) := T1.fr (fun k j hk => by rw [am_u_n1 (by omega), am_u_n1 (by omega)])
  generalize am_u (am_u J1 93 b (nI 1)) 94 b (nI c) = J2 at *
  refine c_exprR (d := d + 1) (pt := pt) hR hN hn hpt T2 (by rw [o2 69 12 (by omega) (by omega)]; exact h12) (by rw [o2 69 43 (by omega) (by omega)]; exact h43) (by omega) (fun e he J3 g3 D => ?_) (fun t3 p1 hp1 J3 g3 T3 r12 r43 qs qo => ?_)
  · simp only [Option.toList_none, List.nil_append]
    exact lL_80 (f := f) (ifs := ifs) (kk := kk) hR hN hn hpt D (by rw [g3 69 37 (by unfold erP; omega), o2 69 37 (by omega) (by omega)]; exact h37) hb1 (fun J4 g4 D4 => hE e (by unfold lawB1; rw [ht, erB_inr, he]; rfl) J4 ((gA.trans (er_lw g3)).trans g4) D4)
  have G3 : am_ag (lwC pt c b) J2 J3 := er_C g3 qo
  obtain ⟨u1, u2, u3, -, -⟩ := exP_good _ _ _ hp1
  simp only [am_lv_of, Option.toList_none, List.nil_append, rX13_tellLaw_80, rX13_tellLaw_81, rX13_tellLaw_83, ro_69_1 hR, ro_69_3 hR, ro_69_5 hR, ro_69_6 hR, ro_69_7 hR, ro_69_8 hR, ro_69_9 hR, ro_69_21 hR, ro_69_22 hR, ro_69_23 hR, ro_69_24 hR, ro_69_25 hR, ro_69_26 hR, ro_69_27 hR, ro_69_28 hR, ro_69_29 hR, ro_69_30 hR, ro_69_31 hR, ro_69_32 hR, ro_69_33 hR, ro_69_34 hR, ro_69_35 hR, ro_69_36 hR, ro_69_38 hR, ro_69_39 hR, ro_69_40 hR, ro_69_41 hR, ro_69_42 hR, ro_69_44 hR, ro_69_45 hR, ro_69_46 hR, ro_69_48 hR, ro_69_49 hR, ro_69_51 hR, ro_69_52 hR, ro_69_55 hR, ro_69_56 hR, ro_69_57 hR, ro_69_58 hR, ro_69_59 hR, ro_69_61 hR, ro_69_62 hR, ro_69_63 hR, ro_69_64 hR, ro_69_65 hR, ro_69_66 hR, sh_69, sh_70, sh_71, sh_72, sh_73, sh_74, sh_75, sh_76, sh_77, sh_78, sh_79, sh_80, sh_81, sh_82, sh_83, sh_84, sh_85, sh_86, sh_87, sh_88, sh_89, sh_90, sh_91, sh_92, sh_93, sh_94, sh_95, sh_96, sh_97, sh_98, sh_99, sh_100, sh_101, sh_102, sh_103, sh_104, sh_105, sh_106, sh_107, sh_108, sh_109, sh_110, sh_111, sh_112, sh_113, sh_114, sh_115, hl, hvw9, Nat.reduceLT, Nat.reduceAdd, Nat.reduceMul, ne_eq, Nat.reduceEqDiff, not_false_eq_true, or_true, true_or, or_false, false_or, and_true, true_and, and_self, Nat.reduceLeDiff, am_ci, am_cr, am_cn0, Option.toList_some, Option.toList_none, List.cons_append, List.nil_append, am_s0, am_s1, am_s1r, am_s2, am_s2r, am_s3r, nI_add, am_u_ne, am_u_at, am_u_n1, am_u_n2, am_w_ne]
  refine c_mustR (d := d + 2) (c := 60) (r := 13) hR hN hn T3 (by omega) rfl (by omega) rfl (fun e he J4 g4 D => ?_) (fun t4' ht4' J4 g4 T4 => ?_)
  · simp only [Option.toList_none, List.nil_append]
    exact lL_86 (f := f) (ifs := ifs) (kk := kk) hR hN hn hpt D (by rw [g4 69 37 (by omega), g3 69 37 (by unfold erP; omega), o2 69 37 (by omega) (by omega)]; exact h37) hb1 (fun J5 g5 D5 => hE e (by unfold lawB1; rw [ht, erB_inr, hp1, erB_inr, he]; rfl) J5 (((gA.trans (er_lw g3)).trans (dd_lw g4)).trans g5) D5)
  obtain ⟨-, v2, rfl⟩ := tkE_inr ht4'
  have s37 : J4 69 37 = nI b := by rw [g4 69 37 (by omega), g3 69 37 (by unfold erP; omega), o2 69 37 (by omega) (by omega)]; exact h37
  have s43 : J4 69 43 = nI (c + p1.length) := by rw [g4 69 43 (by omega)]; exact r43
  have s12 : J4 69 12 = nI 0 := by rw [g4 69 12 (by omega)]; exact r12
  simp only [am_lv_of, Option.toList_none, List.nil_append, rX13_tellLaw_86, rX13_tellLaw_87, rX13_tellLaw_90, rX13_tellLaw_91, rX13_tellLaw_94, rX13_tellLaw_95, rX13_tellLaw_98, rX13_tellLaw_99, rX13_tellLaw_100, rX13_tellLaw_103, rX13_tellLaw_106, rX13_tellLaw_107, ro_69_1 hR, ro_69_3 hR, ro_69_5 hR, ro_69_6 hR, ro_69_7 hR, ro_69_8 hR, ro_69_9 hR, ro_69_21 hR, ro_69_22 hR, ro_69_23 hR, ro_69_24 hR, ro_69_25 hR, ro_69_26 hR, ro_69_27 hR, ro_69_28 hR, ro_69_29 hR, ro_69_30 hR, ro_69_31 hR, ro_69_32 hR, ro_69_33 hR, ro_69_34 hR, ro_69_35 hR, ro_69_36 hR, ro_69_38 hR, ro_69_39 hR, ro_69_40 hR, ro_69_41 hR, ro_69_42 hR, ro_69_44 hR, ro_69_45 hR, ro_69_46 hR, ro_69_48 hR, ro_69_49 hR, ro_69_51 hR, ro_69_52 hR, ro_69_55 hR, ro_69_56 hR, ro_69_57 hR, ro_69_58 hR, ro_69_59 hR, ro_69_61 hR, ro_69_62 hR, ro_69_63 hR, ro_69_64 hR, ro_69_65 hR, ro_69_66 hR, sh_69, sh_70, sh_71, sh_72, sh_73, sh_74, sh_75, sh_76, sh_77, sh_78, sh_79, sh_80, sh_81, sh_82, sh_83, sh_84, sh_85, sh_86, sh_87, sh_88, sh_89, sh_90, sh_91, sh_92, sh_93, sh_94, sh_95, sh_96, sh_97, sh_98, sh_99, sh_100, sh_101, sh_102, sh_103, sh_104, sh_105, sh_106, sh_107, sh_108, sh_109, sh_110, sh_111, sh_112, sh_113, sh_114, sh_115, hl, hvw9, Nat.reduceLT, Nat.reduceAdd, Nat.reduceMul, ne_eq, Nat.reduceEqDiff, not_false_eq_true, or_true, true_or, or_false, false_or, and_true, true_and, and_self, Nat.reduceLeDiff, am_ci, am_cr, am_cn0, Option.toList_some, Option.toList_none, List.cons_append, List.nil_append, am_s0, am_s1, am_s1r, am_s2, am_s2r, am_s3r, nI_add, am_u_ne, am_u_at, am_u_n1, am_u_n2, am_w_ne, ↓reduceIte, hn, s37, s43, b2, T4.2.2.2.2, z0, not_true_eq_false]
  have G4 : am_ag (lwC pt c b) J2 J4 := G3.trans (st_C g4)
  have gB : am_ag (lwR pt kk) I (am_u J4 95 b (nI (c + p1.length))) := (gA.trans (lC_lw (by omega) hb0 G4)).u (by unfold lwR erP; omega)
  have o5 : ∀ k j, ¬ (k = 95 ∧ j = b) → am_u J4 95 b (nI (c + p1.length)) k j = J4 k j := by
    intro k j h
    by_cases e1 : k = 95
    · subst e1; exact am_u_n2 (by omega)
    · exact am_u_n1 e1
  have e95 : am_u J4 95 b (nI (c + p1.length)) 95 b = nI (c + p1.length) := am_u_at
  have T5 : rsT (am_u J4 95 b (nI (c + p1.length))) L x (t3 + 1) := T4.fr (fun k j hk => am_u_n1 (by omega))
  generalize am_u J4 95 b (nI (c + p1.length)) = J5 at *
  refine c_exprR (d := d + 1) (pt := pt) (c := c + p1.length) hR hN hn hpt T5 (by rw [o5 69 12 (by omega)]; exact s12) (by rw [o5 69 43 (by omega)]; exact s43) (by omega) (fun e he J6 g6 D => ?_) (fun t5 p2 hp2 J6 g6 T6 w12 w43 ws wo => ?_)
  · simp only [Option.toList_none, List.nil_append]
    exact lL_110 (f := f) (ifs := ifs) (kk := kk) hR hN hn hpt D (by rw [g6 69 37 (by unfold erP; omega), o5 69 37 (by omega)]; exact s37) hb1 (fun J7 g7 D7 => hE e (by unfold lawB1; rw [ht, erB_inr, hp1, erB_inr, ht4', erB_inr, he]; rfl) J7 ((gB.trans (er_lw g6)).trans g7) D7)
  have G6 : am_ag (lwC pt (c + p1.length) b) J5 J6 := er_C g6 wo
  obtain ⟨x1, x2, x3, -, -⟩ := exP_good _ _ _ hp2
  simp only [am_lv_of, Option.toList_none, List.nil_append, rX13_tellLaw_110, rX13_tellLaw_111, rX13_tellLaw_113, ro_69_1 hR, ro_69_3 hR, ro_69_5 hR, ro_69_6 hR, ro_69_7 hR, ro_69_8 hR, ro_69_9 hR, ro_69_21 hR, ro_69_22 hR, ro_69_23 hR, ro_69_24 hR, ro_69_25 hR, ro_69_26 hR, ro_69_27 hR, ro_69_28 hR, ro_69_29 hR, ro_69_30 hR, ro_69_31 hR, ro_69_32 hR, ro_69_33 hR, ro_69_34 hR, ro_69_35 hR, ro_69_36 hR, ro_69_38 hR, ro_69_39 hR, ro_69_40 hR, ro_69_41 hR, ro_69_42 hR, ro_69_44 hR, ro_69_45 hR, ro_69_46 hR, ro_69_48 hR, ro_69_49 hR, ro_69_51 hR, ro_69_52 hR, ro_69_55 hR, ro_69_56 hR, ro_69_57 hR, ro_69_58 hR, ro_69_59 hR, ro_69_61 hR, ro_69_62 hR, ro_69_63 hR, ro_69_64 hR, ro_69_65 hR, ro_69_66 hR, sh_69, sh_70, sh_71, sh_72, sh_73, sh_74, sh_75, sh_76, sh_77, sh_78, sh_79, sh_80, sh_81, sh_82, sh_83, sh_84, sh_85, sh_86, sh_87, sh_88, sh_89, sh_90, sh_91, sh_92, sh_93, sh_94, sh_95, sh_96, sh_97, sh_98, sh_99, sh_100, sh_101, sh_102, sh_103, sh_104, sh_105, sh_106, sh_107, sh_108, sh_109, sh_110, sh_111, sh_112, sh_113, sh_114, sh_115, hl, hvw9, Nat.reduceLT, Nat.reduceAdd, Nat.reduceMul, ne_eq, Nat.reduceEqDiff, not_false_eq_true, or_true, true_or, or_false, false_or, and_true, true_and, and_self, Nat.reduceLeDiff, am_ci, am_cr, am_cn0, Option.toList_some, Option.toList_none, List.cons_append, List.nil_append, am_s0, am_s1, am_s1r, am_s2, am_s2r, am_s3r, nI_add, am_u_ne, am_u_at, am_u_n1, am_u_n2, am_w_ne]
  refine c_mustR (d := d + 2) (c := 9) (r := 29) hR hN hn T6 (by omega) rfl (by omega) rfl (fun e he J7 g7 D => ?_) (fun t6 ht6 J7 g7 T7 => ?_)
  · simp only [Option.toList_none, List.nil_append]
    exact lL_116 (f := f) (ifs := ifs) (kk := kk) hR hN hn hpt D (by rw [g7 69 37 (by omega), g6 69 37 (by unfold erP; omega), o5 69 37 (by omega)]; exact s37) hb1 (fun J8 g8 D8 => hE e (by unfold lawB1; rw [ht, erB_inr, hp1, erB_inr, ht4', erB_inr, hp2, erB_inr, he]; rfl) J8 (((gB.trans (er_lw g6)).trans (dd_lw g7)).trans g8) D8)
  obtain ⟨-, y2, rfl⟩ := tkE_inr ht6
  have y37 : J7 69 37 = nI b := by rw [g7 69 37 (by omega), g6 69 37 (by unfold erP; omega), o5 69 37 (by omega)]; exact s37
  have y43 : J7 69 43 = nI (c + p1.length + p2.length) := by rw [g7 69 43 (by omega)]; exact w43
  have y12 : J7 69 12 = nI 0 := by rw [g7 69 12 (by omega)]; exact w12
  have G7 : am_ag (lwC pt (c + p1.length) b) J5 J7 := G6.trans (st_C g7)
  simp only [am_lv_of, Option.toList_none, List.nil_append, rX13_tellLaw_116, rX13_tellLaw_117, ro_69_1 hR, ro_69_3 hR, ro_69_5 hR, ro_69_6 hR, ro_69_7 hR, ro_69_8 hR, ro_69_9 hR, ro_69_21 hR, ro_69_22 hR, ro_69_23 hR, ro_69_24 hR, ro_69_25 hR, ro_69_26 hR, ro_69_27 hR, ro_69_28 hR, ro_69_29 hR, ro_69_30 hR, ro_69_31 hR, ro_69_32 hR, ro_69_33 hR, ro_69_34 hR, ro_69_35 hR, ro_69_36 hR, ro_69_38 hR, ro_69_39 hR, ro_69_40 hR, ro_69_41 hR, ro_69_42 hR, ro_69_44 hR, ro_69_45 hR, ro_69_46 hR, ro_69_48 hR, ro_69_49 hR, ro_69_51 hR, ro_69_52 hR, ro_69_55 hR, ro_69_56 hR, ro_69_57 hR, ro_69_58 hR, ro_69_59 hR, ro_69_61 hR, ro_69_62 hR, ro_69_63 hR, ro_69_64 hR, ro_69_65 hR, ro_69_66 hR, sh_69, sh_70, sh_71, sh_72, sh_73, sh_74, sh_75, sh_76, sh_77, sh_78, sh_79, sh_80, sh_81, sh_82, sh_83, sh_84, sh_85, sh_86, sh_87, sh_88, sh_89, sh_90, sh_91, sh_92, sh_93, sh_94, sh_95, sh_96, sh_97, sh_98, sh_99, sh_100, sh_101, sh_102, sh_103, sh_104, sh_105, sh_106, sh_107, sh_108, sh_109, sh_110, sh_111, sh_112, sh_113, sh_114, sh_115, hl, hvw9, Nat.reduceLT, Nat.reduceAdd, Nat.reduceMul, ne_eq, Nat.reduceEqDiff, not_false_eq_true, or_true, true_or, or_false, false_or, and_true, true_and, and_self, Nat.reduceLeDiff, am_ci, am_cr, am_cn0, Option.toList_some, Option.toList_none, List.cons_append, List.nil_append, am_s0, am_s1, am_s1r, am_s2, am_s2r, am_s3r, nI_add, am_u_ne, am_u_at, am_u_n1, am_u_n2, am_w_ne]
  refine c_termR (d := d) (pt := pt) (c := c + p1.length + p2.length) (b := b) hR hN hn hpt T7 y12 y43 (by omega) y37 b2 (fun e he J8 g8 D q37' => ?_) (fun t7 p3 hp3 J8 g8 T8 a12 a43 as ao a37 a96 a97 => ?_)
  · simp only [Option.toList_none, List.nil_append]
    exact lL_120 (f := f) (ifs := ifs) (kk := kk) hR hN hn hpt D q37' (by omega) (fun J9 g9 D9 => hE e (by unfold lawB1; rw [ht, erB_inr, hp1, erB_inr, ht4', erB_inr, hp2, erB_inr, ht6, erB_inr, he]; rfl) J9 (((gB.trans (lC_lw (by omega) hb0 G7)).trans (tm_lw hb0 g8)).trans g9) D9)
  have G8 : am_ag (lwC pt (c + p1.length + p2.length) b) J7 J8 := tm_C g8 ao
  obtain ⟨z1, z2, z3, -, -⟩ := exP_good _ _ _ hp3
  simp only [am_lv_of, Option.toList_none, List.nil_append, rX13_tellLaw_120, rX13_tellLaw_121, rX13_tellLaw_123, ro_69_1 hR, ro_69_3 hR, ro_69_5 hR, ro_69_6 hR, ro_69_7 hR, ro_69_8 hR, ro_69_9 hR, ro_69_21 hR, ro_69_22 hR, ro_69_23 hR, ro_69_24 hR, ro_69_25 hR, ro_69_26 hR, ro_69_27 hR, ro_69_28 hR, ro_69_29 hR, ro_69_30 hR, ro_69_31 hR, ro_69_32 hR, ro_69_33 hR, ro_69_34 hR, ro_69_35 hR, ro_69_36 hR, ro_69_38 hR, ro_69_39 hR, ro_69_40 hR, ro_69_41 hR, ro_69_42 hR, ro_69_44 hR, ro_69_45 hR, ro_69_46 hR, ro_69_48 hR, ro_69_49 hR, ro_69_51 hR, ro_69_52 hR, ro_69_55 hR, ro_69_56 hR, ro_69_57 hR, ro_69_58 hR, ro_69_59 hR, ro_69_61 hR, ro_69_62 hR, ro_69_63 hR, ro_69_64 hR, ro_69_65 hR, ro_69_66 hR, sh_69, sh_70, sh_71, sh_72, sh_73, sh_74, sh_75, sh_76, sh_77, sh_78, sh_79, sh_80, sh_81, sh_82, sh_83, sh_84, sh_85, sh_86, sh_87, sh_88, sh_89, sh_90, sh_91, sh_92, sh_93, sh_94, sh_95, sh_96, sh_97, sh_98, sh_99, sh_100, sh_101, sh_102, sh_103, sh_104, sh_105, sh_106, sh_107, sh_108, sh_109, sh_110, sh_111, sh_112, sh_113, sh_114, sh_115, hl, hvw9, Nat.reduceLT, Nat.reduceAdd, Nat.reduceMul, ne_eq, Nat.reduceEqDiff, not_false_eq_true, or_true, true_or, or_false, false_or, and_true, true_and, and_self, Nat.reduceLeDiff, am_ci, am_cr, am_cn0, Option.toList_some, Option.toList_none, List.cons_append, List.nil_append, am_s0, am_s1, am_s1r, am_s2, am_s2r, am_s3r, nI_add, am_u_ne, am_u_at, am_u_n1, am_u_n2, am_w_ne]
  refine c_mustR (d := d + 2) (c := 10) (r := 30) hR hN hn T8 (by omega) rfl (by omega) rfl (fun e he J9 g9 D => ?_) (fun t8 ht8 J9 g9 T9 => ?_)
  · simp only [am_lv_of, Option.toList_none, List.nil_append, rX13_tellLaw_126]
    exact lL_12 (f := f) (ifs := ifs) (kk := kk) hR hN hn hpt D (by rw [g9 69 37 (by omega)]; exact a37) (by omega) (fun J10 g10 D10 => hE e (by unfold lawB1; rw [ht, erB_inr, hp1, erB_inr, ht4', erB_inr, hp2, erB_inr, ht6, erB_inr, hp3, erB_inr, he]; rfl) J10 ((((gB.trans (lC_lw (by omega) hb0 G7)).trans (tm_lw hb0 g8)).trans (dd_lw g9)).trans g10) D10)
  obtain ⟨-, c2, rfl⟩ := tkE_inr ht8
  have G79 : am_ag (lwC pt (c + p1.length + p2.length) b) J7 J9 := G8.trans (st_C g9)
  have G59 : am_ag (lwC pt (c + p1.length) b) J5 J9 := G7.trans (lC_mono (by omega) G79)
  simp only [am_lv_of, Option.toList_none, List.nil_append, rX13_tellLaw_126]
  have fr5 : ∀ k j, k = 98 ∨ k = 99 → j < c + p1.length → J9 k j = J4 k j := fun k j hk hj => by rw [G59 k j (by unfold lwC; omega), o5 k j (by omega)]
  refine hS (t7 + 1) (p1, p2, p3) (by unfold lawB1; rw [ht, erB_inr, hp1, erB_inr, ht4', erB_inr, hp2, erB_inr, ht6, erB_inr, hp3, erB_inr, ht8]; rfl) J9 (c + p1.length + p2.length + p3.length) (gB.trans (lC_lw (by omega) hb0 G59)) ?_ (by omega) (by omega) ?_ ?_ ?_
  · refine ⟨T9, by rw [g9 69 12 (by omega)]; exact a12, by rw [g9 69 43 (by omega)]; exact a43, by omega, by rw [g9 69 37 (by omega)]; exact a37, by omega, ?_⟩
    rw [G59 69 19 (by unfold lwC; omega), o5 69 19 (by omega), G4 69 19 (by unfold lwC; omega), o2 69 19 (by omega) (by omega)]; exact h19
  · refine ⟨c, ?_, ?_, ?_, ?_, pf4 hp1, ?_, pf4 hp2, ⟨?_, ?_, by show c + p1.length + p2.length + p3.length ≤ 840; omega, ?_, pf4 hp3⟩, Nat.le_refl _, by omega⟩
    · rw [G59 93 b (by unfold lwC; omega), o5 93 b (by omega), G4 93 b (by unfold lwC; omega)]; exact e93
    · rw [G59 94 b (by unfold lwC; omega), o5 94 b (by omega), G4 94 b (by unfold lwC; omega)]; exact e94
    · rw [G59 95 b (by unfold lwC; omega)]; exact e95
    · exact rf_seg_g qs (fun k j hk _ hj => by rw [fr5 k j hk hj, g4 k j (by omega)])
    · exact rf_seg_g ws (fun k j hk _ hj => by
      have hj : j < c + p1.length + p2.length := hj
      rw [G79 k j (by unfold lwC; omega), g7 k j (by omega)])
    · rw [g9 96 b (by omega)]; exact a96
    · rw [g9 97 b (by omega)]; exact a97
    · exact rf_seg_g as (fun k j hk _ hj => g9 k j (by omega))
  · intro k j hk hj
    rw [fr5 k j hk (by omega), G4 k j (by unfold lwC; omega), o2 k j (by omega) (by omega)]
  · intro k j k1 k2 hj
    rw [G59 k j (by unfold lwC; omega), o5 k j (by omega), G4 k j (by unfold lwC; omega), o2 k j (by omega) (by omega)]
/-- the last branch -/
theorem lL_end {pt kk f ifs t c : Nat} {acc : lawB} (hR : am_OR R) (hN : 116 ≤ n) (hn : n ≤ 1000) (hpt : pt < 2) (hkk : kk < 3) (S : laS I L x pt t (f + acc.length) c) (h2 : 4 * (f + acc.length - 130 * pt) + 2 ≤ t) (hP : rf_pre I c f acc)
    (hE : ∀ e, lawE x t acc = .inl e → ∀ J', am_ag (lwR pt kk) I J' → ddR J' x e → Q none (n, J', L, R))
    (hS : ∀ t' e, lawE x t acc = .inr (t', acc, e) → ∀ J', lwS I J' L x pt kk (f + acc.length) c f t' acc e → Q none (n, J', L, R)) : am_E X (d + 5) mX13_tellLaw 129 (lsL kk f ifs) [] (n, I, L, R) Q := by
  have hl := am_lt hN
  have hvw9 := am_lw hN
  obtain ⟨T, h12, h43, hc, h37, hb, h19⟩ := S
  have t4 := T.2.2.1
  generalize hbe : f + acc.length = b at *
  have hb0 : 130 * pt ≤ b ∧ b < 130 * pt + 130 := by omega
  have b2 : b < 260 := by omega
  unfold lsL
  have gA : am_ag (lwR pt kk) I (am_u I 93 b (nI 0)) := am_ag.refl.u (by unfold lwR erP; omega)
  have TA : rsT (am_u I 93 b (nI 0)) L x t := T.fr (fun k j hj => am_u_n1 (by omega))
  have oA : ∀ k j, ¬ (k = 93 ∧ j = b) → am_u I 93 b (nI 0) k j = I k j := by
    intro k j h
    by_cases e1 : k = 93
    · subst e1; exact am_u_n2 (by omega)
    · exact am_u_n1 e1
  have e93 : am_u I 93 b (nI 0) 93 b = nI 0 := am_u_at
  simp only [am_lv_of, rX13_tellLaw_129, rX13_tellLaw_130, rX13_tellLaw_133, rX13_tellLaw_134, rX13_tellLaw_137, rX13_tellLaw_138z, rX13_tellLaw_139, rX13_tellLaw_140, ro_69_1 hR, ro_69_3 hR, ro_69_5 hR, ro_69_6 hR, ro_69_7 hR, ro_69_8 hR, ro_69_9 hR, ro_69_21 hR, ro_69_22 hR, ro_69_23 hR, ro_69_24 hR, ro_69_25 hR, ro_69_26 hR, ro_69_27 hR, ro_69_28 hR, ro_69_29 hR, ro_69_30 hR, ro_69_31 hR, ro_69_32 hR, ro_69_33 hR, ro_69_34 hR, ro_69_35 hR, ro_69_36 hR, ro_69_38 hR, ro_69_39 hR, ro_69_40 hR, ro_69_41 hR, ro_69_42 hR, ro_69_44 hR, ro_69_45 hR, ro_69_46 hR, ro_69_48 hR, ro_69_49 hR, ro_69_51 hR, ro_69_52 hR, ro_69_55 hR, ro_69_56 hR, ro_69_57 hR, ro_69_58 hR, ro_69_59 hR, ro_69_61 hR, ro_69_62 hR, ro_69_63 hR, ro_69_64 hR, ro_69_65 hR, ro_69_66 hR, sh_69, sh_70, sh_71, sh_72, sh_73, sh_74, sh_75, sh_76, sh_77, sh_78, sh_79, sh_80, sh_81, sh_82, sh_83, sh_84, sh_85, sh_86, sh_87, sh_88, sh_89, sh_90, sh_91, sh_92, sh_93, sh_94, sh_95, sh_96, sh_97, sh_98, sh_99, sh_100, sh_101, sh_102, sh_103, sh_104, sh_105, sh_106, sh_107, sh_108, sh_109, sh_110, sh_111, sh_112, sh_113, sh_114, sh_115, hl, hvw9, Nat.reduceLT, Nat.reduceAdd, Nat.reduceMul, ne_eq, Nat.reduceEqDiff, not_false_eq_true, or_true, true_or, or_false, false_or, and_true, true_and, and_self, Nat.reduceLeDiff, am_ci, am_cr, am_cn0, Option.toList_some, Option.toList_none, List.cons_append, List.nil_append, am_s0, am_s1, am_s1r, am_s2, am_s2r, am_s3r, nI_add, am_u_ne, am_u_at, am_u_n1, am_u_n2, am_w_ne, hn, h37, b2, nar_b0]
  generalize am_u I 93 b (nI 0) = J0 at *
  refine c_termR (d := d) (pt := pt) (c := c) (b := b) hR hN hn hpt TA (by rw [oA 69 12 (by omega)]; exact h12) (by rw [oA 69 43 (by omega)]; exact h43) hc (by rw [oA 69 37 (by omega)]; exact h37) b2 (fun e he J1 g1 D _ => ?_) (fun t7 p3 hp3 J1 g1 T1 a12 a43 as ao a37 a96 a97 => ?_)
  · have zf : ¬ nI e.1 ≤ 0 := nI_nle (by have := D.1; omega) (by have := D.1; omega)
    simp only [am_lv_of, Option.toList_none, List.nil_append, rX13_tellLaw_143, rX13_tellLaw_144, rX13_tellLaw_145, ro_69_1 hR, ro_69_3 hR, ro_69_5 hR, ro_69_6 hR, ro_69_7 hR, ro_69_8 hR, ro_69_9 hR, ro_69_21 hR, ro_69_22 hR, ro_69_23 hR, ro_69_24 hR, ro_69_25 hR, ro_69_26 hR, ro_69_27 hR, ro_69_28 hR, ro_69_29 hR, ro_69_30 hR, ro_69_31 hR, ro_69_32 hR, ro_69_33 hR, ro_69_34 hR, ro_69_35 hR, ro_69_36 hR, ro_69_38 hR, ro_69_39 hR, ro_69_40 hR, ro_69_41 hR, ro_69_42 hR, ro_69_44 hR, ro_69_45 hR, ro_69_46 hR, ro_69_48 hR, ro_69_49 hR, ro_69_51 hR, ro_69_52 hR, ro_69_55 hR, ro_69_56 hR, ro_69_57 hR, ro_69_58 hR, ro_69_59 hR, ro_69_61 hR, ro_69_62 hR, ro_69_63 hR, ro_69_64 hR, ro_69_65 hR, ro_69_66 hR, sh_69, sh_70, sh_71, sh_72, sh_73, sh_74, sh_75, sh_76, sh_77, sh_78, sh_79, sh_80, sh_81, sh_82, sh_83, sh_84, sh_85, sh_86, sh_87, sh_88, sh_89, sh_90, sh_91, sh_92, sh_93, sh_94, sh_95, sh_96, sh_97, sh_98, sh_99, sh_100, sh_101, sh_102, sh_103, sh_104, sh_105, sh_106, sh_107, sh_108, sh_109, sh_110, sh_111, sh_112, sh_113, sh_114, sh_115, hl, hvw9, Nat.reduceLT, Nat.reduceAdd, Nat.reduceMul, ne_eq, Nat.reduceEqDiff, not_false_eq_true, or_true, true_or, or_false, false_or, and_true, true_and, and_self, Nat.reduceLeDiff, am_ci, am_cr, am_cn0, Option.toList_some, Option.toList_none, List.cons_append, List.nil_append, am_s0, am_s1, am_s1r, am_s2, am_s2r, am_s3r, nI_add, am_u_ne, am_u_at, am_u_n1, am_u_n2, am_w_ne, c_mustD hR hN D, rX13_tellLaw_148, rX13_tellLaw_149, rX13_tellLaw_152, rX13_tellLaw_155, ↓reduceIte, D.2.1, zf]
    exact hE e (by unfold lawE; rw [he]; rfl) J1 (gA.trans (tm_lw hb0 g1)) D
  have G1 : am_ag (lwC pt c b) J0 J1 := tm_C g1 ao
  obtain ⟨z1, z2, z3, -, -⟩ := exP_good _ _ _ hp3
  simp only [am_lv_of, Option.toList_none, List.nil_append, rX13_tellLaw_143, rX13_tellLaw_144, rX13_tellLaw_145, ro_69_1 hR, ro_69_3 hR, ro_69_5 hR, ro_69_6 hR, ro_69_7 hR, ro_69_8 hR, ro_69_9 hR, ro_69_21 hR, ro_69_22 hR, ro_69_23 hR, ro_69_24 hR, ro_69_25 hR, ro_69_26 hR, ro_69_27 hR, ro_69_28 hR, ro_69_29 hR, ro_69_30 hR, ro_69_31 hR, ro_69_32 hR, ro_69_33 hR, ro_69_34 hR, ro_69_35 hR, ro_69_36 hR, ro_69_38 hR, ro_69_39 hR, ro_69_40 hR, ro_69_41 hR, ro_69_42 hR, ro_69_44 hR, ro_69_45 hR, ro_69_46 hR, ro_69_48 hR, ro_69_49 hR, ro_69_51 hR, ro_69_52 hR, ro_69_55 hR, ro_69_56 hR, ro_69_57 hR, ro_69_58 hR, ro_69_59 hR, ro_69_61 hR, ro_69_62 hR, ro_69_63 hR, ro_69_64 hR, ro_69_65 hR, ro_69_66 hR, sh_69, sh_70, sh_71, sh_72, sh_73, sh_74, sh_75, sh_76, sh_77, sh_78, sh_79, sh_80, sh_81, sh_82, sh_83, sh_84, sh_85, sh_86, sh_87, sh_88, sh_89, sh_90, sh_91, sh_92, sh_93, sh_94, sh_95, sh_96, sh_97, sh_98, sh_99, sh_100, sh_101, sh_102, sh_103, sh_104, sh_105, sh_106, sh_107, sh_108, sh_109, sh_110, sh_111, sh_112, sh_113, sh_114, sh_115, hl, hvw9, Nat.reduceLT, Nat.reduceAdd, Nat.reduceMul, ne_eq, Nat.reduceEqDiff, not_false_eq_true, or_true, true_or, or_false, false_or, and_true, true_and, and_self, Nat.reduceLeDiff, am_ci, am_cr, am_cn0, Option.toList_some, Option.toList_none, List.cons_append, List.nil_append, am_s0, am_s1, am_s1r, am_s2, am_s2r, am_s3r, nI_add, am_u_ne, am_u_at, am_u_n1, am_u_n2, am_w_ne]
  refine c_mustR (d := d + 2) (c := 59) (r := 4) hR hN hn T1 (by omega) rfl (by omega) rfl (fun e he J2 g2 D => ?_) (fun t8 ht8 J2 g2 T2 => ?_)
  · have zf : ¬ nI e.1 ≤ 0 := nI_nle (by have := D.1; omega) (by have := D.1; omega)
    simp only [am_lv_of, Option.toList_none, List.nil_append, rX13_tellLaw_148, rX13_tellLaw_149, rX13_tellLaw_152, rX13_tellLaw_155, ro_69_1 hR, ro_69_3 hR, ro_69_5 hR, ro_69_6 hR, ro_69_7 hR, ro_69_8 hR, ro_69_9 hR, ro_69_21 hR, ro_69_22 hR, ro_69_23 hR, ro_69_24 hR, ro_69_25 hR, ro_69_26 hR, ro_69_27 hR, ro_69_28 hR, ro_69_29 hR, ro_69_30 hR, ro_69_31 hR, ro_69_32 hR, ro_69_33 hR, ro_69_34 hR, ro_69_35 hR, ro_69_36 hR, ro_69_38 hR, ro_69_39 hR, ro_69_40 hR, ro_69_41 hR, ro_69_42 hR, ro_69_44 hR, ro_69_45 hR, ro_69_46 hR, ro_69_48 hR, ro_69_49 hR, ro_69_51 hR, ro_69_52 hR, ro_69_55 hR, ro_69_56 hR, ro_69_57 hR, ro_69_58 hR, ro_69_59 hR, ro_69_61 hR, ro_69_62 hR, ro_69_63 hR, ro_69_64 hR, ro_69_65 hR, ro_69_66 hR, sh_69, sh_70, sh_71, sh_72, sh_73, sh_74, sh_75, sh_76, sh_77, sh_78, sh_79, sh_80, sh_81, sh_82, sh_83, sh_84, sh_85, sh_86, sh_87, sh_88, sh_89, sh_90, sh_91, sh_92, sh_93, sh_94, sh_95, sh_96, sh_97, sh_98, sh_99, sh_100, sh_101, sh_102, sh_103, sh_104, sh_105, sh_106, sh_107, sh_108, sh_109, sh_110, sh_111, sh_112, sh_113, sh_114, sh_115, hl, hvw9, Nat.reduceLT, Nat.reduceAdd, Nat.reduceMul, ne_eq, Nat.reduceEqDiff, not_false_eq_true, or_true, true_or, or_false, false_or, and_true, true_and, and_self, Nat.reduceLeDiff, am_ci, am_cr, am_cn0, Option.toList_some, Option.toList_none, List.cons_append, List.nil_append, am_s0, am_s1, am_s1r, am_s2, am_s2r, am_s3r, nI_add, am_u_ne, am_u_at, am_u_n1, am_u_n2, am_w_ne, ↓reduceIte, D.2.1, zf]
    exact hE e (by unfold lawE; rw [hp3, erB_inr, he]; rfl) J2 ((gA.trans (tm_lw hb0 g1)).trans (dd_lw g2)) D
  obtain ⟨-, c2, rfl⟩ := tkE_inr ht8
  have z0 : nI 0 ≤ 0 := by decide
  have G2 : am_ag (lwC pt c b) J0 J2 := G1.trans (st_C g2)
  have b37 : J2 69 37 = nI (b + 1) := by rw [g2 69 37 (by omega)]; exact a37
  have b19 : J2 69 19 = nI pt := by rw [G2 69 19 (by unfold lwC; omega), oA 69 19 (by omega)]; exact h19
  have ix : nI 3 * nI pt = nI (3 * pt) := (by decide : ∀ p, p < 2 → nI 3 * nI p = nI (3 * p)) pt hpt
  have ix6 : 3 * pt + kk < 6 := by omega
  simp only [am_lv_of, Option.toList_none, List.nil_append, rX13_tellLaw_148, rX13_tellLaw_149, rX13_tellLaw_152, rX13_tellLaw_155, rX13_tellLaw_156, rX13_tellLaw_157, rX13_tellLaw_160, rX13_tellLaw_161, rX13_tellLaw_162, rX13_tellLaw_165, rX13_tellLaw_166, rX13_tellLaw_167, rX13_tellLaw_168, rX13_tellLaw_169, rX13_tellLaw_170, rX13_tellLaw_171, rX13_tellLaw_174, rX13_tellLaw_175, rX13_tellLaw_176, rX13_tellLaw_179, rX13_tellLaw_180, rX13_tellLaw_181, rX13_tellLaw_182, rX13_tellLaw_183, rX13_tellLaw_186, rX13_tellLaw_187, ro_69_1 hR, ro_69_3 hR, ro_69_5 hR, ro_69_6 hR, ro_69_7 hR, ro_69_8 hR, ro_69_9 hR, ro_69_21 hR, ro_69_22 hR, ro_69_23 hR, ro_69_24 hR, ro_69_25 hR, ro_69_26 hR, ro_69_27 hR, ro_69_28 hR, ro_69_29 hR, ro_69_30 hR, ro_69_31 hR, ro_69_32 hR, ro_69_33 hR, ro_69_34 hR, ro_69_35 hR, ro_69_36 hR, ro_69_38 hR, ro_69_39 hR, ro_69_40 hR, ro_69_41 hR, ro_69_42 hR, ro_69_44 hR, ro_69_45 hR, ro_69_46 hR, ro_69_48 hR, ro_69_49 hR, ro_69_51 hR, ro_69_52 hR, ro_69_55 hR, ro_69_56 hR, ro_69_57 hR, ro_69_58 hR, ro_69_59 hR, ro_69_61 hR, ro_69_62 hR, ro_69_63 hR, ro_69_64 hR, ro_69_65 hR, ro_69_66 hR, sh_69, sh_70, sh_71, sh_72, sh_73, sh_74, sh_75, sh_76, sh_77, sh_78, sh_79, sh_80, sh_81, sh_82, sh_83, sh_84, sh_85, sh_86, sh_87, sh_88, sh_89, sh_90, sh_91, sh_92, sh_93, sh_94, sh_95, sh_96, sh_97, sh_98, sh_99, sh_100, sh_101, sh_102, sh_103, sh_104, sh_105, sh_106, sh_107, sh_108, sh_109, sh_110, sh_111, sh_112, sh_113, sh_114, sh_115, hl, hvw9, Nat.reduceLT, Nat.reduceAdd, Nat.reduceMul, ne_eq, Nat.reduceEqDiff, not_false_eq_true, or_true, true_or, or_false, false_or, and_true, true_and, and_self, Nat.reduceLeDiff, am_ci, am_cr, am_cn0, Option.toList_some, Option.toList_none, List.cons_append, List.nil_append, am_s0, am_s1, am_s1r, am_s2, am_s2r, am_s3r, nI_add, am_u_ne, am_u_at, am_u_n1, am_u_n2, am_w_ne, ↓reduceIte, hn, T2.2.2.2.2, z0, b37, b19, ix, ix6]
  have oB : ∀ k j, ¬ (k = 91 ∨ k = 92) → am_u (am_u J2 91 (3 * pt + kk) (nI f)) 92 (3 * pt + kk) (nI (b + 1)) k j = J2 k j := fun k j h => by rw [am_u_n1 (by omega), am_u_n1 (by omega)]
  refine hS (t7 + 1) p3 (by unfold lawE; rw [hp3, erB_inr, ht8]; rfl) _ ?_
  have e91 : am_u (am_u J2 91 (3 * pt + kk) (nI f)) 92 (3 * pt + kk) (nI (b + 1)) 91 (3 * pt + kk) = nI f := by rw [am_u_n1 (by omega), am_u_at]
  have e92 : am_u (am_u J2 91 (3 * pt + kk) (nI f)) 92 (3 * pt + kk) (nI (b + 1)) 92 (3 * pt + kk) = nI (b + 1) := am_u_at
  have gC : am_ag (lwR pt kk) I (am_u (am_u J2 91 (3 * pt + kk) (nI f)) 92 (3 * pt + kk) (nI (b + 1))) := ((gA.trans (lC_lw (by omega) hb0 G2)).u (by unfold lwR erP; omega)).u (by unfold lwR erP; omega)
  have T3 : rsT (am_u (am_u J2 91 (3 * pt + kk) (nI f)) 92 (3 * pt + kk) (nI (b + 1))) L x (t7 + 1) := T2.fr (fun k j hk => oB k j (by omega))
  generalize am_u (am_u J2 91 (3 * pt + kk) (nI f)) 92 (3 * pt + kk) (nI (b + 1)) = J3 at *
  have fr : ∀ k j, k = 98 ∨ k = 99 → j < c → J3 k j = I k j := fun k j hk hj => by rw [oB k j (by omega), G2 k j (by unfold lwC; omega), oA k j (by omega)]
  have fb : ∀ k j, 93 ≤ k → k ≤ 97 → j < b → J3 k j = I k j := fun k j k1 k2 hj => by rw [oB k j (by omega), G2 k j (by unfold lwC; omega), oA k j (by omega)]
  have RB : rfB J3 (c + p3.length) f acc p3 := by
    refine ⟨hP.ag (by omega) fr (fun k j k1 k2 j1 j2 => fb k j k1 k2 (by omega)), ?_, c, ⟨?_, ?_, by show _ ≤ 840; omega, ?_, pf4 hp3⟩, Nat.le_refl _, by rw [hbe]; omega⟩
    · rw [hbe, oB 93 b (by omega), G2 93 b (by unfold lwC; omega)]; exact e93
    · rw [hbe, oB 96 b (by omega), g2 96 b (by omega)]; exact a96
    · rw [hbe, oB 97 b (by omega), g2 97 b (by omega)]; exact a97
    · exact rf_seg_g as (fun k j hk _ hj => by rw [oB k j (by omega), g2 k j (by omega)])
  refine ⟨gC, ⟨c + p3.length, by omega, ⟨T3, ?_, ?_, by omega, ?_, by omega, ?_⟩, RB⟩, RB.brs, e91, by rw [hbe]; exact e92, fr, fb⟩
  · rw [oB 69 12 (by omega), g2 69 12 (by omega)]; exact a12
  · rw [oB 69 43 (by omega), g2 69 43 (by omega)]; exact a43
  · rw [oB 69 37 (by omega), b37, hbe]
  · rw [oB 69 19 (by omega)]; exact b19
end FF
