--! 90
/-! TEXTS: the reference cuts them, the whole -/
section CV
variable {X : am_X} {d n : Nat} {I : Nat → Nat → Int32} {L : Nat → Nat → Int64} {R : Nat → Nat → Option Nat} {Q : Option Value → am_M → Prop} {x : txt}
/-- so far k tokens are cut, the next one is that at position i -/
def cuS (J : Nat → Nat → Int32) (K : Nat → Nat → Int64) (x : txt) (i k : Nat) : Prop := J 69 10 = nI k ∧ k ≤ 401 ∧ tP x i = kP x k ∧ (∀ q, q < k → tkR J K x q) ∧ ∀ q, q < k → kK x q ≠ 22
theorem tkR.w {J : Nat → Nat → Int32} {K : Nat → Nat → Int64} {k q : Nat} {a b c e : Int32} {l : Int64} (h : tkR J K x q) (hq : q < k) : tkR (am_u (am_u (am_u (am_u J 72 k a) 73 k b) 74 k c) 69 10 e) (am_u K 75 k l) x q := by
  obtain ⟨h1, h2, h3, h4⟩ := h
  refine ⟨?_, ?_, fun z => ?_, fun z => ?_⟩
  · rw [am_u_n1 (by omega), am_u_n1 (by omega), am_u_n1 (by omega), am_u_n2 (by omega)]; exact h1
  · rw [am_u_n1 (by omega), am_u_n1 (by omega), am_u_n2 (by omega), am_u_n1 (by omega)]; exact h2
  · rw [am_u_n1 (by omega), am_u_n2 (by omega), am_u_n1 (by omega), am_u_n1 (by omega)]; exact h3 z
  · rw [am_u_n2 (by omega)]; exact h4 z
theorem tkR.at {J : Nat → Nat → Int32} {K : Nat → Nat → Int64} {k v : Nat} {e : Int32} {l : Int64} (hv : kK x k = 21 → v = kV x k) (hl : kK x k ≤ 20 → l = lN (cdW 27 (kM x k))) : tkR (am_u (am_u (am_u (am_u J 72 k (nI (rK (kK x k)))) 73 k (nI (kP x k))) 74 k (nI v)) 69 10 e) (am_u K 75 k l) x k := by
  refine ⟨?_, ?_, fun z => ?_, fun z => ?_⟩
  · rw [am_u_n1 (by omega), am_u_n1 (by omega), am_u_n1 (by omega), am_u_at]
  · rw [am_u_n1 (by omega), am_u_n1 (by omega), am_u_at]
  · rw [am_u_n1 (by omega), am_u_at, hv z]
  · rw [am_u_at, hl z]
theorem cuP_w {J : Nat → Nat → Int32} {k : Nat} {a b c e : Int32} (h : am_ag cuP I J) : am_ag cuP I (am_u (am_u (am_u (am_u J 72 k a) 73 k b) 74 k c) 69 10 e) := by
  refine am_ag.u (am_ag.u (am_ag.u (am_ag.u h ?_) ?_) ?_) ?_
  · unfold cuP; omega
  · unfold cuP; omega
  · unfold cuP; omega
  · unfold cuP; omega
theorem cuL_w {K : Nat → Nat → Int64} {k : Nat} {l : Int64} (h : cuL L K) : cuL L (am_u K 75 k l) := fun a b hab => by rw [am_u_n1 hab]; exact h a b hab
theorem relV.ag {K : Nat → Nat → Int64} (h : relV L) (g : cuL L K) : relV K := fun k hk => by rw [g 76 k (by omega)]; exact h k hk
theorem l_cut (hR : am_OR R) (hN : 116 ≤ n) (hn : n ≤ 1000) (h4 : I 69 4 = nI x.1) (hx : txI I 71 x) (hV : relV L)
    (hQ : ∀ I' L', am_ag cuP I I' → cuL L L' → (∀ k, k ≤ 400 → (∀ q, q < k → kK x q ≠ 22) → tkR I' L' x k) → Q none (n, I', L', R)) : ∀ (m i k : Nat) (J : Nat → Nat → Int32) (K : Nat → Nat → Int64) (l2 l3 l4 l5 l6 l7 : Option Value), x.1 - i < m → i ≤ x.1 → am_ag cuP I J → cuL L K → cuS J K x i k → am_nl l2 → am_nl l3 → am_nl l5 → am_nl l6 → am_E X (d + 3) mX13_cut 7 [some (.ref 69), some (.int (nI i)), l2, l3, l4, l5, l6, l7] [] (n, J, K, R) Q := by
  have hl := am_lt hN
  have hvw9 := am_lw hN
  have hT := hx.1
  intro m
  induction m with
  | zero => intro i k J K l2 l3 l4 l5 l6 l7 hm; omega
  | succ m ih =>
    intro i k J K l2 l3 l4' l5 l6 l7 hm hi hJ hK HS n2 n3 n5 n6
    obtain ⟨s1, s2, s3, s4, s5⟩ := id HS
    by_cases hk : k = 401
    · subst hk
      have c1 : nI 400 < nI 401 := by decide
      simp only [am_lv_of, rX13_cut_7, rX13_cut_8, rX13_cut_11, rX13_cut_14, rX13_cut_294, ro_69_1 hR, ro_69_3 hR, ro_69_5 hR, ro_69_6 hR, ro_69_7 hR, ro_69_8 hR, ro_69_9 hR, ro_69_21 hR, ro_69_22 hR, ro_69_23 hR, ro_69_24 hR, ro_69_25 hR, ro_69_26 hR, ro_69_27 hR, ro_69_28 hR, ro_69_29 hR, ro_69_30 hR, ro_69_31 hR, ro_69_32 hR, ro_69_33 hR, ro_69_34 hR, ro_69_35 hR, ro_69_36 hR, ro_69_38 hR, ro_69_39 hR, ro_69_40 hR, ro_69_41 hR, ro_69_42 hR, ro_69_44 hR, ro_69_45 hR, ro_69_46 hR, ro_69_48 hR, ro_69_49 hR, ro_69_51 hR, ro_69_52 hR, ro_69_55 hR, ro_69_56 hR, ro_69_57 hR, ro_69_58 hR, ro_69_59 hR, ro_69_61 hR, ro_69_62 hR, ro_69_63 hR, ro_69_64 hR, ro_69_65 hR, ro_69_66 hR, sh_69, sh_70, sh_71, sh_72, sh_73, sh_74, sh_75, sh_76, sh_77, sh_78, sh_79, sh_80, sh_81, sh_82, sh_83, sh_84, sh_85, sh_86, sh_87, sh_88, sh_89, sh_90, sh_91, sh_92, sh_93, sh_94, sh_95, sh_96, sh_97, sh_98, sh_99, sh_100, sh_101, sh_102, sh_103, sh_104, sh_105, sh_106, sh_107, sh_108, sh_109, sh_110, sh_111, sh_112, sh_113, sh_114, sh_115, hl, hvw9, Nat.reduceLT, Nat.reduceAdd, Nat.reduceMul, ne_eq, Nat.reduceEqDiff, not_false_eq_true, or_true, true_or, or_false, false_or, and_true, true_and, and_self, Nat.reduceLeDiff, am_ci, am_cr, am_cn0, Option.toList_some, Option.toList_none, List.cons_append, List.nil_append, am_s0, am_s1, am_s1r, am_s2, am_s2r, am_s3r, nI_add, am_u_ne, am_u_at, am_u_n1, am_u_n2, am_w_ne, ↓reduceIte, s1, c1]
      exact hQ J K hJ hK (fun k' hk' _ => s4 k' (by omega))
    · have c1 : ¬ nI 400 < nI k := nI_nlt (by omega) (by omega)
      have j4 : J 69 4 = nI x.1 := by rw [hJ 69 4 (by unfold cuP; omega)]; exact h4
      have jx : txI J 71 x := hx.ag (fun j => hJ 71 j (by unfold cuP; omega))
      have k403 : k < 403 := by omega
      have clt := cc_lt (i := i) jx
      rw [rX13_cut_7]
      simp only [am_lv_of, rX13_cut_8, rX13_cut_11, rX13_cut_14, rX13_cut_17, rX13_cut_18, rX13_cut_19, rX13_cut_22, rX13_cut_23, rX13_cut_24, rX13_cut_25, ro_69_1 hR, ro_69_3 hR, ro_69_5 hR, ro_69_6 hR, ro_69_7 hR, ro_69_8 hR, ro_69_9 hR, ro_69_21 hR, ro_69_22 hR, ro_69_23 hR, ro_69_24 hR, ro_69_25 hR, ro_69_26 hR, ro_69_27 hR, ro_69_28 hR, ro_69_29 hR, ro_69_30 hR, ro_69_31 hR, ro_69_32 hR, ro_69_33 hR, ro_69_34 hR, ro_69_35 hR, ro_69_36 hR, ro_69_38 hR, ro_69_39 hR, ro_69_40 hR, ro_69_41 hR, ro_69_42 hR, ro_69_44 hR, ro_69_45 hR, ro_69_46 hR, ro_69_48 hR, ro_69_49 hR, ro_69_51 hR, ro_69_52 hR, ro_69_55 hR, ro_69_56 hR, ro_69_57 hR, ro_69_58 hR, ro_69_59 hR, ro_69_61 hR, ro_69_62 hR, ro_69_63 hR, ro_69_64 hR, ro_69_65 hR, ro_69_66 hR, sh_69, sh_70, sh_71, sh_72, sh_73, sh_74, sh_75, sh_76, sh_77, sh_78, sh_79, sh_80, sh_81, sh_82, sh_83, sh_84, sh_85, sh_86, sh_87, sh_88, sh_89, sh_90, sh_91, sh_92, sh_93, sh_94, sh_95, sh_96, sh_97, sh_98, sh_99, sh_100, sh_101, sh_102, sh_103, sh_104, sh_105, sh_106, sh_107, sh_108, sh_109, sh_110, sh_111, sh_112, sh_113, sh_114, sh_115, hl, hvw9, Nat.reduceLT, Nat.reduceAdd, Nat.reduceMul, ne_eq, Nat.reduceEqDiff, not_false_eq_true, or_true, true_or, or_false, false_or, and_true, true_and, and_self, Nat.reduceLeDiff, am_ci, am_cr, am_cn0, Option.toList_some, Option.toList_none, List.cons_append, List.nil_append, am_s0, am_s1, am_s1r, am_s2, am_s2r, am_s3r, nI_add, am_u_ne, am_u_at, am_u_n1, am_u_n2, am_w_ne, ↓reduceIte, s1, c1, c_byteAt hR hN j4 jx (show i < 2 ^ 30 by omega), j4, rX13_cut_28, n2]
      obtain ⟨tk1, tk2, tk3, tk4⟩ := tK_c (x := x) (i := i) (j := ps x k) s3
      by_cases hE : x.1 ≤ i
      · have c2 : ¬ nI i < nI x.1 := nI_nlt hE (by omega)
        have eP : tP x i = i := rn_no (decide_eq_false (fun z => by omega))
        have eK : kK x k = 22 := by
          show tK x (ps x k) = 22
          rw [← tk1]
          unfold tK
          rw [if_pos (by rw [eP]; exact hE)]
        have eQ : x.1 = kP x k := by rw [← s3, eP]; omega
        have r0 : nI 0 = nI (rK (kK x k)) := by rw [eK]; rfl
        simp only [am_lv_of, c2, ↓reduceIte, rX13_cut_31, rX13_cut_32, rX13_cut_33, rX13_cut_34, rX13_cut_37, rX13_cut_38, rX13_cut_39, rX13_cut_42, ro_69_1 hR, ro_69_3 hR, ro_69_5 hR, ro_69_6 hR, ro_69_7 hR, ro_69_8 hR, ro_69_9 hR, ro_69_21 hR, ro_69_22 hR, ro_69_23 hR, ro_69_24 hR, ro_69_25 hR, ro_69_26 hR, ro_69_27 hR, ro_69_28 hR, ro_69_29 hR, ro_69_30 hR, ro_69_31 hR, ro_69_32 hR, ro_69_33 hR, ro_69_34 hR, ro_69_35 hR, ro_69_36 hR, ro_69_38 hR, ro_69_39 hR, ro_69_40 hR, ro_69_41 hR, ro_69_42 hR, ro_69_44 hR, ro_69_45 hR, ro_69_46 hR, ro_69_48 hR, ro_69_49 hR, ro_69_51 hR, ro_69_52 hR, ro_69_55 hR, ro_69_56 hR, ro_69_57 hR, ro_69_58 hR, ro_69_59 hR, ro_69_61 hR, ro_69_62 hR, ro_69_63 hR, ro_69_64 hR, ro_69_65 hR, ro_69_66 hR, sh_69, sh_70, sh_71, sh_72, sh_73, sh_74, sh_75, sh_76, sh_77, sh_78, sh_79, sh_80, sh_81, sh_82, sh_83, sh_84, sh_85, sh_86, sh_87, sh_88, sh_89, sh_90, sh_91, sh_92, sh_93, sh_94, sh_95, sh_96, sh_97, sh_98, sh_99, sh_100, sh_101, sh_102, sh_103, sh_104, sh_105, sh_106, sh_107, sh_108, sh_109, sh_110, sh_111, sh_112, sh_113, sh_114, sh_115, hl, hvw9, Nat.reduceLT, Nat.reduceAdd, Nat.reduceMul, ne_eq, Nat.reduceEqDiff, not_false_eq_true, or_true, true_or, or_false, false_or, and_true, true_and, and_self, Nat.reduceLeDiff, am_ci, am_cr, am_cn0, Option.toList_some, Option.toList_none, List.cons_append, List.nil_append, am_s0, am_s1, am_s1r, am_s2, am_s2r, am_s3r, nI_add, am_u_ne, am_u_at, am_u_n1, am_u_n2, am_w_ne, j4, c_token hR hN hn s1 k403, Option.toList_none]
        refine hQ _ _ (cuP_w hJ) (cuL_w hK) (fun k' hk' hne => ?_)
        by_cases e1 : k' < k
        · exact (s4 k' e1).w e1
        · by_cases e2 : k' = k
          · subst e2
            have := tkR.at (x := x) (J := J) (K := K) (k := k') (v := 0) (e := nI (k' + 1)) (l := 0) (fun z => by omega) (fun z => by omega)
            rw [← r0, ← eQ] at this
            exact this
          · exact absurd eK (hne k (by omega))
      · have c2 : nI i < nI x.1 := nI_lt (by omega) (by omega)
        have ec : cc x i = x.2 i := if_pos (by omega)
        have q : ∀ a, a < 256 → (nI (cc x i) = nI a ↔ cc x i = a) := fun a ha => nI_eq (by omega) (by omega)
        -- a token was cut
        have nxt : ∀ (e v : Nat) (l : Int64) (l2' l3' l4'' l5' l6' l7' : Option Value), tP x i = i → tN x i = e → kK x k ≠ 22 → i < e → (kK x k = 21 → v = kV x k) → (kK x k ≤ 20 → l = lN (cdW 27 (kM x k))) → am_nl l2' → am_nl l3' → am_nl l5' → am_nl l6' → am_E X (d + 3) mX13_cut 7 [some (.ref 69), some (.int (nI e)), l2', l3', l4'', l5', l6', l7'] [] (n, am_u (am_u (am_u (am_u J 72 k (nI (rK (kK x k)))) 73 k (nI i)) 74 k (nI v)) 69 10 (nI (k + 1)), am_u K 75 k l, R) Q := by
          intro e v l l2' l3' l4'' l5' l6' l7' eP eN hne hie hv hll m2 m3 m5 m6
          have eps : ps x (k + 1) = e := by rw [← eN, tk2]; rfl
          have eQ : i = kP x k := by rw [← s3, eP]
          have hne2 := tN_le (x := x) (i := i) hi
          rw [eN] at hne2
          refine ih e (k + 1) _ _ l2' l3' l4'' l5' l6' l7' (by omega) hne2 (cuP_w hJ) (cuL_w hK) ⟨am_u_at, by omega, by rw [← eps]; rfl, fun q hq => ?_, fun q hq => ?_⟩ m2 m3 m5 m6
          · by_cases e1 : q < k
            · exact (s4 q e1).w e1
            · have : q = k := by omega
              subst this
              have := tkR.at (x := x) (J := J) (K := K) (k := q) (v := v) (e := nI (q + 1)) (l := l) hv hll
              rw [← eQ] at this
              exact this
          · by_cases e1 : q < k
            · exact s5 q e1
            · have : q = k := by omega
              subst this
              exact hne
        by_cases hB : xB x i = true
        · have hb := (of_decide_eq_true hB).2
          rw [← ec] at hb
          have go : am_E X (d + 3) mX13_cut 67 [some (.ref 69), some (.int (nI i)), some (.int (nI (cc x i))), l3, l4', l5, l6, l7] [] (n, J, K, R) Q := by
            simp only [am_lv_of, rX13_cut_67, rX13_cut_70, rX13_cut_291, ro_69_1 hR, ro_69_3 hR, ro_69_5 hR, ro_69_6 hR, ro_69_7 hR, ro_69_8 hR, ro_69_9 hR, ro_69_21 hR, ro_69_22 hR, ro_69_23 hR, ro_69_24 hR, ro_69_25 hR, ro_69_26 hR, ro_69_27 hR, ro_69_28 hR, ro_69_29 hR, ro_69_30 hR, ro_69_31 hR, ro_69_32 hR, ro_69_33 hR, ro_69_34 hR, ro_69_35 hR, ro_69_36 hR, ro_69_38 hR, ro_69_39 hR, ro_69_40 hR, ro_69_41 hR, ro_69_42 hR, ro_69_44 hR, ro_69_45 hR, ro_69_46 hR, ro_69_48 hR, ro_69_49 hR, ro_69_51 hR, ro_69_52 hR, ro_69_55 hR, ro_69_56 hR, ro_69_57 hR, ro_69_58 hR, ro_69_59 hR, ro_69_61 hR, ro_69_62 hR, ro_69_63 hR, ro_69_64 hR, ro_69_65 hR, ro_69_66 hR, sh_69, sh_70, sh_71, sh_72, sh_73, sh_74, sh_75, sh_76, sh_77, sh_78, sh_79, sh_80, sh_81, sh_82, sh_83, sh_84, sh_85, sh_86, sh_87, sh_88, sh_89, sh_90, sh_91, sh_92, sh_93, sh_94, sh_95, sh_96, sh_97, sh_98, sh_99, sh_100, sh_101, sh_102, sh_103, sh_104, sh_105, sh_106, sh_107, sh_108, sh_109, sh_110, sh_111, sh_112, sh_113, sh_114, sh_115, hl, hvw9, Nat.reduceLT, Nat.reduceAdd, Nat.reduceMul, ne_eq, Nat.reduceEqDiff, not_false_eq_true, or_true, true_or, or_false, false_or, and_true, true_and, and_self, Nat.reduceLeDiff, am_ci, am_cr, am_cn0, Option.toList_some, Option.toList_none, List.cons_append, List.nil_append, am_s0, am_s1, am_s1r, am_s2, am_s2r, am_s3r, nI_add, am_u_ne, am_u_at, am_u_n1, am_u_n2, am_w_ne]
            refine ih (i + 1) k J K _ l3 l4' l5 l6 l7 (by omega) (by omega) hJ hK ⟨s1, s2, ?_, s4, s5⟩ am_ci n3 n5 n6
            rw [← s3]
            exact (rn_yes hB (by omega)).symm
          simp only [am_lv_of, c2, ↓reduceIte, rX13_cut_43, rX13_cut_44, rX13_cut_46, rX13_cut_49, rX13_cut_50, rX13_cut_52, rX13_cut_55, rX13_cut_56, rX13_cut_58, rX13_cut_61, rX13_cut_62, rX13_cut_64, ro_69_1 hR, ro_69_3 hR, ro_69_5 hR, ro_69_6 hR, ro_69_7 hR, ro_69_8 hR, ro_69_9 hR, ro_69_21 hR, ro_69_22 hR, ro_69_23 hR, ro_69_24 hR, ro_69_25 hR, ro_69_26 hR, ro_69_27 hR, ro_69_28 hR, ro_69_29 hR, ro_69_30 hR, ro_69_31 hR, ro_69_32 hR, ro_69_33 hR, ro_69_34 hR, ro_69_35 hR, ro_69_36 hR, ro_69_38 hR, ro_69_39 hR, ro_69_40 hR, ro_69_41 hR, ro_69_42 hR, ro_69_44 hR, ro_69_45 hR, ro_69_46 hR, ro_69_48 hR, ro_69_49 hR, ro_69_51 hR, ro_69_52 hR, ro_69_55 hR, ro_69_56 hR, ro_69_57 hR, ro_69_58 hR, ro_69_59 hR, ro_69_61 hR, ro_69_62 hR, ro_69_63 hR, ro_69_64 hR, ro_69_65 hR, ro_69_66 hR, sh_69, sh_70, sh_71, sh_72, sh_73, sh_74, sh_75, sh_76, sh_77, sh_78, sh_79, sh_80, sh_81, sh_82, sh_83, sh_84, sh_85, sh_86, sh_87, sh_88, sh_89, sh_90, sh_91, sh_92, sh_93, sh_94, sh_95, sh_96, sh_97, sh_98, sh_99, sh_100, sh_101, sh_102, sh_103, sh_104, sh_105, sh_106, sh_107, sh_108, sh_109, sh_110, sh_111, sh_112, sh_113, sh_114, sh_115, hl, hvw9, Nat.reduceLT, Nat.reduceAdd, Nat.reduceMul, ne_eq, Nat.reduceEqDiff, not_false_eq_true, or_true, true_or, or_false, false_or, and_true, true_and, and_self, Nat.reduceLeDiff, am_ci, am_cr, am_cn0, Option.toList_some, Option.toList_none, List.cons_append, List.nil_append, am_s0, am_s1, am_s1r, am_s2, am_s2r, am_s3r, nI_add, am_u_ne, am_u_at, am_u_n1, am_u_n2, am_w_ne, q 9 (by omega), q 10 (by omega), q 13 (by omega), q 32 (by omega)]
          by_cases z9 : cc x i = 9
          · simp only [z9, ↓reduceIte] at go ⊢; exact go
          · by_cases z10 : cc x i = 10
            · simp only [z10, ↓reduceIte] at go ⊢; simpa using go
            · by_cases z13 : cc x i = 13
              · simp only [z13, ↓reduceIte] at go ⊢; simpa using go
              · have z32 : cc x i = 32 := by omega
                simp only [z32, ↓reduceIte, not_true_eq_false] at go ⊢; simpa using go
        · have hBf : xB x i = false := by simpa using hB
          have nb : ¬ (cc x i = 9 ∨ cc x i = 10 ∨ cc x i = 13 ∨ cc x i = 32) := by rw [ec]; exact fun z => of_decide_eq_false hBf ⟨by omega, z⟩
          have z9 : ¬ cc x i = 9 := fun z => nb (by omega)
          have z10 : ¬ cc x i = 10 := fun z => nb (by omega)
          have z13 : ¬ cc x i = 13 := fun z => nb (by omega)
          have z32 : ¬ cc x i = 32 := fun z => nb (by omega)
          have eP : tP x i = i := rn_no hBf
          simp only [am_lv_of, c2, ↓reduceIte, rX13_cut_43, rX13_cut_44, rX13_cut_46, rX13_cut_49, rX13_cut_50, rX13_cut_52, rX13_cut_55, rX13_cut_56, rX13_cut_58, rX13_cut_61, rX13_cut_62, rX13_cut_64, rX13_cut_67, rX13_cut_70, rX13_cut_73, rX13_cut_74, ro_69_1 hR, ro_69_3 hR, ro_69_5 hR, ro_69_6 hR, ro_69_7 hR, ro_69_8 hR, ro_69_9 hR, ro_69_21 hR, ro_69_22 hR, ro_69_23 hR, ro_69_24 hR, ro_69_25 hR, ro_69_26 hR, ro_69_27 hR, ro_69_28 hR, ro_69_29 hR, ro_69_30 hR, ro_69_31 hR, ro_69_32 hR, ro_69_33 hR, ro_69_34 hR, ro_69_35 hR, ro_69_36 hR, ro_69_38 hR, ro_69_39 hR, ro_69_40 hR, ro_69_41 hR, ro_69_42 hR, ro_69_44 hR, ro_69_45 hR, ro_69_46 hR, ro_69_48 hR, ro_69_49 hR, ro_69_51 hR, ro_69_52 hR, ro_69_55 hR, ro_69_56 hR, ro_69_57 hR, ro_69_58 hR, ro_69_59 hR, ro_69_61 hR, ro_69_62 hR, ro_69_63 hR, ro_69_64 hR, ro_69_65 hR, ro_69_66 hR, sh_69, sh_70, sh_71, sh_72, sh_73, sh_74, sh_75, sh_76, sh_77, sh_78, sh_79, sh_80, sh_81, sh_82, sh_83, sh_84, sh_85, sh_86, sh_87, sh_88, sh_89, sh_90, sh_91, sh_92, sh_93, sh_94, sh_95, sh_96, sh_97, sh_98, sh_99, sh_100, sh_101, sh_102, sh_103, sh_104, sh_105, sh_106, sh_107, sh_108, sh_109, sh_110, sh_111, sh_112, sh_113, sh_114, sh_115, hl, hvw9, Nat.reduceLT, Nat.reduceAdd, Nat.reduceMul, ne_eq, Nat.reduceEqDiff, not_false_eq_true, or_true, true_or, or_false, false_or, and_true, true_and, and_self, Nat.reduceLeDiff, am_ci, am_cr, am_cn0, Option.toList_some, Option.toList_none, List.cons_append, List.nil_append, am_s0, am_s1, am_s1r, am_s2, am_s2r, am_s3r, nI_add, am_u_ne, am_u_at, am_u_n1, am_u_n2, am_w_ne, q 9 (by omega), q 10 (by omega), q 13 (by omega), q 32 (by omega), z9, z10, z13, z32, not_false_eq_true, c_isLetter clt, cc_L, rX13_cut_77, bI_ne]
          have ks : kK x k = tK x i := tk1.symm
          by_cases hLt : xL x i = true
          · simp only [am_lv_of, hLt, Bool.true_eq_false, ↓reduceIte, rX13_cut_80, rX13_cut_81, rX13_cut_82, rX13_cut_83, ro_69_1 hR, ro_69_3 hR, ro_69_5 hR, ro_69_6 hR, ro_69_7 hR, ro_69_8 hR, ro_69_9 hR, ro_69_21 hR, ro_69_22 hR, ro_69_23 hR, ro_69_24 hR, ro_69_25 hR, ro_69_26 hR, ro_69_27 hR, ro_69_28 hR, ro_69_29 hR, ro_69_30 hR, ro_69_31 hR, ro_69_32 hR, ro_69_33 hR, ro_69_34 hR, ro_69_35 hR, ro_69_36 hR, ro_69_38 hR, ro_69_39 hR, ro_69_40 hR, ro_69_41 hR, ro_69_42 hR, ro_69_44 hR, ro_69_45 hR, ro_69_46 hR, ro_69_48 hR, ro_69_49 hR, ro_69_51 hR, ro_69_52 hR, ro_69_55 hR, ro_69_56 hR, ro_69_57 hR, ro_69_58 hR, ro_69_59 hR, ro_69_61 hR, ro_69_62 hR, ro_69_63 hR, ro_69_64 hR, ro_69_65 hR, ro_69_66 hR, sh_69, sh_70, sh_71, sh_72, sh_73, sh_74, sh_75, sh_76, sh_77, sh_78, sh_79, sh_80, sh_81, sh_82, sh_83, sh_84, sh_85, sh_86, sh_87, sh_88, sh_89, sh_90, sh_91, sh_92, sh_93, sh_94, sh_95, sh_96, sh_97, sh_98, sh_99, sh_100, sh_101, sh_102, sh_103, sh_104, sh_105, sh_106, sh_107, sh_108, sh_109, sh_110, sh_111, sh_112, sh_113, sh_114, sh_115, hl, hvw9, Nat.reduceLT, Nat.reduceAdd, Nat.reduceMul, ne_eq, Nat.reduceEqDiff, not_false_eq_true, or_true, true_or, or_false, false_or, and_true, true_and, and_self, Nat.reduceLeDiff, am_ci, am_cr, am_cn0, Option.toList_some, Option.toList_none, List.cons_append, List.nil_append, am_s0, am_s1, am_s1r, am_s2, am_s2r, am_s3r, nI_add, am_u_ne, am_u_at, am_u_n1, am_u_n2, am_w_ne, n2, n3]
            have l0 : (0 : Int64) = lN 0 := rfl
            rw [l0]
            have hge := rn_ge (x := x) (p := xL x) (i := i)
            have hgt : i < rn x (xL x) i := by
              rw [rn_yes hLt (by omega)]
              exact Nat.lt_of_lt_of_le (Nat.lt_succ_self i) rn_ge
            have eN : tN x i = rn x (xL x) i := by unfold tN; rw [eP, if_neg hE, if_pos hLt]
            have eKK : kK x k = if 8 < rn x (xL x) i - i then 23 else wIx (nmX x i (rn x (xL x) i)) := by rw [ks]; unfold tK; rw [eP, if_neg hE, if_pos hLt]; rfl
            have eM : kM x k = nmX x i (rn x (xL x) i) := by
              show tM x (ps x k) = _
              rw [← tk3]
              unfold tM
              rw [eP]
            have rle := rn_le (p := xL x) hi
            have ead : i + (rn x (xL x) i - i) = rn x (xL x) i := by omega
            have wl := wIx_le (nmX x i (rn x (xL x) i))
            refine l_cutL (x := x) (p := i) hR hN j4 jx am_ci (fun a ha => ?_) (x.1 - i) 0 0 rfl rfl (fun _ => by rw [Nat.add_zero, nmX_0]; rfl) (by omega)
            simp only [am_lv_of, rX13_cut_124, rX13_cut_125, ro_69_1 hR, ro_69_3 hR, ro_69_5 hR, ro_69_6 hR, ro_69_7 hR, ro_69_8 hR, ro_69_9 hR, ro_69_21 hR, ro_69_22 hR, ro_69_23 hR, ro_69_24 hR, ro_69_25 hR, ro_69_26 hR, ro_69_27 hR, ro_69_28 hR, ro_69_29 hR, ro_69_30 hR, ro_69_31 hR, ro_69_32 hR, ro_69_33 hR, ro_69_34 hR, ro_69_35 hR, ro_69_36 hR, ro_69_38 hR, ro_69_39 hR, ro_69_40 hR, ro_69_41 hR, ro_69_42 hR, ro_69_44 hR, ro_69_45 hR, ro_69_46 hR, ro_69_48 hR, ro_69_49 hR, ro_69_51 hR, ro_69_52 hR, ro_69_55 hR, ro_69_56 hR, ro_69_57 hR, ro_69_58 hR, ro_69_59 hR, ro_69_61 hR, ro_69_62 hR, ro_69_63 hR, ro_69_64 hR, ro_69_65 hR, ro_69_66 hR, sh_69, sh_70, sh_71, sh_72, sh_73, sh_74, sh_75, sh_76, sh_77, sh_78, sh_79, sh_80, sh_81, sh_82, sh_83, sh_84, sh_85, sh_86, sh_87, sh_88, sh_89, sh_90, sh_91, sh_92, sh_93, sh_94, sh_95, sh_96, sh_97, sh_98, sh_99, sh_100, sh_101, sh_102, sh_103, sh_104, sh_105, sh_106, sh_107, sh_108, sh_109, sh_110, sh_111, sh_112, sh_113, sh_114, sh_115, hl, hvw9, Nat.reduceLT, Nat.reduceAdd, Nat.reduceMul, ne_eq, Nat.reduceEqDiff, not_false_eq_true, or_true, true_or, or_false, false_or, and_true, true_and, and_self, Nat.reduceLeDiff, am_ci, am_cr, am_cn0, Option.toList_some, Option.toList_none, List.cons_append, List.nil_append, am_s0, am_s1, am_s1r, am_s2, am_s2r, am_s3r, nI_add, am_u_ne, am_u_at, am_u_n1, am_u_n2, am_w_ne, rX13_cut_127]
            by_cases h8 : 8 < rn x (xL x) i - i
            · have c8 : ¬ nI (rn x (xL x) i - i) ≤ nI 8 := nI_ge h8 (by omega)
              have c9 : nI 8 < nI (rn x (xL x) i - i) := nI_lt h8 (by omega)
              rw [if_pos h8] at eKK
              have r3 : nI 3 = nI (rK (kK x k)) := by rw [eKK]; rfl
              simp only [am_lv_of, c8, c9, ↓reduceIte, rX13_cut_130, rX13_cut_131, rX13_cut_135, rX13_cut_137, rX13_cut_138, rX13_cut_140, rX13_cut_179, rX13_cut_180, rX13_cut_182, rX13_cut_183, rX13_cut_184, rX13_cut_186, ro_69_1 hR, ro_69_3 hR, ro_69_5 hR, ro_69_6 hR, ro_69_7 hR, ro_69_8 hR, ro_69_9 hR, ro_69_21 hR, ro_69_22 hR, ro_69_23 hR, ro_69_24 hR, ro_69_25 hR, ro_69_26 hR, ro_69_27 hR, ro_69_28 hR, ro_69_29 hR, ro_69_30 hR, ro_69_31 hR, ro_69_32 hR, ro_69_33 hR, ro_69_34 hR, ro_69_35 hR, ro_69_36 hR, ro_69_38 hR, ro_69_39 hR, ro_69_40 hR, ro_69_41 hR, ro_69_42 hR, ro_69_44 hR, ro_69_45 hR, ro_69_46 hR, ro_69_48 hR, ro_69_49 hR, ro_69_51 hR, ro_69_52 hR, ro_69_55 hR, ro_69_56 hR, ro_69_57 hR, ro_69_58 hR, ro_69_59 hR, ro_69_61 hR, ro_69_62 hR, ro_69_63 hR, ro_69_64 hR, ro_69_65 hR, ro_69_66 hR, sh_69, sh_70, sh_71, sh_72, sh_73, sh_74, sh_75, sh_76, sh_77, sh_78, sh_79, sh_80, sh_81, sh_82, sh_83, sh_84, sh_85, sh_86, sh_87, sh_88, sh_89, sh_90, sh_91, sh_92, sh_93, sh_94, sh_95, sh_96, sh_97, sh_98, sh_99, sh_100, sh_101, sh_102, sh_103, sh_104, sh_105, sh_106, sh_107, sh_108, sh_109, sh_110, sh_111, sh_112, sh_113, sh_114, sh_115, hl, hvw9, Nat.reduceLT, Nat.reduceAdd, Nat.reduceMul, ne_eq, Nat.reduceEqDiff, not_false_eq_true, or_true, true_or, or_false, false_or, and_true, true_and, and_self, Nat.reduceLeDiff, am_ci, am_cr, am_cn0, Option.toList_some, Option.toList_none, List.cons_append, List.nil_append, am_s0, am_s1, am_s1r, am_s2, am_s2r, am_s3r, nI_add, am_u_ne, am_u_at, am_u_n1, am_u_n2, am_w_ne, c_token hR hN hn s1 k403, Option.toList_none, rX13_cut_189, rX13_cut_190, rX13_cut_191, rX13_cut_192, rX13_cut_193, rX13_cut_291, ead]
              rw [r3]
              exact nxt (rn x (xL x) i) 0 (lN a) _ _ _ _ _ _ eP eN (by omega) hgt (fun z => by omega) (fun z => by omega) am_ci am_ci am_cn0 am_ci
            · have c8 : nI (rn x (xL x) i - i) ≤ nI 8 := nI_le (by omega) (by omega)
              have c9 : ¬ nI 8 < nI (rn x (xL x) i - i) := nI_nlt (by omega) (by omega)
              rw [if_neg h8] at eKK
              have ea := ha (by omega)
              subst ea
              have r1 : nI (if wIx (nmX x i (rn x (xL x) i)) < 20 then 20 + wIx (nmX x i (rn x (xL x) i)) else 1) = nI (rK (kK x k)) := by
                rw [eKK]
                unfold rK
                by_cases e : wIx (nmX x i (rn x (xL x) i)) < 20
                · rw [if_pos e, if_pos e]
                · rw [if_neg e, if_neg e, if_pos (by omega)]
              have i1 : nI 1 = nI (if wIx (nmX x i (rn x (xL x) i)) < 0 then 20 + wIx (nmX x i (rn x (xL x) i)) else 1) := by rw [if_neg (by omega)]
              simp only [am_lv_of, c8, c9, ↓reduceIte, rX13_cut_134, rX13_cut_135, rX13_cut_137, rX13_cut_138, rX13_cut_140, rX13_cut_143, rX13_cut_144, ro_69_1 hR, ro_69_3 hR, ro_69_5 hR, ro_69_6 hR, ro_69_7 hR, ro_69_8 hR, ro_69_9 hR, ro_69_21 hR, ro_69_22 hR, ro_69_23 hR, ro_69_24 hR, ro_69_25 hR, ro_69_26 hR, ro_69_27 hR, ro_69_28 hR, ro_69_29 hR, ro_69_30 hR, ro_69_31 hR, ro_69_32 hR, ro_69_33 hR, ro_69_34 hR, ro_69_35 hR, ro_69_36 hR, ro_69_38 hR, ro_69_39 hR, ro_69_40 hR, ro_69_41 hR, ro_69_42 hR, ro_69_44 hR, ro_69_45 hR, ro_69_46 hR, ro_69_48 hR, ro_69_49 hR, ro_69_51 hR, ro_69_52 hR, ro_69_55 hR, ro_69_56 hR, ro_69_57 hR, ro_69_58 hR, ro_69_59 hR, ro_69_61 hR, ro_69_62 hR, ro_69_63 hR, ro_69_64 hR, ro_69_65 hR, ro_69_66 hR, sh_69, sh_70, sh_71, sh_72, sh_73, sh_74, sh_75, sh_76, sh_77, sh_78, sh_79, sh_80, sh_81, sh_82, sh_83, sh_84, sh_85, sh_86, sh_87, sh_88, sh_89, sh_90, sh_91, sh_92, sh_93, sh_94, sh_95, sh_96, sh_97, sh_98, sh_99, sh_100, sh_101, sh_102, sh_103, sh_104, sh_105, sh_106, sh_107, sh_108, sh_109, sh_110, sh_111, sh_112, sh_113, sh_114, sh_115, hl, hvw9, Nat.reduceLT, Nat.reduceAdd, Nat.reduceMul, ne_eq, Nat.reduceEqDiff, not_false_eq_true, or_true, true_or, or_false, false_or, and_true, true_and, and_self, Nat.reduceLeDiff, am_ci, am_cr, am_cn0, Option.toList_some, Option.toList_none, List.cons_append, List.nil_append, am_s0, am_s1, am_s1r, am_s2, am_s2r, am_s3r, nI_add, am_u_ne, am_u_at, am_u_n1, am_u_n2, am_w_ne]
              rw [i1]
              refine l_cutW (l := nmX x i (rn x (xL x) i)) hR hN (hV.ag hK) nmX_ok (by rw [nmX_len]; omega) (fun l7' => ?_) 20 0 (by omega)
              simp only [am_lv_of, rX13_cut_179, rX13_cut_180, rX13_cut_182, rX13_cut_183, rX13_cut_184, rX13_cut_186, ro_69_1 hR, ro_69_3 hR, ro_69_5 hR, ro_69_6 hR, ro_69_7 hR, ro_69_8 hR, ro_69_9 hR, ro_69_21 hR, ro_69_22 hR, ro_69_23 hR, ro_69_24 hR, ro_69_25 hR, ro_69_26 hR, ro_69_27 hR, ro_69_28 hR, ro_69_29 hR, ro_69_30 hR, ro_69_31 hR, ro_69_32 hR, ro_69_33 hR, ro_69_34 hR, ro_69_35 hR, ro_69_36 hR, ro_69_38 hR, ro_69_39 hR, ro_69_40 hR, ro_69_41 hR, ro_69_42 hR, ro_69_44 hR, ro_69_45 hR, ro_69_46 hR, ro_69_48 hR, ro_69_49 hR, ro_69_51 hR, ro_69_52 hR, ro_69_55 hR, ro_69_56 hR, ro_69_57 hR, ro_69_58 hR, ro_69_59 hR, ro_69_61 hR, ro_69_62 hR, ro_69_63 hR, ro_69_64 hR, ro_69_65 hR, ro_69_66 hR, sh_69, sh_70, sh_71, sh_72, sh_73, sh_74, sh_75, sh_76, sh_77, sh_78, sh_79, sh_80, sh_81, sh_82, sh_83, sh_84, sh_85, sh_86, sh_87, sh_88, sh_89, sh_90, sh_91, sh_92, sh_93, sh_94, sh_95, sh_96, sh_97, sh_98, sh_99, sh_100, sh_101, sh_102, sh_103, sh_104, sh_105, sh_106, sh_107, sh_108, sh_109, sh_110, sh_111, sh_112, sh_113, sh_114, sh_115, hl, hvw9, Nat.reduceLT, Nat.reduceAdd, Nat.reduceMul, ne_eq, Nat.reduceEqDiff, not_false_eq_true, or_true, true_or, or_false, false_or, and_true, true_and, and_self, Nat.reduceLeDiff, am_ci, am_cr, am_cn0, Option.toList_some, Option.toList_none, List.cons_append, List.nil_append, am_s0, am_s1, am_s1r, am_s2, am_s2r, am_s3r, nI_add, am_u_ne, am_u_at, am_u_n1, am_u_n2, am_w_ne, c_token hR hN hn s1 k403, Option.toList_none, rX13_cut_189, rX13_cut_190, rX13_cut_191, rX13_cut_192, rX13_cut_193, rX13_cut_291, ead]
              rw [r1]
              exact nxt (rn x (xL x) i) 0 _ _ _ _ _ _ _ eP eN (by omega) hgt (fun z => by omega) (fun _ => by rw [eM]) am_ci am_ci am_cn0 am_ci
          · have hLf : xL x i = false := by simpa using hLt
            simp only [am_lv_of, hLf, ↓reduceIte, rX13_cut_196, rX13_cut_197, ro_69_1 hR, ro_69_3 hR, ro_69_5 hR, ro_69_6 hR, ro_69_7 hR, ro_69_8 hR, ro_69_9 hR, ro_69_21 hR, ro_69_22 hR, ro_69_23 hR, ro_69_24 hR, ro_69_25 hR, ro_69_26 hR, ro_69_27 hR, ro_69_28 hR, ro_69_29 hR, ro_69_30 hR, ro_69_31 hR, ro_69_32 hR, ro_69_33 hR, ro_69_34 hR, ro_69_35 hR, ro_69_36 hR, ro_69_38 hR, ro_69_39 hR, ro_69_40 hR, ro_69_41 hR, ro_69_42 hR, ro_69_44 hR, ro_69_45 hR, ro_69_46 hR, ro_69_48 hR, ro_69_49 hR, ro_69_51 hR, ro_69_52 hR, ro_69_55 hR, ro_69_56 hR, ro_69_57 hR, ro_69_58 hR, ro_69_59 hR, ro_69_61 hR, ro_69_62 hR, ro_69_63 hR, ro_69_64 hR, ro_69_65 hR, ro_69_66 hR, sh_69, sh_70, sh_71, sh_72, sh_73, sh_74, sh_75, sh_76, sh_77, sh_78, sh_79, sh_80, sh_81, sh_82, sh_83, sh_84, sh_85, sh_86, sh_87, sh_88, sh_89, sh_90, sh_91, sh_92, sh_93, sh_94, sh_95, sh_96, sh_97, sh_98, sh_99, sh_100, sh_101, sh_102, sh_103, sh_104, sh_105, sh_106, sh_107, sh_108, sh_109, sh_110, sh_111, sh_112, sh_113, sh_114, sh_115, hl, hvw9, Nat.reduceLT, Nat.reduceAdd, Nat.reduceMul, ne_eq, Nat.reduceEqDiff, not_false_eq_true, or_true, true_or, or_false, false_or, and_true, true_and, and_self, Nat.reduceLeDiff, am_ci, am_cr, am_cn0, Option.toList_some, Option.toList_none, List.cons_append, List.nil_append, am_s0, am_s1, am_s1r, am_s2, am_s2r, am_s3r, nI_add, am_u_ne, am_u_at, am_u_n1, am_u_n2, am_w_ne, c_isDigit clt, cc_D, rX13_cut_200, bI_ne]
            by_cases hD : xD x i = true
            · simp only [am_lv_of, hD, Bool.true_eq_false, ↓reduceIte, rX13_cut_203, rX13_cut_204, rX13_cut_205, rX13_cut_206, ro_69_1 hR, ro_69_3 hR, ro_69_5 hR, ro_69_6 hR, ro_69_7 hR, ro_69_8 hR, ro_69_9 hR, ro_69_21 hR, ro_69_22 hR, ro_69_23 hR, ro_69_24 hR, ro_69_25 hR, ro_69_26 hR, ro_69_27 hR, ro_69_28 hR, ro_69_29 hR, ro_69_30 hR, ro_69_31 hR, ro_69_32 hR, ro_69_33 hR, ro_69_34 hR, ro_69_35 hR, ro_69_36 hR, ro_69_38 hR, ro_69_39 hR, ro_69_40 hR, ro_69_41 hR, ro_69_42 hR, ro_69_44 hR, ro_69_45 hR, ro_69_46 hR, ro_69_48 hR, ro_69_49 hR, ro_69_51 hR, ro_69_52 hR, ro_69_55 hR, ro_69_56 hR, ro_69_57 hR, ro_69_58 hR, ro_69_59 hR, ro_69_61 hR, ro_69_62 hR, ro_69_63 hR, ro_69_64 hR, ro_69_65 hR, ro_69_66 hR, sh_69, sh_70, sh_71, sh_72, sh_73, sh_74, sh_75, sh_76, sh_77, sh_78, sh_79, sh_80, sh_81, sh_82, sh_83, sh_84, sh_85, sh_86, sh_87, sh_88, sh_89, sh_90, sh_91, sh_92, sh_93, sh_94, sh_95, sh_96, sh_97, sh_98, sh_99, sh_100, sh_101, sh_102, sh_103, sh_104, sh_105, sh_106, sh_107, sh_108, sh_109, sh_110, sh_111, sh_112, sh_113, sh_114, sh_115, hl, hvw9, Nat.reduceLT, Nat.reduceAdd, Nat.reduceMul, ne_eq, Nat.reduceEqDiff, not_false_eq_true, or_true, true_or, or_false, false_or, and_true, true_and, and_self, Nat.reduceLeDiff, am_ci, am_cr, am_cn0, Option.toList_some, Option.toList_none, List.cons_append, List.nil_append, am_s0, am_s1, am_s1r, am_s2, am_s2r, am_s3r, nI_add, am_u_ne, am_u_at, am_u_n1, am_u_n2, am_w_ne, n2, n3]
              have hge := rn_ge (x := x) (p := xD x) (i := i)
              have hgt : i < rn x (xD x) i := by
                rw [rn_yes hD (by omega)]
                exact Nat.lt_of_lt_of_le (Nat.lt_succ_self i) rn_ge
              have eN : tN x i = rn x (xD x) i := by unfold tN; rw [eP, if_neg hE, if_neg hLt, if_pos hD]
              have eKK : kK x k = if 4 < rn x (xD x) i - i then 23 else 21 := by rw [ks]; unfold tK; rw [eP, if_neg hE, if_neg hLt, if_pos hD]
              have eV : kV x k = cdW 10 (dgX x i (rn x (xD x) i)) := by
                show tV x (ps x k) = _
                rw [← tk4]
                unfold tV
                rw [eP]
              have rle := rn_le (p := xD x) hi
              have ead : i + (rn x (xD x) i - i) = rn x (xD x) i := by omega
              refine l_cutD (x := x) (p := i) hR hN j4 jx am_ci (fun a ha => ?_) (x.1 - i) 0 0 rfl rfl (fun _ => by rw [Nat.add_zero, dgX_0]; rfl) (by omega)
              simp only [am_lv_of, rX13_cut_250, rX13_cut_251, rX13_cut_252, ro_69_1 hR, ro_69_3 hR, ro_69_5 hR, ro_69_6 hR, ro_69_7 hR, ro_69_8 hR, ro_69_9 hR, ro_69_21 hR, ro_69_22 hR, ro_69_23 hR, ro_69_24 hR, ro_69_25 hR, ro_69_26 hR, ro_69_27 hR, ro_69_28 hR, ro_69_29 hR, ro_69_30 hR, ro_69_31 hR, ro_69_32 hR, ro_69_33 hR, ro_69_34 hR, ro_69_35 hR, ro_69_36 hR, ro_69_38 hR, ro_69_39 hR, ro_69_40 hR, ro_69_41 hR, ro_69_42 hR, ro_69_44 hR, ro_69_45 hR, ro_69_46 hR, ro_69_48 hR, ro_69_49 hR, ro_69_51 hR, ro_69_52 hR, ro_69_55 hR, ro_69_56 hR, ro_69_57 hR, ro_69_58 hR, ro_69_59 hR, ro_69_61 hR, ro_69_62 hR, ro_69_63 hR, ro_69_64 hR, ro_69_65 hR, ro_69_66 hR, sh_69, sh_70, sh_71, sh_72, sh_73, sh_74, sh_75, sh_76, sh_77, sh_78, sh_79, sh_80, sh_81, sh_82, sh_83, sh_84, sh_85, sh_86, sh_87, sh_88, sh_89, sh_90, sh_91, sh_92, sh_93, sh_94, sh_95, sh_96, sh_97, sh_98, sh_99, sh_100, sh_101, sh_102, sh_103, sh_104, sh_105, sh_106, sh_107, sh_108, sh_109, sh_110, sh_111, sh_112, sh_113, sh_114, sh_115, hl, hvw9, Nat.reduceLT, Nat.reduceAdd, Nat.reduceMul, ne_eq, Nat.reduceEqDiff, not_false_eq_true, or_true, true_or, or_false, false_or, and_true, true_and, and_self, Nat.reduceLeDiff, am_ci, am_cr, am_cn0, Option.toList_some, Option.toList_none, List.cons_append, List.nil_append, am_s0, am_s1, am_s1r, am_s2, am_s2r, am_s3r, nI_add, am_u_ne, am_u_at, am_u_n1, am_u_n2, am_w_ne, rX13_cut_253]
              by_cases h8 : 4 < rn x (xD x) i - i
              · have c8 : ¬ nI (rn x (xD x) i - i) ≤ nI 4 := nI_ge h8 (by omega)
                rw [if_pos h8] at eKK
                have r3 : nI 3 = nI (rK (kK x k)) := by rw [eKK]; rfl
                simp only [am_lv_of, c8, ↓reduceIte, rX13_cut_256, rX13_cut_257, rX13_cut_261, rX13_cut_262, rX13_cut_264, rX13_cut_265, ro_69_1 hR, ro_69_3 hR, ro_69_5 hR, ro_69_6 hR, ro_69_7 hR, ro_69_8 hR, ro_69_9 hR, ro_69_21 hR, ro_69_22 hR, ro_69_23 hR, ro_69_24 hR, ro_69_25 hR, ro_69_26 hR, ro_69_27 hR, ro_69_28 hR, ro_69_29 hR, ro_69_30 hR, ro_69_31 hR, ro_69_32 hR, ro_69_33 hR, ro_69_34 hR, ro_69_35 hR, ro_69_36 hR, ro_69_38 hR, ro_69_39 hR, ro_69_40 hR, ro_69_41 hR, ro_69_42 hR, ro_69_44 hR, ro_69_45 hR, ro_69_46 hR, ro_69_48 hR, ro_69_49 hR, ro_69_51 hR, ro_69_52 hR, ro_69_55 hR, ro_69_56 hR, ro_69_57 hR, ro_69_58 hR, ro_69_59 hR, ro_69_61 hR, ro_69_62 hR, ro_69_63 hR, ro_69_64 hR, ro_69_65 hR, ro_69_66 hR, sh_69, sh_70, sh_71, sh_72, sh_73, sh_74, sh_75, sh_76, sh_77, sh_78, sh_79, sh_80, sh_81, sh_82, sh_83, sh_84, sh_85, sh_86, sh_87, sh_88, sh_89, sh_90, sh_91, sh_92, sh_93, sh_94, sh_95, sh_96, sh_97, sh_98, sh_99, sh_100, sh_101, sh_102, sh_103, sh_104, sh_105, sh_106, sh_107, sh_108, sh_109, sh_110, sh_111, sh_112, sh_113, sh_114, sh_115, hl, hvw9, Nat.reduceLT, Nat.reduceAdd, Nat.reduceMul, ne_eq, Nat.reduceEqDiff, not_false_eq_true, or_true, true_or, or_false, false_or, and_true, true_and, and_self, Nat.reduceLeDiff, am_ci, am_cr, am_cn0, Option.toList_some, Option.toList_none, List.cons_append, List.nil_append, am_s0, am_s1, am_s1r, am_s2, am_s2r, am_s3r, nI_add, am_u_ne, am_u_at, am_u_n1, am_u_n2, am_w_ne, c_token hR hN hn s1 k403, Option.toList_none, rX13_cut_268, rX13_cut_269, rX13_cut_270, rX13_cut_271, rX13_cut_272, rX13_cut_291, ead]
                rw [r3]
                exact nxt (rn x (xD x) i) a 0 _ _ _ _ _ _ eP eN (by omega) hgt (fun z => by omega) (fun z => by omega) am_ci am_ci n5 n6
              · have c8 : nI (rn x (xD x) i - i) ≤ nI 4 := nI_le (by omega) (by omega)
                rw [if_neg h8] at eKK
                have r2 : nI 2 = nI (rK (kK x k)) := by rw [eKK]; rfl
                simp only [am_lv_of, c8, ↓reduceIte, rX13_cut_260, rX13_cut_261, rX13_cut_262, rX13_cut_264, rX13_cut_265, ro_69_1 hR, ro_69_3 hR, ro_69_5 hR, ro_69_6 hR, ro_69_7 hR, ro_69_8 hR, ro_69_9 hR, ro_69_21 hR, ro_69_22 hR, ro_69_23 hR, ro_69_24 hR, ro_69_25 hR, ro_69_26 hR, ro_69_27 hR, ro_69_28 hR, ro_69_29 hR, ro_69_30 hR, ro_69_31 hR, ro_69_32 hR, ro_69_33 hR, ro_69_34 hR, ro_69_35 hR, ro_69_36 hR, ro_69_38 hR, ro_69_39 hR, ro_69_40 hR, ro_69_41 hR, ro_69_42 hR, ro_69_44 hR, ro_69_45 hR, ro_69_46 hR, ro_69_48 hR, ro_69_49 hR, ro_69_51 hR, ro_69_52 hR, ro_69_55 hR, ro_69_56 hR, ro_69_57 hR, ro_69_58 hR, ro_69_59 hR, ro_69_61 hR, ro_69_62 hR, ro_69_63 hR, ro_69_64 hR, ro_69_65 hR, ro_69_66 hR, sh_69, sh_70, sh_71, sh_72, sh_73, sh_74, sh_75, sh_76, sh_77, sh_78, sh_79, sh_80, sh_81, sh_82, sh_83, sh_84, sh_85, sh_86, sh_87, sh_88, sh_89, sh_90, sh_91, sh_92, sh_93, sh_94, sh_95, sh_96, sh_97, sh_98, sh_99, sh_100, sh_101, sh_102, sh_103, sh_104, sh_105, sh_106, sh_107, sh_108, sh_109, sh_110, sh_111, sh_112, sh_113, sh_114, sh_115, hl, hvw9, Nat.reduceLT, Nat.reduceAdd, Nat.reduceMul, ne_eq, Nat.reduceEqDiff, not_false_eq_true, or_true, true_or, or_false, false_or, and_true, true_and, and_self, Nat.reduceLeDiff, am_ci, am_cr, am_cn0, Option.toList_some, Option.toList_none, List.cons_append, List.nil_append, am_s0, am_s1, am_s1r, am_s2, am_s2r, am_s3r, nI_add, am_u_ne, am_u_at, am_u_n1, am_u_n2, am_w_ne, c_token hR hN hn s1 k403, Option.toList_none, rX13_cut_268, rX13_cut_269, rX13_cut_270, rX13_cut_271, rX13_cut_272, rX13_cut_291, ead]
                rw [r2]
                exact nxt (rn x (xD x) i) a 0 _ _ _ _ _ _ eP eN (by omega) hgt (fun _ => by rw [eV]; exact ha (by omega)) (fun z => by omega) am_ci am_ci n5 n6
            · have hDf : xD x i = false := by simpa using hD
              have eN : tN x i = i + 1 := by unfold tN; rw [eP, if_neg hE, if_neg hLt, if_neg hD]
              have eKK : kK x k = if isSg (x.2 i) = true then x.2 i else 23 := by rw [ks]; unfold tK; rw [eP, if_neg hE, if_neg hLt, if_neg hD]
              have sg : kK x k = 23 ∨ 40 ≤ kK x k := by
                rw [eKK]
                split
                · next h4 => have := of_decide_eq_true h4; omega
                · exact Or.inl rfl
              have sl : am_sum [Value.int (nI (cc x i)), Value.int (nI i), Value.ref 69, Value.int (nI i)] ≤ 8 := Nat.le_of_ble_eq_true rfl
              simp only [am_lv_of, hDf, ↓reduceIte, rX13_cut_275, rX13_cut_276, rX13_cut_277, rX13_cut_278, rX13_cut_279, rX13_cut_280, rX13_cut_281, rX13_cut_282, rX13_cut_283, rX13_cut_286, ro_69_1 hR, ro_69_3 hR, ro_69_5 hR, ro_69_6 hR, ro_69_7 hR, ro_69_8 hR, ro_69_9 hR, ro_69_21 hR, ro_69_22 hR, ro_69_23 hR, ro_69_24 hR, ro_69_25 hR, ro_69_26 hR, ro_69_27 hR, ro_69_28 hR, ro_69_29 hR, ro_69_30 hR, ro_69_31 hR, ro_69_32 hR, ro_69_33 hR, ro_69_34 hR, ro_69_35 hR, ro_69_36 hR, ro_69_38 hR, ro_69_39 hR, ro_69_40 hR, ro_69_41 hR, ro_69_42 hR, ro_69_44 hR, ro_69_45 hR, ro_69_46 hR, ro_69_48 hR, ro_69_49 hR, ro_69_51 hR, ro_69_52 hR, ro_69_55 hR, ro_69_56 hR, ro_69_57 hR, ro_69_58 hR, ro_69_59 hR, ro_69_61 hR, ro_69_62 hR, ro_69_63 hR, ro_69_64 hR, ro_69_65 hR, ro_69_66 hR, sh_69, sh_70, sh_71, sh_72, sh_73, sh_74, sh_75, sh_76, sh_77, sh_78, sh_79, sh_80, sh_81, sh_82, sh_83, sh_84, sh_85, sh_86, sh_87, sh_88, sh_89, sh_90, sh_91, sh_92, sh_93, sh_94, sh_95, sh_96, sh_97, sh_98, sh_99, sh_100, sh_101, sh_102, sh_103, sh_104, sh_105, sh_106, sh_107, sh_108, sh_109, sh_110, sh_111, sh_112, sh_113, sh_114, sh_115, hl, hvw9, Nat.reduceLT, Nat.reduceAdd, Nat.reduceMul, ne_eq, Nat.reduceEqDiff, not_false_eq_true, or_true, true_or, or_false, false_or, and_true, true_and, and_self, Nat.reduceLeDiff, am_ci, am_cr, am_cn0, Option.toList_some, Option.toList_none, List.cons_append, List.nil_append, am_s0, am_s1, am_s1r, am_s2, am_s2r, am_s3r, nI_add, am_u_ne, am_u_at, am_u_n1, am_u_n2, am_w_ne, sl, c_byteAt hR hN j4 jx (show i + 1 < 2 ^ 30 by omega), c_sign hR hN hn s1 k403 clt, Option.toList_some, rX13_cut_289, rX13_cut_290, rX13_cut_291]
              rw [ec, ← eKK]
              exact nxt (i + 1) 0 0 _ _ _ _ _ _ eP eN (by omega) (by omega) (fun z => by omega) (fun z => by omega) am_ci n3 n5 n6
theorem c_cut (hR : am_OR R) (hN : 116 ≤ n) (hn : n ≤ 1000) (h4 : I 69 4 = nI x.1) (hx : txI I 71 x) (hV : relV L) (hQ : ∀ I' L', am_ag cuP I I' → cuL L L' → (∀ k, k ≤ 400 → (∀ q, q < k → kK x q ≠ 22) → tkR I' L' x k) → Q none (n, I', L', R)) : am_E X (d + 3) mX13_cut 0 [some (.ref 69), none, none, none, none, none, none, none] [] (n, I, L, R) Q := by
  have hl := am_lt hN
  have hvw9 := am_lw hN
  simp only [am_lv_of, rX13_cut_0, rX13_cut_1, rX13_cut_2, rX13_cut_5, rX13_cut_6, ro_69_1 hR, ro_69_3 hR, ro_69_5 hR, ro_69_6 hR, ro_69_7 hR, ro_69_8 hR, ro_69_9 hR, ro_69_21 hR, ro_69_22 hR, ro_69_23 hR, ro_69_24 hR, ro_69_25 hR, ro_69_26 hR, ro_69_27 hR, ro_69_28 hR, ro_69_29 hR, ro_69_30 hR, ro_69_31 hR, ro_69_32 hR, ro_69_33 hR, ro_69_34 hR, ro_69_35 hR, ro_69_36 hR, ro_69_38 hR, ro_69_39 hR, ro_69_40 hR, ro_69_41 hR, ro_69_42 hR, ro_69_44 hR, ro_69_45 hR, ro_69_46 hR, ro_69_48 hR, ro_69_49 hR, ro_69_51 hR, ro_69_52 hR, ro_69_55 hR, ro_69_56 hR, ro_69_57 hR, ro_69_58 hR, ro_69_59 hR, ro_69_61 hR, ro_69_62 hR, ro_69_63 hR, ro_69_64 hR, ro_69_65 hR, ro_69_66 hR, sh_69, sh_70, sh_71, sh_72, sh_73, sh_74, sh_75, sh_76, sh_77, sh_78, sh_79, sh_80, sh_81, sh_82, sh_83, sh_84, sh_85, sh_86, sh_87, sh_88, sh_89, sh_90, sh_91, sh_92, sh_93, sh_94, sh_95, sh_96, sh_97, sh_98, sh_99, sh_100, sh_101, sh_102, sh_103, sh_104, sh_105, sh_106, sh_107, sh_108, sh_109, sh_110, sh_111, sh_112, sh_113, sh_114, sh_115, hl, hvw9, Nat.reduceLT, Nat.reduceAdd, Nat.reduceMul, ne_eq, Nat.reduceEqDiff, not_false_eq_true, or_true, true_or, or_false, false_or, and_true, true_and, and_self, Nat.reduceLeDiff, am_ci, am_cr, am_cn0, Option.toList_some, Option.toList_none, List.cons_append, List.nil_append, am_s0, am_s1, am_s1r, am_s2, am_s2r, am_s3r, nI_add, am_u_ne, am_u_at, am_u_n1, am_u_n2, am_w_ne, hn]
  exact l_cut hR hN hn h4 hx hV hQ (x.1 + 1) 0 0 _ L none none none none none none (by omega) (Nat.zero_le _) (am_ag.refl.u (Or.inr (Or.inr (Or.inr ⟨rfl, rfl⟩)))) (fun _ _ _ => rfl) ⟨am_u_at, by omega, rfl, fun q hq => absurd hq (Nat.not_lt_zero _), fun q hq => absurd hq (Nat.not_lt_zero _)⟩ am_cn0 am_cn0 am_cn0 am_cn0
end CV
