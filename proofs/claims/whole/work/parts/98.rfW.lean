--! 98
/-! TEXTS: the reference reads one thing told -/
theorem rK_20 : ∀ a, a < 64 → kOK a = true → ¬ a ≤ 7 → rK a < 20 ∨ 27 < rK a := by decide +kernel
section FW
variable {X : am_X} {d n : Nat} {I : Nat → Nat → Int32} {L : Nat → Nat → Int64} {R : Nat → Nat → Option Nat} {Q : Option Value → am_M → Prop} {x : txt}
theorem c_tellOneR {pt : Nat} {s : pst} (hx : x.1 ≤ 2000) (hR : am_OR R) (hN : 116 ≤ n) (hn : n ≤ 1000) (hpt : pt < 2) (S : RS I L x pt s)
    (hE : ∀ e, tellP x s = .inl e → ∀ J', am_ag (rdF pt) I J' → ddR J' x e → Q none (n, J', L, R))
    (hS : ∀ s', tellP x s = .inr s' → ∀ J' L', am_ag (rdF pt) I J' → (∀ k j, k ≠ 77 → L' k j = L k j) → RS J' L' x pt s' → Q none (n, J', L', R)) : am_E X (d + 6) mX13_tellOne 0 [some (.ref 69), none] [] (n, I, L, R) Q := by
  have hl := am_lt hN
  have hvw9 := am_lw hN
  have T := S.1
  have t3 : s_t s < 403 := by have := T.2.2.1; omega
  have h72 := T.k
  have hS0 : ∀ s', tellP x s = .inr s' → ∀ J', am_ag (rdF pt) I J' → RS J' L x pt s' → Q none (n, J', L, R) := fun s' h J' g r => hS s' h J' L g (fun _ _ _ => rfl) r
  simp only [am_lv_of, rX13_tellOne_0, rX13_tellOne_1, rX13_tellOne_4, rX13_tellOne_5, rX13_tellOne_8, ro_69_1 hR, ro_69_3 hR, ro_69_5 hR, ro_69_6 hR, ro_69_7 hR, ro_69_8 hR, ro_69_9 hR, ro_69_21 hR, ro_69_22 hR, ro_69_23 hR, ro_69_24 hR, ro_69_25 hR, ro_69_26 hR, ro_69_27 hR, ro_69_28 hR, ro_69_29 hR, ro_69_30 hR, ro_69_31 hR, ro_69_32 hR, ro_69_33 hR, ro_69_34 hR, ro_69_35 hR, ro_69_36 hR, ro_69_38 hR, ro_69_39 hR, ro_69_40 hR, ro_69_41 hR, ro_69_42 hR, ro_69_44 hR, ro_69_45 hR, ro_69_46 hR, ro_69_48 hR, ro_69_49 hR, ro_69_51 hR, ro_69_52 hR, ro_69_55 hR, ro_69_56 hR, ro_69_57 hR, ro_69_58 hR, ro_69_59 hR, ro_69_61 hR, ro_69_62 hR, ro_69_63 hR, ro_69_64 hR, ro_69_65 hR, ro_69_66 hR, sh_69, sh_70, sh_71, sh_72, sh_73, sh_74, sh_75, sh_76, sh_77, sh_78, sh_79, sh_80, sh_81, sh_82, sh_83, sh_84, sh_85, sh_86, sh_87, sh_88, sh_89, sh_90, sh_91, sh_92, sh_93, sh_94, sh_95, sh_96, sh_97, sh_98, sh_99, sh_100, sh_101, sh_102, sh_103, sh_104, sh_105, sh_106, sh_107, sh_108, sh_109, sh_110, sh_111, sh_112, sh_113, sh_114, sh_115, hl, hvw9, Nat.reduceLT, Nat.reduceAdd, Nat.reduceMul, ne_eq, Nat.reduceEqDiff, not_false_eq_true, or_true, true_or, or_false, false_or, and_true, true_and, and_self, Nat.reduceLeDiff, am_ci, am_cr, am_cn0, Option.toList_some, Option.toList_none, List.cons_append, List.nil_append, am_s0, am_s1, am_s1r, am_s2, am_s2r, am_s3r, nI_add, am_u_ne, am_u_at, am_u_n1, am_u_n2, am_w_ne, T.2.1, t3, h72]
  by_cases k0 : kK x (s_t s) = 0
  · have e : tellP x s = puppetP x s := by unfold tellP; rw [if_pos k0]
    have er : rK (kK x (s_t s)) = 20 := by rw [k0]; rfl
    rw [e] at hE hS
    simp only [am_lv_of, er, rX13_tellOne_9_c20]
    exact c_puppetR hx hR hN hn hpt S k0 hE hS
  by_cases k1 : kK x (s_t s) = 1
  · have e : tellP x s = stringP x s := by unfold tellP; rw [if_neg k0, if_pos k1]
    have er : rK (kK x (s_t s)) = 21 := by rw [k1]; rfl
    rw [e] at hE hS
    simp only [am_lv_of, er, rX13_tellOne_9_c21]
    exact c_stringR hx hR hN hn hpt S k1 hE hS
  by_cases k2 : kK x (s_t s) = 2
  · have e : tellP x s = childP x s := by unfold tellP; rw [if_neg k0, if_neg k1, if_pos k2]
    have er : rK (kK x (s_t s)) = 22 := by rw [k2]; rfl
    rw [e] at hE hS0
    simp only [am_lv_of, er, rX13_tellOne_9_c22]
    exact c_childR hx hR hN hn hpt S k2 hE hS0
  by_cases k3 : kK x (s_t s) = 3
  · have e : tellP x s = lawQ x 0 s := by unfold tellP; rw [if_neg k0, if_neg k1, if_neg k2, if_pos k3]
    have er : rK (kK x (s_t s)) = 23 := by rw [k3]; rfl
    rw [e] at hE hS0
    simp only [am_lv_of, er, rX13_tellOne_9_c23]
    exact c_lawR hR hN hn hpt (by omega) S k3 e hE hS0
  by_cases k4 : kK x (s_t s) = 4
  · have e : tellP x s = lawQ x 1 s := by unfold tellP; rw [if_neg k0, if_neg k1, if_neg k2, if_neg k3, if_pos k4]
    have er : rK (kK x (s_t s)) = 24 := by rw [k4]; rfl
    rw [e] at hE hS0
    simp only [am_lv_of, er, rX13_tellOne_9_c24]
    exact c_lawR hR hN hn hpt (by omega) S k4 e hE hS0
  by_cases k5 : kK x (s_t s) = 5
  · have e : tellP x s = lawQ x 2 s := by unfold tellP; rw [if_neg k0, if_neg k1, if_neg k2, if_neg k3, if_neg k4, if_pos k5]
    have er : rK (kK x (s_t s)) = 25 := by rw [k5]; rfl
    rw [e] at hE hS0
    simp only [am_lv_of, er, rX13_tellOne_9_c25]
    exact c_lawR hR hN hn hpt (by omega) S k5 e hE hS0
  by_cases k6 : kK x (s_t s) = 6
  · have e : tellP x s = stormP x s := by unfold tellP; rw [if_neg k0, if_neg k1, if_neg k2, if_neg k3, if_neg k4, if_neg k5, if_pos k6]
    have er : rK (kK x (s_t s)) = 26 := by rw [k6]; rfl
    rw [e] at hE hS0
    simp only [am_lv_of, er, rX13_tellOne_9_c26]
    exact c_stormR hx hR hN hn hpt S k6 hE hS0
  by_cases k7 : kK x (s_t s) = 7
  · have e : tellP x s = seedP x s := by unfold tellP; rw [if_neg k0, if_neg k1, if_neg k2, if_neg k3, if_neg k4, if_neg k5, if_neg k6, if_pos k7]
    have er : rK (kK x (s_t s)) = 27 := by rw [k7]; rfl
    rw [e] at hE hS0
    simp only [am_lv_of, er, rX13_tellOne_9_c27]
    exact c_seedR hx hR hN hn hpt S k7 hE hS0
  have e : tellP x s = .inl (1, s_t s) := by unfold tellP; rw [if_neg k0, if_neg k1, if_neg k2, if_neg k3, if_neg k4, if_neg k5, if_neg k6, if_neg k7]
  have rk := rK_20 _ kK_lt (kK_ok (x := x) (t := s_t s)) (by omega)
  have rlt := rK_lt (c := kK x (s_t s))
  have ti : (nI (rK (kK x (s_t s)))).toInt = (rK (kK x (s_t s)) : Int) := nI_toInt (by omega)
  have hw : (nI (rK (kK x (s_t s)))).toInt < 20 ∨ 27 < (nI (rK (kK x (s_t s)))).toInt := by rw [ti]; omega
  rw [rX13_tellOne_9 hw]
  have zf : ¬ nI 1 ≤ 0 := by decide
  have fin : ∀ l1, am_E X (d + 6) mX13_tellOne 281 [some (.ref 69), l1] [] (n, I, L, R) Q := by
    intro l1
    simp only [am_lv_of, rX13_tellOne_281, rX13_tellOne_282, rX13_tellOne_283, rX13_tellOne_286, rX13_tellOne_287, rX13_tellOne_290, rX13_tellOne_293, ro_69_1 hR, ro_69_3 hR, ro_69_5 hR, ro_69_6 hR, ro_69_7 hR, ro_69_8 hR, ro_69_9 hR, ro_69_21 hR, ro_69_22 hR, ro_69_23 hR, ro_69_24 hR, ro_69_25 hR, ro_69_26 hR, ro_69_27 hR, ro_69_28 hR, ro_69_29 hR, ro_69_30 hR, ro_69_31 hR, ro_69_32 hR, ro_69_33 hR, ro_69_34 hR, ro_69_35 hR, ro_69_36 hR, ro_69_38 hR, ro_69_39 hR, ro_69_40 hR, ro_69_41 hR, ro_69_42 hR, ro_69_44 hR, ro_69_45 hR, ro_69_46 hR, ro_69_48 hR, ro_69_49 hR, ro_69_51 hR, ro_69_52 hR, ro_69_55 hR, ro_69_56 hR, ro_69_57 hR, ro_69_58 hR, ro_69_59 hR, ro_69_61 hR, ro_69_62 hR, ro_69_63 hR, ro_69_64 hR, ro_69_65 hR, ro_69_66 hR, sh_69, sh_70, sh_71, sh_72, sh_73, sh_74, sh_75, sh_76, sh_77, sh_78, sh_79, sh_80, sh_81, sh_82, sh_83, sh_84, sh_85, sh_86, sh_87, sh_88, sh_89, sh_90, sh_91, sh_92, sh_93, sh_94, sh_95, sh_96, sh_97, sh_98, sh_99, sh_100, sh_101, sh_102, sh_103, sh_104, sh_105, sh_106, sh_107, sh_108, sh_109, sh_110, sh_111, sh_112, sh_113, sh_114, sh_115, hl, hvw9, Nat.reduceLT, Nat.reduceAdd, Nat.reduceMul, ne_eq, Nat.reduceEqDiff, not_false_eq_true, or_true, true_or, or_false, false_or, and_true, true_and, and_self, Nat.reduceLeDiff, am_ci, am_cr, am_cn0, Option.toList_some, Option.toList_none, List.cons_append, List.nil_append, am_s0, am_s1, am_s1r, am_s2, am_s2r, am_s3r, nI_add, am_u_ne, am_u_at, am_u_n1, am_u_n2, am_w_ne, ↓reduceIte, c_failR hR hN hn T, Option.toList_none, zf]
    exact hE _ e _ (dd_rd ((am_ag.refl.u ⟨rfl, Or.inl rfl⟩).u ⟨rfl, Or.inr rfl⟩)) (fl_D (by omega) T)
  simp only [am_lv_of, rX13_tellOne_250, rX13_tellOne_251, rX13_tellOne_254, rX13_tellOne_255, rX13_tellOne_258, rX13_tellOne_259, rX13_tellOne_261, rX13_tellOne_262, rX13_tellOne_263, rX13_tellOne_264, ro_69_1 hR, ro_69_3 hR, ro_69_5 hR, ro_69_6 hR, ro_69_7 hR, ro_69_8 hR, ro_69_9 hR, ro_69_21 hR, ro_69_22 hR, ro_69_23 hR, ro_69_24 hR, ro_69_25 hR, ro_69_26 hR, ro_69_27 hR, ro_69_28 hR, ro_69_29 hR, ro_69_30 hR, ro_69_31 hR, ro_69_32 hR, ro_69_33 hR, ro_69_34 hR, ro_69_35 hR, ro_69_36 hR, ro_69_38 hR, ro_69_39 hR, ro_69_40 hR, ro_69_41 hR, ro_69_42 hR, ro_69_44 hR, ro_69_45 hR, ro_69_46 hR, ro_69_48 hR, ro_69_49 hR, ro_69_51 hR, ro_69_52 hR, ro_69_55 hR, ro_69_56 hR, ro_69_57 hR, ro_69_58 hR, ro_69_59 hR, ro_69_61 hR, ro_69_62 hR, ro_69_63 hR, ro_69_64 hR, ro_69_65 hR, ro_69_66 hR, sh_69, sh_70, sh_71, sh_72, sh_73, sh_74, sh_75, sh_76, sh_77, sh_78, sh_79, sh_80, sh_81, sh_82, sh_83, sh_84, sh_85, sh_86, sh_87, sh_88, sh_89, sh_90, sh_91, sh_92, sh_93, sh_94, sh_95, sh_96, sh_97, sh_98, sh_99, sh_100, sh_101, sh_102, sh_103, sh_104, sh_105, sh_106, sh_107, sh_108, sh_109, sh_110, sh_111, sh_112, sh_113, sh_114, sh_115, hl, hvw9, Nat.reduceLT, Nat.reduceAdd, Nat.reduceMul, ne_eq, Nat.reduceEqDiff, not_false_eq_true, or_true, true_or, or_false, false_or, and_true, true_and, and_self, Nat.reduceLeDiff, am_ci, am_cr, am_cn0, Option.toList_some, Option.toList_none, List.cons_append, List.nil_append, am_s0, am_s1, am_s1r, am_s2, am_s2r, am_s3r, nI_add, am_u_ne, am_u_at, am_u_n1, am_u_n2, am_w_ne, ↓reduceIte, T.2.1, t3, h72]
  by_cases c1 : nI (rK (kK x (s_t s))) - nI 23 < 0
  · simp only [c1, ↓reduceIte]
    exact fin _
  · have h28 : ¬ rK (kK x (s_t s)) < 20 := by
      intro z
      apply c1
      exact (by decide : ∀ r, r < 20 → nI r - nI 23 < 0) _ z
    have c2 : ¬ nI (rK (kK x (s_t s))) ≤ nI 25 := nI_ge (by omega) (by omega)
    simp only [am_lv_of, c1, ↓reduceIte, rX13_tellOne_267, rX13_tellOne_268, rX13_tellOne_271, rX13_tellOne_272, rX13_tellOne_275, rX13_tellOne_276, rX13_tellOne_278, ro_69_1 hR, ro_69_3 hR, ro_69_5 hR, ro_69_6 hR, ro_69_7 hR, ro_69_8 hR, ro_69_9 hR, ro_69_21 hR, ro_69_22 hR, ro_69_23 hR, ro_69_24 hR, ro_69_25 hR, ro_69_26 hR, ro_69_27 hR, ro_69_28 hR, ro_69_29 hR, ro_69_30 hR, ro_69_31 hR, ro_69_32 hR, ro_69_33 hR, ro_69_34 hR, ro_69_35 hR, ro_69_36 hR, ro_69_38 hR, ro_69_39 hR, ro_69_40 hR, ro_69_41 hR, ro_69_42 hR, ro_69_44 hR, ro_69_45 hR, ro_69_46 hR, ro_69_48 hR, ro_69_49 hR, ro_69_51 hR, ro_69_52 hR, ro_69_55 hR, ro_69_56 hR, ro_69_57 hR, ro_69_58 hR, ro_69_59 hR, ro_69_61 hR, ro_69_62 hR, ro_69_63 hR, ro_69_64 hR, ro_69_65 hR, ro_69_66 hR, sh_69, sh_70, sh_71, sh_72, sh_73, sh_74, sh_75, sh_76, sh_77, sh_78, sh_79, sh_80, sh_81, sh_82, sh_83, sh_84, sh_85, sh_86, sh_87, sh_88, sh_89, sh_90, sh_91, sh_92, sh_93, sh_94, sh_95, sh_96, sh_97, sh_98, sh_99, sh_100, sh_101, sh_102, sh_103, sh_104, sh_105, sh_106, sh_107, sh_108, sh_109, sh_110, sh_111, sh_112, sh_113, sh_114, sh_115, hl, hvw9, Nat.reduceLT, Nat.reduceAdd, Nat.reduceMul, ne_eq, Nat.reduceEqDiff, not_false_eq_true, or_true, true_or, or_false, false_or, and_true, true_and, and_self, Nat.reduceLeDiff, am_ci, am_cr, am_cn0, Option.toList_some, Option.toList_none, List.cons_append, List.nil_append, am_s0, am_s1, am_s1r, am_s2, am_s2r, am_s3r, nI_add, am_u_ne, am_u_at, am_u_n1, am_u_n2, am_w_ne, T.2.1, t3, h72, c2]
    exact fin _
end FW
