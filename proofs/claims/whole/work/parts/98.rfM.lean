--! 98
/-! TEXTS: the reference reads a law, as one thing told -/
theorem kP_le1 {x : txt} {t : Nat} : kP x t ≤ kP x (t + 1) := by
  show tP x (ps x t) ≤ tP x (tN x (ps x t))
  have h2 : tP x (ps x t) ≤ tN x (ps x t) := by
    unfold tN
    split
    · exact Nat.le_refl _
    · split
      · exact rn_ge
      · split
        · exact rn_ge
        · exact Nat.le_succ _
  exact Nat.le_trans h2 rn_ge
theorem kP_mono {x : txt} {t : Nat} : ∀ m, kP x t ≤ kP x (t + m) := by
  intro m
  induction m with
  | zero => exact Nat.le_refl _
  | succ m ih => exact Nat.le_trans ih kP_le1
theorem lw_rd {I J : Nat → Nat → Int32} {pt kk : Nat} (hk : kk < 3) (h : am_ag (lwR pt kk) I J) : am_ag (rdF pt) I J := h.mono (fun k j z => by
  rcases z with (⟨rfl, z⟩ | z | z) | ⟨rfl, rfl⟩ | z | ⟨z, rfl⟩
  · exact rd69 (by omega)
  · exact Or.inr (Or.inr (Or.inr (Or.inl z)))
  · exact Or.inr (Or.inr (Or.inl z))
  · exact rd69 (by omega)
  · exact Or.inr (Or.inr (Or.inr (Or.inr (Or.inl z))))
  · exact Or.inr (Or.inr (Or.inr (Or.inr (Or.inr (Or.inl ⟨z, by omega, by omega⟩))))))
section FM
variable {X : am_X} {d n : Nat} {I : Nat → Nat → Int32} {L : Nat → Nat → Int64} {R : Nat → Nat → Option Nat} {Q : Option Value → am_M → Prop} {x : txt}
theorem c_lawR {pt kk : Nat} {s : pst} (hR : am_OR R) (hN : 116 ≤ n) (hn : n ≤ 1000) (hpt : pt < 2) (hkk : kk < 3) (S : RS I L x pt s) (hk : kK x (s_t s) = 3 + kk) (hT : tellP x s = lawQ x kk s)
    (hE : ∀ e, lawQ x kk s = .inl e → ∀ J', am_ag (rdF pt) I J' → ddR J' x e → Q none (n, J', L, R))
    (hS : ∀ s', lawQ x kk s = .inr s' → ∀ J', am_ag (rdF pt) I J' → RS J' L x pt s' → Q none (n, J', L, R)) : am_E X (d + 6) mX13_tellOne 250 [some (.ref 69), none] [] (n, I, L, R) Q := by
  have hl := am_lt hN
  have hvw9 := am_lw hN
  obtain ⟨T, F, O, H, HD, h19, h12, tp, ts, tc, ⟨hm, hd⟩, tl⟩ := id S
  obtain ⟨b, c, l1, l2, l3, l4, l5⟩ := tl
  have t4 := T.2.2.1
  have t3 : s_t s < 403 := by omega
  have rk : rK (kK x (s_t s)) = 23 + kk := by rw [hk]; unfold rK; rw [if_pos (by omega)]; omega
  have h72 := T.k
  rw [rk] at h72
  have sb : nI (23 + kk) - nI 23 = nI kk := (by decide : ∀ p, p < 3 → nI (23 + p) - nI 23 = nI p) kk hkk
  have n0 : ¬ nI kk < 0 := (by decide : ∀ p, p < 3 → ¬ nI p < 0) kk hkk
  have m25 : nI (23 + kk) ≤ nI 25 := nI_le (by omega) (by omega)
  have zf0 : nI 0 ≤ 0 := by decide
  simp only [am_lv_of, rX13_tellOne_250, rX13_tellOne_251, rX13_tellOne_254, rX13_tellOne_255, rX13_tellOne_258, rX13_tellOne_259, rX13_tellOne_261, rX13_tellOne_262, rX13_tellOne_263, rX13_tellOne_264, rX13_tellOne_267, rX13_tellOne_268, rX13_tellOne_271, rX13_tellOne_272, rX13_tellOne_275, rX13_tellOne_276, rX13_tellOne_278, rX13_tellOne_286, rX13_tellOne_287, rX13_tellOne_290, rX13_tellOne_294, rX13_tellOne_295, ro_69_1 hR, ro_69_3 hR, ro_69_5 hR, ro_69_6 hR, ro_69_7 hR, ro_69_8 hR, ro_69_9 hR, ro_69_21 hR, ro_69_22 hR, ro_69_23 hR, ro_69_24 hR, ro_69_25 hR, ro_69_26 hR, ro_69_27 hR, ro_69_28 hR, ro_69_29 hR, ro_69_30 hR, ro_69_31 hR, ro_69_32 hR, ro_69_33 hR, ro_69_34 hR, ro_69_35 hR, ro_69_36 hR, ro_69_38 hR, ro_69_39 hR, ro_69_40 hR, ro_69_41 hR, ro_69_42 hR, ro_69_44 hR, ro_69_45 hR, ro_69_46 hR, ro_69_48 hR, ro_69_49 hR, ro_69_51 hR, ro_69_52 hR, ro_69_55 hR, ro_69_56 hR, ro_69_57 hR, ro_69_58 hR, ro_69_59 hR, ro_69_61 hR, ro_69_62 hR, ro_69_63 hR, ro_69_64 hR, ro_69_65 hR, ro_69_66 hR, sh_69, sh_70, sh_71, sh_72, sh_73, sh_74, sh_75, sh_76, sh_77, sh_78, sh_79, sh_80, sh_81, sh_82, sh_83, sh_84, sh_85, sh_86, sh_87, sh_88, sh_89, sh_90, sh_91, sh_92, sh_93, sh_94, sh_95, sh_96, sh_97, sh_98, sh_99, sh_100, sh_101, sh_102, sh_103, sh_104, sh_105, sh_106, sh_107, sh_108, sh_109, sh_110, sh_111, sh_112, sh_113, sh_114, sh_115, hl, hvw9, Nat.reduceLT, Nat.reduceAdd, Nat.reduceMul, ne_eq, Nat.reduceEqDiff, not_false_eq_true, or_true, true_or, or_false, false_or, and_true, true_and, and_self, Nat.reduceLeDiff, am_ci, am_cr, am_cn0, Option.toList_some, Option.toList_none, List.cons_append, List.nil_append, am_s0, am_s1, am_s1r, am_s2, am_s2r, am_s3r, nI_add, am_u_ne, am_u_at, am_u_n1, am_u_n2, am_w_ne, ↓reduceIte, T.2.1, t3, h72, sb, n0, m25, T.2.2.2.2, zf0]
  refine c_goesOnR (d := d + 4) hR hN hn T (by omega) (fun e he J1 g1 D => ?_) (fun t1 ht J1 g1 T1 => ?_)
  · simp only [am_lv_of, Option.toList_none, List.nil_append, rX13_tellOne_298, rX13_tellOne_299, rX13_tellOne_300, ro_69_1 hR, ro_69_3 hR, ro_69_5 hR, ro_69_6 hR, ro_69_7 hR, ro_69_8 hR, ro_69_9 hR, ro_69_21 hR, ro_69_22 hR, ro_69_23 hR, ro_69_24 hR, ro_69_25 hR, ro_69_26 hR, ro_69_27 hR, ro_69_28 hR, ro_69_29 hR, ro_69_30 hR, ro_69_31 hR, ro_69_32 hR, ro_69_33 hR, ro_69_34 hR, ro_69_35 hR, ro_69_36 hR, ro_69_38 hR, ro_69_39 hR, ro_69_40 hR, ro_69_41 hR, ro_69_42 hR, ro_69_44 hR, ro_69_45 hR, ro_69_46 hR, ro_69_48 hR, ro_69_49 hR, ro_69_51 hR, ro_69_52 hR, ro_69_55 hR, ro_69_56 hR, ro_69_57 hR, ro_69_58 hR, ro_69_59 hR, ro_69_61 hR, ro_69_62 hR, ro_69_63 hR, ro_69_64 hR, ro_69_65 hR, ro_69_66 hR, sh_69, sh_70, sh_71, sh_72, sh_73, sh_74, sh_75, sh_76, sh_77, sh_78, sh_79, sh_80, sh_81, sh_82, sh_83, sh_84, sh_85, sh_86, sh_87, sh_88, sh_89, sh_90, sh_91, sh_92, sh_93, sh_94, sh_95, sh_96, sh_97, sh_98, sh_99, sh_100, sh_101, sh_102, sh_103, sh_104, sh_105, sh_106, sh_107, sh_108, sh_109, sh_110, sh_111, sh_112, sh_113, sh_114, sh_115, hl, hvw9, Nat.reduceLT, Nat.reduceAdd, Nat.reduceMul, ne_eq, Nat.reduceEqDiff, not_false_eq_true, or_true, true_or, or_false, false_or, and_true, true_and, and_self, Nat.reduceLeDiff, am_ci, am_cr, am_cn0, Option.toList_some, Option.toList_none, List.cons_append, List.nil_append, am_s0, am_s1, am_s1r, am_s2, am_s2r, am_s3r, nI_add, am_u_ne, am_u_at, am_u_n1, am_u_n2, am_w_ne]
    refine c_tellLawD (d := d) (pt := pt) (kk := kk) (b := b) hR hN hn hpt D (by rw [g1 69 37 (by omega)]; exact l3) (by omega) (fun J2 g2 D2 => ?_)
    simp only [am_lv_of, Option.toList_none, List.nil_append, rX13_tellOne_303]
    exact hE e (by unfold lawQ lawP; rw [he]; rfl) J2 ((dd_rd g1).trans (lw_rd hkk g2)) D2
  obtain ⟨t5, rfl⟩ := stE_inr ht
  simp only [am_lv_of, Option.toList_none, List.nil_append, rX13_tellOne_298, rX13_tellOne_299, rX13_tellOne_300, ro_69_1 hR, ro_69_3 hR, ro_69_5 hR, ro_69_6 hR, ro_69_7 hR, ro_69_8 hR, ro_69_9 hR, ro_69_21 hR, ro_69_22 hR, ro_69_23 hR, ro_69_24 hR, ro_69_25 hR, ro_69_26 hR, ro_69_27 hR, ro_69_28 hR, ro_69_29 hR, ro_69_30 hR, ro_69_31 hR, ro_69_32 hR, ro_69_33 hR, ro_69_34 hR, ro_69_35 hR, ro_69_36 hR, ro_69_38 hR, ro_69_39 hR, ro_69_40 hR, ro_69_41 hR, ro_69_42 hR, ro_69_44 hR, ro_69_45 hR, ro_69_46 hR, ro_69_48 hR, ro_69_49 hR, ro_69_51 hR, ro_69_52 hR, ro_69_55 hR, ro_69_56 hR, ro_69_57 hR, ro_69_58 hR, ro_69_59 hR, ro_69_61 hR, ro_69_62 hR, ro_69_63 hR, ro_69_64 hR, ro_69_65 hR, ro_69_66 hR, sh_69, sh_70, sh_71, sh_72, sh_73, sh_74, sh_75, sh_76, sh_77, sh_78, sh_79, sh_80, sh_81, sh_82, sh_83, sh_84, sh_85, sh_86, sh_87, sh_88, sh_89, sh_90, sh_91, sh_92, sh_93, sh_94, sh_95, sh_96, sh_97, sh_98, sh_99, sh_100, sh_101, sh_102, sh_103, sh_104, sh_105, sh_106, sh_107, sh_108, sh_109, sh_110, sh_111, sh_112, sh_113, sh_114, sh_115, hl, hvw9, Nat.reduceLT, Nat.reduceAdd, Nat.reduceMul, ne_eq, Nat.reduceEqDiff, not_false_eq_true, or_true, true_or, or_false, false_or, and_true, true_and, and_self, Nat.reduceLeDiff, am_ci, am_cr, am_cn0, Option.toList_some, Option.toList_none, List.cons_append, List.nil_append, am_s0, am_s1, am_s1r, am_s2, am_s2r, am_s3r, nI_add, am_u_ne, am_u_at, am_u_n1, am_u_n2, am_w_ne]
  refine c_tellLawR (d := d) (pt := pt) (kk := kk) (b := b) (c := c) hR hN hn hpt hkk ⟨T1, by rw [g1 69 12 (by omega)]; exact h12, by rw [g1 69 43 (by omega)]; exact l1, by omega, by rw [g1 69 37 (by omega)]; exact l3, by omega, by rw [g1 69 19 (by omega)]; exact h19⟩ (by omega) (fun e he J2 g2 D2 => ?_) (fun t' acc e he J2 hJ => ?_)
  · simp only [am_lv_of, Option.toList_none, List.nil_append, rX13_tellOne_303]
    have he' : lawP x (s_t s) = .inl e := by
      unfold lawP
      rw [ht]
      exact he
    exact hE e (by unfold lawQ; rw [he']; rfl) J2 ((st_rd g1).trans (lw_rd hkk g2)) D2
  obtain ⟨j1, ⟨c', j2, ⟨a1, a2, a3, a4, a5, a6, a7⟩, j3⟩, -, j4, j5, j6, j7⟩ := hJ
  have he' : lawP x (s_t s) = .inr (t', acc, e) := by
    unfold lawP
    rw [ht]
    exact he
  have hq : lawQ x kk s = .inr (t', s_f s, s_n s, s_P s, s_S s, s_C s, s_m s, s_d s, fun j => if j = kk then some (acc, e) else s_l s j) := by
    unfold lawQ
    rw [he']
    rfl
  have tt : s_t s < t' := (tellP_t t4 (hT.trans hq)).1
  have kl : kP x (s_t s) ≤ kP x t' := by
    have := kP_mono (x := x) (t := s_t s) (t' - s_t s)
    rwa [show s_t s + (t' - s_t s) = t' by omega] at this
  have G : ∀ k j, ¬ lwR pt kk k j → ¬ (k = 69 ∧ j = 11) → J2 k j = I k j := fun k j h h' => by rw [j1 k j h, g1 k j h']
  simp only [am_lv_of, Option.toList_none, List.nil_append, rX13_tellOne_303]
  refine hS _ hq J2 ((st_rd g1).trans (lw_rd hkk j1)) (RS_mk a1 (F.ag (fun j hj => G 69 j (by unfold lwR erP; omega) (by omega))) (O.le kl) (H.ag (fun k j hk => G k j (by unfold lwR erP; omega) (by omega))) HD a7 a2 (tp.ag (fun k j k1 k2 => G k j (by unfold lwR erP; omega) (by omega))) (ts.ag (fun z => z) (fun k j k1 k2 => G k j (by unfold lwR erP; omega) (by omega))) (tc.ag (fun k j k1 k2 => G k j (by unfold lwR erP; omega) (by omega))) ⟨?_, ?_⟩ ⟨b + acc.length + 1, c', a3, a4, a5, a6, fun k hk => ?_⟩)
  · rw [G 89 pt (by unfold lwR erP; omega) (by omega)]; exact hm
  · rw [G 90 pt (by unfold lwR erP; omega) (by omega)]; exact hd
  · show rfO J2 (3 * pt + k) (b + acc.length + 1) c' (if k = kk then some (acc, e) else s_l s k)
    by_cases ek : k = kk
    · subst ek
      rw [if_pos rfl]
      exact ⟨b, Nat.le_refl _, j4, j5, j3, by omega⟩
    · rw [if_neg ek]
      exact (l5 k hk).ag (by omega) j2 ⟨G 91 _ (by unfold lwR erP; omega) (by omega), G 92 _ (by unfold lwR erP; omega) (by omega)⟩ (fun k j hk hj => by rw [j6 k j hk hj, g1 k j (by omega)]) (fun k j k1 k2 hj => by rw [j7 k j k1 k2 hj, g1 k j (by omega)])
end FM
