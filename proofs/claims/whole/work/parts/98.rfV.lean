--! 98
/-! TEXTS: the reference reads a string, as one thing told -/
theorem sb_rd {I J : Nat → Nat → Int32} {pt len nl : Nat} (hl : len < 7) (h : am_ag (sbF pt len nl) I J) : am_ag (rdF pt) I J := h.mono (fun k j z => by
  rcases z with ⟨rfl, z⟩ | z | ⟨z, rfl⟩ | ⟨rfl, rfl⟩
  · exact rd69 (by omega)
  · exact Or.inr (Or.inl z.1)
  · exact rd7 (Or.inl z) (by omega) (by omega)
  · exact rdA (by omega))
theorem nt_ne {x : txt} {f : Nat × Nat} {b : Bool} {k t : Nat} (h : ¬ f.1 = 0) : nt x f b k t = f := if_neg (fun z => h z.1)
section FV
variable {X : am_X} {d n : Nat} {I : Nat → Nat → Int32} {L : Nat → Nat → Int64} {R : Nat → Nat → Option Nat} {Q : Option Value → am_M → Prop} {x : txt}
theorem c_stringR {pt : Nat} {s : pst} (hx : x.1 ≤ 2000) (hR : am_OR R) (hN : 116 ≤ n) (hn : n ≤ 1000) (hpt : pt < 2) (S : RS I L x pt s) (hk : kK x (s_t s) = 1)
    (hE : ∀ e, stringP x s = .inl e → ∀ J', am_ag (rdF pt) I J' → ddR J' x e → Q none (n, J', L, R))
    (hS : ∀ s', stringP x s = .inr s' → ∀ J' L', am_ag (rdF pt) I J' → (∀ k j, k ≠ 77 → L' k j = L k j) → RS J' L' x pt s' → Q none (n, J', L', R)) : am_E X (d + 6) mX13_tellOne 84 [some (.ref 69), none] [] (n, I, L, R) Q := by
  have hl := am_lt hN
  have hvw9 := am_lw hN
  obtain ⟨T, F, O, H, HD, h19, h12, tp, ts, tc, ⟨hm, hd⟩, tl⟩ := id S
  obtain ⟨p1, p2, p3⟩ := id ts
  have s2 := tp.2.1
  simp only [am_lv_of, rX13_tellOne_84, rX13_tellOne_85, rX13_tellOne_86, rX13_tellOne_89, rX13_tellOne_90, rX13_tellOne_93, rX13_tellOne_94, rX13_tellOne_96, ro_69_1 hR, ro_69_3 hR, ro_69_5 hR, ro_69_6 hR, ro_69_7 hR, ro_69_8 hR, ro_69_9 hR, ro_69_21 hR, ro_69_22 hR, ro_69_23 hR, ro_69_24 hR, ro_69_25 hR, ro_69_26 hR, ro_69_27 hR, ro_69_28 hR, ro_69_29 hR, ro_69_30 hR, ro_69_31 hR, ro_69_32 hR, ro_69_33 hR, ro_69_34 hR, ro_69_35 hR, ro_69_36 hR, ro_69_38 hR, ro_69_39 hR, ro_69_40 hR, ro_69_41 hR, ro_69_42 hR, ro_69_44 hR, ro_69_45 hR, ro_69_46 hR, ro_69_48 hR, ro_69_49 hR, ro_69_51 hR, ro_69_52 hR, ro_69_55 hR, ro_69_56 hR, ro_69_57 hR, ro_69_58 hR, ro_69_59 hR, ro_69_61 hR, ro_69_62 hR, ro_69_63 hR, ro_69_64 hR, ro_69_65 hR, ro_69_66 hR, sh_69, sh_70, sh_71, sh_72, sh_73, sh_74, sh_75, sh_76, sh_77, sh_78, sh_79, sh_80, sh_81, sh_82, sh_83, sh_84, sh_85, sh_86, sh_87, sh_88, sh_89, sh_90, sh_91, sh_92, sh_93, sh_94, sh_95, sh_96, sh_97, sh_98, sh_99, sh_100, sh_101, sh_102, sh_103, sh_104, sh_105, sh_106, sh_107, sh_108, sh_109, sh_110, sh_111, sh_112, sh_113, sh_114, sh_115, hl, hvw9, Nat.reduceLT, Nat.reduceAdd, Nat.reduceMul, ne_eq, Nat.reduceEqDiff, not_false_eq_true, or_true, true_or, or_false, false_or, and_true, true_and, and_self, Nat.reduceLeDiff, am_ci, am_cr, am_cn0, Option.toList_some, Option.toList_none, List.cons_append, List.nil_append, am_s0, am_s1, am_s1r, am_s2, am_s2r, am_s3r, nI_add, am_u_ne, am_u_at, am_u_n1, am_u_n2, am_w_ne, h19, hpt, p1]
  refine c_roomForR (d := d + 3) (cnt := (s_S s).length) (lim := 7) hR hN hn (by omega) (by omega) T (by omega) (fun e he J1 g1 D => ?_) (fun t1 ht J1 g1 T1 => ?_)
  · have zf : ¬ nI e.1 = 0 := nI_ne0 (by have := D.1; omega) (by have := D.1; omega)
    simp only [am_lv_of, Option.toList_none, List.nil_append, rX13_tellOne_99, rX13_tellOne_100, rX13_tellOne_103, ro_69_1 hR, ro_69_3 hR, ro_69_5 hR, ro_69_6 hR, ro_69_7 hR, ro_69_8 hR, ro_69_9 hR, ro_69_21 hR, ro_69_22 hR, ro_69_23 hR, ro_69_24 hR, ro_69_25 hR, ro_69_26 hR, ro_69_27 hR, ro_69_28 hR, ro_69_29 hR, ro_69_30 hR, ro_69_31 hR, ro_69_32 hR, ro_69_33 hR, ro_69_34 hR, ro_69_35 hR, ro_69_36 hR, ro_69_38 hR, ro_69_39 hR, ro_69_40 hR, ro_69_41 hR, ro_69_42 hR, ro_69_44 hR, ro_69_45 hR, ro_69_46 hR, ro_69_48 hR, ro_69_49 hR, ro_69_51 hR, ro_69_52 hR, ro_69_55 hR, ro_69_56 hR, ro_69_57 hR, ro_69_58 hR, ro_69_59 hR, ro_69_61 hR, ro_69_62 hR, ro_69_63 hR, ro_69_64 hR, ro_69_65 hR, ro_69_66 hR, sh_69, sh_70, sh_71, sh_72, sh_73, sh_74, sh_75, sh_76, sh_77, sh_78, sh_79, sh_80, sh_81, sh_82, sh_83, sh_84, sh_85, sh_86, sh_87, sh_88, sh_89, sh_90, sh_91, sh_92, sh_93, sh_94, sh_95, sh_96, sh_97, sh_98, sh_99, sh_100, sh_101, sh_102, sh_103, sh_104, sh_105, sh_106, sh_107, sh_108, sh_109, sh_110, sh_111, sh_112, sh_113, sh_114, sh_115, hl, hvw9, Nat.reduceLT, Nat.reduceAdd, Nat.reduceMul, ne_eq, Nat.reduceEqDiff, not_false_eq_true, or_true, true_or, or_false, false_or, and_true, true_and, and_self, Nat.reduceLeDiff, am_ci, am_cr, am_cn0, Option.toList_some, Option.toList_none, List.cons_append, List.nil_append, am_s0, am_s1, am_s1r, am_s2, am_s2r, am_s3r, nI_add, am_u_ne, am_u_at, am_u_n1, am_u_n2, am_w_ne, ↓reduceIte, D.2.1, zf, not_false_eq_true, rX13_tellOne_303]
    refine hE e ?_ J1 (bd_rd g1) D
    unfold stringP
    by_cases h : (s_S s).length = 7
    · rw [if_pos h] at he
      rw [if_pos (by omega)]
      cases he
      rfl
    · rw [if_neg h] at he
      rw [if_neg (by omega)]
      show erB (erB (tkE x 1 (s_t s)) _) _ = _
      rw [tkE_y hk, he]
      rfl
  have h7 : ¬ (s_S s).length = 7 := fun h => by rw [if_pos h] at ht; cases ht
  rw [if_neg h7] at ht
  obtain ⟨t4, rfl⟩ := stE_inr ht
  have z0 : (nI 0 = 0) = True := eq_true rfl
  have kl := kP_lt (x := x) (t := s_t s) (by omega)
  simp only [am_lv_of, Option.toList_none, List.nil_append, rX13_tellOne_99, rX13_tellOne_100, rX13_tellOne_103, rX13_tellOne_106, rX13_tellOne_107, ro_69_1 hR, ro_69_3 hR, ro_69_5 hR, ro_69_6 hR, ro_69_7 hR, ro_69_8 hR, ro_69_9 hR, ro_69_21 hR, ro_69_22 hR, ro_69_23 hR, ro_69_24 hR, ro_69_25 hR, ro_69_26 hR, ro_69_27 hR, ro_69_28 hR, ro_69_29 hR, ro_69_30 hR, ro_69_31 hR, ro_69_32 hR, ro_69_33 hR, ro_69_34 hR, ro_69_35 hR, ro_69_36 hR, ro_69_38 hR, ro_69_39 hR, ro_69_40 hR, ro_69_41 hR, ro_69_42 hR, ro_69_44 hR, ro_69_45 hR, ro_69_46 hR, ro_69_48 hR, ro_69_49 hR, ro_69_51 hR, ro_69_52 hR, ro_69_55 hR, ro_69_56 hR, ro_69_57 hR, ro_69_58 hR, ro_69_59 hR, ro_69_61 hR, ro_69_62 hR, ro_69_63 hR, ro_69_64 hR, ro_69_65 hR, ro_69_66 hR, sh_69, sh_70, sh_71, sh_72, sh_73, sh_74, sh_75, sh_76, sh_77, sh_78, sh_79, sh_80, sh_81, sh_82, sh_83, sh_84, sh_85, sh_86, sh_87, sh_88, sh_89, sh_90, sh_91, sh_92, sh_93, sh_94, sh_95, sh_96, sh_97, sh_98, sh_99, sh_100, sh_101, sh_102, sh_103, sh_104, sh_105, sh_106, sh_107, sh_108, sh_109, sh_110, sh_111, sh_112, sh_113, sh_114, sh_115, hl, hvw9, Nat.reduceLT, Nat.reduceAdd, Nat.reduceMul, ne_eq, Nat.reduceEqDiff, not_false_eq_true, or_true, true_or, or_false, false_or, and_true, true_and, and_self, Nat.reduceLeDiff, am_ci, am_cr, am_cn0, Option.toList_some, Option.toList_none, List.cons_append, List.nil_append, am_s0, am_s1, am_s1r, am_s2, am_s2r, am_s3r, nI_add, am_u_ne, am_u_at, am_u_n1, am_u_n2, am_w_ne, ↓reduceIte, T1.2.2.2.2, z0, not_true_eq_false]
  refine c_tellStrR (d := d) (pt := pt) (len := (s_S s).length) (f := s_f s) (nm := s_n s) hx hR hN hn hpt (by omega) (by omega) T1 (F.ag (fun j hj => g1 69 j (by omega))) (O.le (by omega)) (H.ag (fun k j hk => g1 k j (by omega))) (by rw [g1 69 19 (by omega)]; exact h19) (by rw [g1 82 pt (by omega)]; exact p1) (fun e he J2 g2 D => ?_) (fun t' v o b f3 hc hv ht' hb hD hf3 J2 L2 g2 gL T2 F2 O2 H2 q82 q83 q84 q85 q86 => ?_)
  · simp only [am_lv_of, Option.toList_none, List.nil_append, rX13_tellOne_110, rX13_tellOne_303]
    exact hE e (str_inl hk ht (by omega) he) J2 ((st_rd g1).trans (sb_rd (by omega) g2)) D
  simp only [am_lv_of, Option.toList_none, List.nil_append, rX13_tellOne_110, rX13_tellOne_303]
  have tge : s_t s ≤ t' := by
    by_cases c : kK x (s_t s + 1 + 3) = 45
    · rw [if_pos c] at hv; omega
    · rw [if_neg c] at hv; omega
  have G : ∀ k j, ¬ sbF pt (s_S s).length (s_n s).length k j → ¬ (k = 69 ∧ j = 11) → J2 k j = I k j := fun k j h h' => by rw [g2 k j h, g1 k j h']
  have fb : nt x (nt x (s_f s) (decide (nIx (s_n s) (kM x (s_t s + 1)) < (s_n s).length)) 3 (s_t s + 1)) b 4 (s_t s + 2) = nt x (nt x (s_f s) (decide (nIx (s_n s) (kM x (s_t s + 1)) < (s_n s).length)) 3 (s_t s + 1)) (ownP x s).isNone 4 (s_t s + 2) := by
    by_cases c : (nt x (s_f s) (decide (nIx (s_n s) (kM x (s_t s + 1)) < (s_n s).length)) 3 (s_t s + 1)).1 = 0
    · have : o = ownP x s := hD (HD.2 (nt_z c))
      rw [hb, this]
    · rw [nt_ne c, nt_ne c]
  have ef : nt x (nt x f3 (decide (9 < kV x v)) 5 v) (decide (3 < kV x (v + 1))) 5 (v + 1) = sfS x s v := by
    rw [hf3]
    unfold sfS
    rw [← fb]
  rw [ef] at F2 O2
  refine hS _ (str_inr hk ht (by omega) hc hv) J2 L2 ((st_rd g1).trans (sb_rd (by omega) g2)) (fun k j h => gL k j (fun z => h z.1)) (RS_mk T2 F2 O2 H2 ⟨?_, fun z => ?_⟩ (by rw [G 69 19 (by unfold sbF; omega) (by omega)]; exact h19) (by rw [G 69 12 (by unfold sbF; omega) (by omega)]; exact h12) (tp.ag (fun k j k1 k2 => G k j (by unfold sbF; omega) (by omega))) ?_ (tc.ag (fun k j k1 k2 => G k j (by unfold sbF; omega) (by omega))) ⟨?_, ?_⟩ (tl.ag tge (fun k j hk => G k j (by unfold sbF; omega) (by omega))))
  · rw [List.length_append, List.length_append, List.length_singleton, List.length_singleton, HD.1]; omega
  · have z1 := nt_z (nt_z (nt_z (nt_z z)))
    exact nmD_app (HD.2 (nt_z z1)) (of_decide_eq_false (nt_b (by omega) z1))
  · refine ⟨by rw [List.length_append]; exact q82, by rw [List.length_append, List.length_singleton]; omega, fun i w hw => ?_⟩
    by_cases hi : i < (s_S s).length
    · rw [List.getElem?_append_left hi] at hw
      obtain ⟨a1, a2, a3, a4⟩ := p3 i w hw
      exact ⟨fun z => by rw [G 83 _ (by unfold sbF; omega) (by omega)]; exact a1 (nt_z (nt_z (nt_z (nt_z (nt_z z))))), by rw [G 84 _ (by unfold sbF; omega) (by omega)]; exact a2, by rw [G 85 _ (by unfold sbF; omega) (by omega)]; exact a3, by rw [G 86 _ (by unfold sbF; omega) (by omega)]; exact a4⟩
    · have hi2 := (List.getElem?_eq_some_iff.mp hw).1
      rw [List.length_append, List.length_singleton] at hi2
      have hi3 : i = (s_S s).length := by omega
      subst hi3
      rw [List.getElem?_append_right (Nat.le_refl _), Nat.sub_self] at hw
      cases hw
      refine ⟨fun z => ?_, q84, q85, q86⟩
      have z1 := nt_z (nt_z (nt_z z))
      have ho : o = ownP x s := hD (HD.2 (nt_z (nt_z z1)))
      have hs := nt_b (by omega) z1
      rw [q83, ho]
      cases hp : ownP x s with
      | none => rw [hp] at hs; cases hs
      | some p => rfl
  · rw [G 89 pt (by unfold sbF; omega) (by omega)]; exact hm
  · rw [G 90 pt (by unfold sbF; omega) (by omega)]; exact hd
end FV
