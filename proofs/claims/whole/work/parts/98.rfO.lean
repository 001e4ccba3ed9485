--! 98
/-! TEXTS: the reference reads a puppet, as one thing told -/
theorem nmD_app {nm : nmT} {w : List Nat} {pp : Option Nat} (D : nmD nm) (h : ¬ nIx nm w < nm.length) : nmD (nm ++ [(w, pp)]) := by
  have nw : ∀ (i : Nat) (e : List Nat × Option Nat), nm[i]? = some e → ¬ e.1 = w := fun i e he => nIx_lt (by have := (List.getElem?_eq_some_iff.mp he).1; omega) he
  have sp : ∀ (i : Nat) (e : List Nat × Option Nat), (nm ++ [(w, pp)])[i]? = some e → (i < nm.length ∧ nm[i]? = some e) ∨ (i = nm.length ∧ e.1 = w) := by
    intro i e he
    by_cases hi : i < nm.length
    · rw [List.getElem?_append_left hi] at he
      exact Or.inl ⟨hi, he⟩
    · have hi2 := (List.getElem?_eq_some_iff.mp he).1
      rw [List.length_append, List.length_singleton] at hi2
      have hi3 : i = nm.length := by omega
      subst hi3
      rw [List.getElem?_append_right (Nat.le_refl _), Nat.sub_self] at he
      cases he
      exact Or.inr ⟨rfl, rfl⟩
  intro i j e e' hi hj hee
  rcases sp i e hi with ⟨a1, a2⟩ | ⟨a1, a2⟩ <;> rcases sp j e' hj with ⟨b1, b2⟩ | ⟨b1, b2⟩
  · exact D i j e e' a2 b2 hee
  · exact absurd (hee.trans b2) (nw i e a2)
  · exact absurd (hee.symm.trans a2) (nw j e' b2)
  · rw [a1, b1]
theorem pu_rd {I J : Nat → Nat → Int32} {pt len nl : Nat} (hl : len < 5) (h : am_ag (puF pt len nl) I J) : am_ag (rdF pt) I J := h.mono (fun k j z => by
  rcases z with ⟨rfl, z⟩ | z | ⟨z, rfl⟩ | ⟨rfl, rfl⟩
  · exact rd69 (by omega)
  · exact Or.inr (Or.inl z.1)
  · exact rd5 z (by omega) (by omega)
  · exact rdA (by omega))
theorem nt_b {x : txt} {f : Nat × Nat} {b : Bool} {k t : Nat} (hk : k ≠ 0) (h : (nt x f b k t).1 = 0) : b = false := by
  unfold nt at h
  split at h
  · exact absurd h hk
  · next z =>
    cases b with
    | false => rfl
    | true => exact absurd ⟨h, rfl⟩ z
section FO
variable {X : am_X} {d n : Nat} {I : Nat → Nat → Int32} {L : Nat → Nat → Int64} {R : Nat → Nat → Option Nat} {Q : Option Value → am_M → Prop} {x : txt}
theorem c_puppetR {pt : Nat} {s : pst} (hx : x.1 ≤ 2000) (hR : am_OR R) (hN : 116 ≤ n) (hn : n ≤ 1000) (hpt : pt < 2) (S : RS I L x pt s) (hk : kK x (s_t s) = 0)
    (hE : ∀ e, puppetP x s = .inl e → ∀ J', am_ag (rdF pt) I J' → ddR J' x e → Q none (n, J', L, R))
    (hS : ∀ s', puppetP x s = .inr s' → ∀ J' L', am_ag (rdF pt) I J' → (∀ k j, k ≠ 77 → L' k j = L k j) → RS J' L' x pt s' → Q none (n, J', L', R)) : am_E X (d + 6) mX13_tellOne 56 [some (.ref 69), none] [] (n, I, L, R) Q := by
  have hl := am_lt hN
  have hvw9 := am_lw hN
  obtain ⟨T, F, O, H, HD, h19, h12, tp, ts, tc, ⟨hm, hd⟩, tl⟩ := id S
  obtain ⟨p1, p2, p3⟩ := id tp
  have s2 := ts.2.1
  have ec : chk x [0, 20, 21, 21, 59] (s_t s) = erB (stE (s_t s)) fun t1 => chk x [20, 21, 21, 59] t1 := by
    show erB (tkE x 0 (s_t s)) _ = _
    rw [tkE_y hk]
  generalize hP : (s_P s).length = len at *
  simp only [am_lv_of, rX13_tellOne_56, rX13_tellOne_57, rX13_tellOne_58, rX13_tellOne_61, rX13_tellOne_62, rX13_tellOne_65, rX13_tellOne_66, rX13_tellOne_67, ro_69_1 hR, ro_69_3 hR, ro_69_5 hR, ro_69_6 hR, ro_69_7 hR, ro_69_8 hR, ro_69_9 hR, ro_69_21 hR, ro_69_22 hR, ro_69_23 hR, ro_69_24 hR, ro_69_25 hR, ro_69_26 hR, ro_69_27 hR, ro_69_28 hR, ro_69_29 hR, ro_69_30 hR, ro_69_31 hR, ro_69_32 hR, ro_69_33 hR, ro_69_34 hR, ro_69_35 hR, ro_69_36 hR, ro_69_38 hR, ro_69_39 hR, ro_69_40 hR, ro_69_41 hR, ro_69_42 hR, ro_69_44 hR, ro_69_45 hR, ro_69_46 hR, ro_69_48 hR, ro_69_49 hR, ro_69_51 hR, ro_69_52 hR, ro_69_55 hR, ro_69_56 hR, ro_69_57 hR, ro_69_58 hR, ro_69_59 hR, ro_69_61 hR, ro_69_62 hR, ro_69_63 hR, ro_69_64 hR, ro_69_65 hR, ro_69_66 hR, sh_69, sh_70, sh_71, sh_72, sh_73, sh_74, sh_75, sh_76, sh_77, sh_78, sh_79, sh_80, sh_81, sh_82, sh_83, sh_84, sh_85, sh_86, sh_87, sh_88, sh_89, sh_90, sh_91, sh_92, sh_93, sh_94, sh_95, sh_96, sh_97, sh_98, sh_99, sh_100, sh_101, sh_102, sh_103, sh_104, sh_105, sh_106, sh_107, sh_108, sh_109, sh_110, sh_111, sh_112, sh_113, sh_114, sh_115, hl, hvw9, Nat.reduceLT, Nat.reduceAdd, Nat.reduceMul, ne_eq, Nat.reduceEqDiff, not_false_eq_true, or_true, true_or, or_false, false_or, and_true, true_and, and_self, Nat.reduceLeDiff, am_ci, am_cr, am_cn0, Option.toList_some, Option.toList_none, List.cons_append, List.nil_append, am_s0, am_s1, am_s1r, am_s2, am_s2r, am_s3r, nI_add, am_u_ne, am_u_at, am_u_n1, am_u_n2, am_w_ne, h19, hpt, p1]
  refine c_roomForR (d := d + 3) (cnt := len) (lim := 5) hR hN hn (by omega) (by omega) T (by omega) (fun e he J1 g1 D => ?_) (fun t1 ht J1 g1 T1 => ?_)
  · have zf : ¬ nI e.1 = 0 := nI_ne0 (by have := D.1; omega) (by have := D.1; omega)
    simp only [am_lv_of, Option.toList_none, List.nil_append, rX13_tellOne_70, rX13_tellOne_71, rX13_tellOne_74, ro_69_1 hR, ro_69_3 hR, ro_69_5 hR, ro_69_6 hR, ro_69_7 hR, ro_69_8 hR, ro_69_9 hR, ro_69_21 hR, ro_69_22 hR, ro_69_23 hR, ro_69_24 hR, ro_69_25 hR, ro_69_26 hR, ro_69_27 hR, ro_69_28 hR, ro_69_29 hR, ro_69_30 hR, ro_69_31 hR, ro_69_32 hR, ro_69_33 hR, ro_69_34 hR, ro_69_35 hR, ro_69_36 hR, ro_69_38 hR, ro_69_39 hR, ro_69_40 hR, ro_69_41 hR, ro_69_42 hR, ro_69_44 hR, ro_69_45 hR, ro_69_46 hR, ro_69_48 hR, ro_69_49 hR, ro_69_51 hR, ro_69_52 hR, ro_69_55 hR, ro_69_56 hR, ro_69_57 hR, ro_69_58 hR, ro_69_59 hR, ro_69_61 hR, ro_69_62 hR, ro_69_63 hR, ro_69_64 hR, ro_69_65 hR, ro_69_66 hR, sh_69, sh_70, sh_71, sh_72, sh_73, sh_74, sh_75, sh_76, sh_77, sh_78, sh_79, sh_80, sh_81, sh_82, sh_83, sh_84, sh_85, sh_86, sh_87, sh_88, sh_89, sh_90, sh_91, sh_92, sh_93, sh_94, sh_95, sh_96, sh_97, sh_98, sh_99, sh_100, sh_101, sh_102, sh_103, sh_104, sh_105, sh_106, sh_107, sh_108, sh_109, sh_110, sh_111, sh_112, sh_113, sh_114, sh_115, hl, hvw9, Nat.reduceLT, Nat.reduceAdd, Nat.reduceMul, ne_eq, Nat.reduceEqDiff, not_false_eq_true, or_true, true_or, or_false, false_or, and_true, true_and, and_self, Nat.reduceLeDiff, am_ci, am_cr, am_cn0, Option.toList_some, Option.toList_none, List.cons_append, List.nil_append, am_s0, am_s1, am_s1r, am_s2, am_s2r, am_s3r, nI_add, am_u_ne, am_u_at, am_u_n1, am_u_n2, am_w_ne, ↓reduceIte, D.2.1, zf, not_false_eq_true, rX13_tellOne_303]
    refine hE e ?_ J1 (bd_rd g1) D
    unfold puppetP
    rw [hP]
    by_cases h : len = 5
    · rw [if_pos h] at he
      rw [if_pos (by omega)]
      cases he
      rfl
    · rw [if_neg h] at he
      rw [if_neg (by omega), ec, he]
      rfl
  have h5 : ¬ len = 5 := fun h => by rw [if_pos h] at ht; cases ht
  rw [if_neg h5] at ht
  obtain ⟨t4, rfl⟩ := stE_inr ht
  have z0 : (nI 0 = 0) = True := eq_true rfl
  have kl := kP_lt (x := x) (t := s_t s) (by omega)
  simp only [am_lv_of, Option.toList_none, List.nil_append, rX13_tellOne_70, rX13_tellOne_71, rX13_tellOne_74, rX13_tellOne_77, rX13_tellOne_78, ro_69_1 hR, ro_69_3 hR, ro_69_5 hR, ro_69_6 hR, ro_69_7 hR, ro_69_8 hR, ro_69_9 hR, ro_69_21 hR, ro_69_22 hR, ro_69_23 hR, ro_69_24 hR, ro_69_25 hR, ro_69_26 hR, ro_69_27 hR, ro_69_28 hR, ro_69_29 hR, ro_69_30 hR, ro_69_31 hR, ro_69_32 hR, ro_69_33 hR, ro_69_34 hR, ro_69_35 hR, ro_69_36 hR, ro_69_38 hR, ro_69_39 hR, ro_69_40 hR, ro_69_41 hR, ro_69_42 hR, ro_69_44 hR, ro_69_45 hR, ro_69_46 hR, ro_69_48 hR, ro_69_49 hR, ro_69_51 hR, ro_69_52 hR, ro_69_55 hR, ro_69_56 hR, ro_69_57 hR, ro_69_58 hR, ro_69_59 hR, ro_69_61 hR, ro_69_62 hR, ro_69_63 hR, ro_69_64 hR, ro_69_65 hR, ro_69_66 hR, sh_69, sh_70, sh_71, sh_72, sh_73, sh_74, sh_75, sh_76, sh_77, sh_78, sh_79, sh_80, sh_81, sh_82, sh_83, sh_84, sh_85, sh_86, sh_87, sh_88, sh_89, sh_90, sh_91, sh_92, sh_93, sh_94, sh_95, sh_96, sh_97, sh_98, sh_99, sh_100, sh_101, sh_102, sh_103, sh_104, sh_105, sh_106, sh_107, sh_108, sh_109, sh_110, sh_111, sh_112, sh_113, sh_114, sh_115, hl, hvw9, Nat.reduceLT, Nat.reduceAdd, Nat.reduceMul, ne_eq, Nat.reduceEqDiff, not_false_eq_true, or_true, true_or, or_false, false_or, and_true, true_and, and_self, Nat.reduceLeDiff, am_ci, am_cr, am_cn0, Option.toList_some, Option.toList_none, List.cons_append, List.nil_append, am_s0, am_s1, am_s1r, am_s2, am_s2r, am_s3r, nI_add, am_u_ne, am_u_at, am_u_n1, am_u_n2, am_w_ne, ↓reduceIte, T1.2.2.2.2, z0, not_true_eq_false]
  refine c_tellPupR (d := d) (pt := pt) (len := len) (f := s_f s) (nm := s_n s) hx hR hN hn hpt (by omega) (by omega) T1 (F.ag (fun j hj => g1 69 j (by omega))) (O.le (by omega)) (H.ag (fun k j hk => g1 k j (by omega))) (by rw [g1 69 19 (by omega)]; exact h19) (by rw [g1 79 pt (by omega)]; exact p1) (fun e he J2 g2 D => ?_) (fun t' hc hk20 ht' J2 L2 g2 gL T2 F2 O2 H2 q79 q80 q81 => ?_)
  · simp only [am_lv_of, Option.toList_none, List.nil_append, rX13_tellOne_81, rX13_tellOne_303]
    exact hE e (by unfold puppetP; rw [hP, if_neg (by omega), ec, ht, erB_inr, he]; rfl) J2 ((st_rd g1).trans (pu_rd (by omega) g2)) D
  simp only [am_lv_of, Option.toList_none, List.nil_append, rX13_tellOne_81, rX13_tellOne_303]
  have G : ∀ k j, ¬ puF pt len (s_n s).length k j → ¬ (k = 69 ∧ j = 11) → J2 k j = I k j := fun k j h h' => by rw [g2 k j h, g1 k j h']
  have f0 : ∀ {a b : Bool} {k1 k2 t1 t2 : Nat} {g : Nat × Nat}, (nt x (nt x g a k1 t1) b k2 t2).1 = 0 → g.1 = 0 := fun h => nt_z (nt_z h)
  refine hS (t', sfP x s, s_n s ++ [(kM x (s_t s + 1), some len)], s_P s ++ [(kV x (s_t s + 2), kV x (s_t s + 3))], s_S s, s_C s, s_m s, s_d s, s_l s) (by unfold puppetP; rw [hP, if_neg (by omega), ec, ht, erB_inr, hc]; rfl) J2 L2 ((st_rd g1).trans (pu_rd (by omega) g2)) (fun k j h => gL k j (fun z => h z.1)) (RS_mk T2 F2 O2 H2 ⟨?_, fun z => ?_⟩ (by rw [G 69 19 (by unfold puF; omega) (by omega)]; exact h19) (by rw [G 69 12 (by unfold puF; omega) (by omega)]; exact h12) ?_ (ts.ag (fun z => nt_z (f0 z)) (fun k j k1 k2 => G k j (by unfold puF; omega) (by omega))) (tc.ag (fun k j k1 k2 => G k j (by unfold puF; omega) (by omega))) ⟨?_, ?_⟩ (tl.ag (by omega) (fun k j hk => G k j (by unfold puF; omega) (by omega))))
  · rw [List.length_append, List.length_append, List.length_singleton, List.length_singleton, hP, HD.1]; omega
  · have z1 := f0 z
    have := nt_b (by omega) z1
    exact nmD_app (HD.2 (nt_z z1)) (of_decide_eq_false this)
  · have le : (s_P s ++ [(kV x (s_t s + 2), kV x (s_t s + 3))]).length = len + 1 := by rw [List.length_append, hP]; rfl
    refine ⟨by rw [le]; exact q79, by rw [le]; omega, fun i v hv => ?_⟩
    by_cases hi : i < len
    · rw [List.getElem?_append_left (by omega)] at hv
      rw [G 80 _ (by unfold puF; omega) (by omega), G 81 _ (by unfold puF; omega) (by omega)]
      exact p3 i v hv
    · have hi2 := (List.getElem?_eq_some_iff.mp hv).1
      have hi3 : i = (s_P s).length := by omega
      subst hi3
      rw [List.getElem?_append_right (Nat.le_refl _), Nat.sub_self] at hv
      cases hv
      rw [hP]
      exact ⟨q80, q81⟩
  · rw [G 89 pt (by unfold puF; omega) (by omega)]; exact hm
  · rw [G 90 pt (by unfold puF; omega) (by omega)]; exact hd
end FO
