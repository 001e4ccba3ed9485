--! 81
/-! PROMISES 15, 17, 18: shortest, straight, reach -/
section PE
variable {X : am_X} {d n : Nat} {I : Nat → Nat → Int32} {L : Nat → Nat → Int64} {R : Nat → Nat → Option Nat} {Q : Option Value → am_M → Prop} {σ : rfP}
theorem rPl_psr {w s : Nat} {r : Nat → Int32} (ho : ok_S σ) (hs : s < p_S σ) (h : psr w (p_P σ) r) (hst : stW σ w s = true) : psr (cMv σ w s) (p_P σ) (rPl σ r s) ∧ rPl σ r s 15 = nI 1 - r 15 ∧ rPl σ r s 16 = r 16 + nI 1 ∧ rPl σ r s 17 = vdW σ (cMv σ w s) (r 16 + nI 1) := by
  have hm := h.mv ho hs (by rw [h.stW ho hs]; exact hst)
  have e15 : rMv σ r s 15 = r 15 := rMv_n ho hs (by omega)
  have e16 : rMv σ r s 16 = r 16 := rMv_n ho hs (by omega)
  unfold rPl
  refine ⟨hm.mv' (fun j hj => rEnd_n (by omega) (by omega) (by omega)), by rw [rEnd_15, e15], by rw [rEnd_16, e16], ?_⟩
  have hp : psr (cMv σ w s) (p_P σ) (rEn0 (rMv σ r s)) := hm.mv' (fun j hj => rEn0_n (by omega) (by omega))
  rw [rEnd_17, hp.vd ho, rEn0_16, e16]
theorem sd_step {b m : Nat} (hb : b < 2) : nI 1 - sdN b m = sdN b (m + 1) := by
  unfold sdN
  have h1 : (b + m) % 2 ≤ 1 := by omega
  rw [pk_sub h1]
  exact congrArg nI (by omega)
theorem l_isPl {way ln w0 b : Nat} {pl v0 : Int32} (hR : am_OR R) (hN : 116 ≤ n) (hn : n ≤ 1000) (ho : ok_S σ) (H : rf_S I σ) (hb : b < 2) (hln : ln ≤ 5) (hway : way < 7 ^ 5) (hQ : ∀ I', am_ag sc2 I I' → (∀ x, okL σ b pl v0 w0 ln way = some x → psr x (p_P σ) (I' 104) ∧ I' 104 17 = vdL σ v0 pl ln x) → Q (some (.int (bI (okL σ b pl v0 w0 ln way).isSome))) (n, I', L, R)) : ∀ (rem made w : Nat) (J : Nat → Nat → Int32) (l4 : Option Value), made + rem = ln → okL σ b pl v0 w0 ln way = plW (p_S σ) (pmay σ b pl) (cMv σ) (pvz σ v0 pl) rem made w way → am_ag sc2 I J → psr w (p_P σ) (J 104) → J 104 15 = sdN b made → J 104 16 = pl + nI made → J 104 17 = vdL σ v0 pl made w → am_nl l4 → am_E X (d + 7) mX13_isPlayed 6 [some (.ref 69), some (.int (nI way)), some (.int (nI ln)), some (.int (nI made)), l4] [] (n, J, L, R) Q := by
  have hl := am_lt hN
  have hvw9 := am_lw hN
  have S7 := ho.2.1
  intro rem
  induction rem with
  | zero =>
    intro made w J l4 hm hgo hJ hp e15 e16 e17 n4
    have hm : made = ln := by omega
    subst hm
    have h1 : nI made ≤ nI made := nI_le (Nat.le_refl _) (by omega)
    have eo : okL σ b pl v0 w0 made way = some w := hgo
    have := hQ J hJ (fun x hx => by rw [eo] at hx; cases hx; exact ⟨hp, e17⟩)
    rw [eo] at this
    simp only [am_lv_of, rX13_isPlayed_6, rX13_isPlayed_7, rX13_isPlayed_8, rX13_isPlayed_58, rX13_isPlayed_59, rX13_isPlayed_59_0, rX13_isPlayed_59_1, ro_69_1 hR, ro_69_3 hR, ro_69_5 hR, ro_69_6 hR, ro_69_7 hR, ro_69_8 hR, ro_69_9 hR, ro_69_21 hR, ro_69_22 hR, ro_69_23 hR, ro_69_24 hR, ro_69_25 hR, ro_69_26 hR, ro_69_27 hR, ro_69_28 hR, ro_69_29 hR, ro_69_30 hR, ro_69_31 hR, ro_69_32 hR, ro_69_33 hR, ro_69_34 hR, ro_69_35 hR, ro_69_36 hR, ro_69_38 hR, ro_69_39 hR, ro_69_40 hR, ro_69_41 hR, ro_69_42 hR, ro_69_44 hR, ro_69_45 hR, ro_69_46 hR, ro_69_48 hR, ro_69_49 hR, ro_69_51 hR, ro_69_52 hR, ro_69_55 hR, ro_69_56 hR, ro_69_57 hR, ro_69_58 hR, ro_69_59 hR, ro_69_61 hR, ro_69_62 hR, ro_69_63 hR, ro_69_64 hR, ro_69_65 hR, ro_69_66 hR, sh_69, sh_70, sh_71, sh_72, sh_73, sh_74, sh_75, sh_76, sh_77, sh_78, sh_79, sh_80, sh_81, sh_82, sh_83, sh_84, sh_85, sh_86, sh_87, sh_88, sh_89, sh_90, sh_91, sh_92, sh_93, sh_94, sh_95, sh_96, sh_97, sh_98, sh_99, sh_100, sh_101, sh_102, sh_103, sh_104, sh_105, sh_106, sh_107, sh_108, sh_109, sh_110, sh_111, sh_112, sh_113, sh_114, sh_115, hl, hvw9, Nat.reduceLT, Nat.reduceAdd, Nat.reduceMul, ne_eq, Nat.reduceEqDiff, not_false_eq_true, or_true, true_or, or_false, false_or, and_true, true_and, and_self, Nat.reduceLeDiff, am_ci, am_cr, am_cn0, Option.toList_some, Option.toList_none, List.cons_append, List.nil_append, am_s0, am_s1, am_s1r, am_s2, am_s2r, am_s3r, nI_add, am_u_ne, am_u_at, am_u_n1, am_u_n2, am_w_ne, ↓reduceIte, h1]
    simpa [bI] using this
  | succ rem ih =>
    intro made w J l4 hm hgo hJ hp e15 e16 e17 n4
    have h1 : ¬ nI ln ≤ nI made := nI_ge (by omega) (by omega)
    have HJ := H.ag hJ
    have p7 : 0 < 7 ^ rem := Nat.pow_pos (by omega)
    have p7' := pow7 (k := rem) (by omega)
    have hw5 : way < 16807 := hway
    have dle : way / 7 ^ rem ≤ way := Nat.div_le_self _ _
    have e1 : nI ln - nI 1 = nI (ln - 1) := pk_sub (by omega)
    have e2 : nI (ln - 1) - nI made = nI rem := by rw [pk_sub (by omega)]; exact congrArg nI (by omega)
    have z1 : ¬ nI (7 ^ rem) = 0 := nI_ne0 p7 (by omega)
    have z7 : ¬ nI 7 = 0 := by decide
    have d1 : nI way / nI (7 ^ rem) = nI (way / 7 ^ rem) := pk_div (by omega) p7 (by omega)
    have r1 : nI (way / 7 ^ rem) - nI (way / 7 ^ rem) / nI 7 * nI 7 = nI (way / 7 ^ rem % 7) := pk_rem (by omega) (by omega) (by omega)
    have s7 : way / 7 ^ rem % 7 < 7 := Nat.mod_lt _ (by omega)
    rw [plW] at hgo
    rw [rX13_isPlayed_6]
    simp only [am_lv_of, rX13_isPlayed_7, rX13_isPlayed_8, rX13_isPlayed_11, rX13_isPlayed_12, rX13_isPlayed_13, rX13_isPlayed_14, rX13_isPlayed_15, rX13_isPlayed_16, rX13_isPlayed_17, rX13_isPlayed_20, rX13_isPlayed_21, rX13_isPlayed_23, rX13_isPlayed_24, rX13_isPlayed_26, rX13_isPlayed_27, rX13_isPlayed_29, ro_69_1 hR, ro_69_3 hR, ro_69_5 hR, ro_69_6 hR, ro_69_7 hR, ro_69_8 hR, ro_69_9 hR, ro_69_21 hR, ro_69_22 hR, ro_69_23 hR, ro_69_24 hR, ro_69_25 hR, ro_69_26 hR, ro_69_27 hR, ro_69_28 hR, ro_69_29 hR, ro_69_30 hR, ro_69_31 hR, ro_69_32 hR, ro_69_33 hR, ro_69_34 hR, ro_69_35 hR, ro_69_36 hR, ro_69_38 hR, ro_69_39 hR, ro_69_40 hR, ro_69_41 hR, ro_69_42 hR, ro_69_44 hR, ro_69_45 hR, ro_69_46 hR, ro_69_48 hR, ro_69_49 hR, ro_69_51 hR, ro_69_52 hR, ro_69_55 hR, ro_69_56 hR, ro_69_57 hR, ro_69_58 hR, ro_69_59 hR, ro_69_61 hR, ro_69_62 hR, ro_69_63 hR, ro_69_64 hR, ro_69_65 hR, ro_69_66 hR, sh_69, sh_70, sh_71, sh_72, sh_73, sh_74, sh_75, sh_76, sh_77, sh_78, sh_79, sh_80, sh_81, sh_82, sh_83, sh_84, sh_85, sh_86, sh_87, sh_88, sh_89, sh_90, sh_91, sh_92, sh_93, sh_94, sh_95, sh_96, sh_97, sh_98, sh_99, sh_100, sh_101, sh_102, sh_103, sh_104, sh_105, sh_106, sh_107, sh_108, sh_109, sh_110, sh_111, sh_112, sh_113, sh_114, sh_115, hl, hvw9, Nat.reduceLT, Nat.reduceAdd, Nat.reduceMul, ne_eq, Nat.reduceEqDiff, not_false_eq_true, or_true, true_or, or_false, false_or, and_true, true_and, and_self, Nat.reduceLeDiff, am_ci, am_cr, am_cn0, Option.toList_some, Option.toList_none, List.cons_append, List.nil_append, am_s0, am_s1, am_s1r, am_s2, am_s2r, am_s3r, nI_add, am_u_ne, am_u_at, am_u_n1, am_u_n2, am_w_ne, ↓reduceIte, h1, e1, e2, c_sevens (show rem < 2 ^ 30 by omega), z1, z7, d1, r1, n4, c_isString hR hN HJ, isN_nI (show p_S σ ≤ 1000 by omega) (show way / 7 ^ rem % 7 ≤ 1000 by omega), rX13_isPlayed_32, bI_ne]
    generalize way / 7 ^ rem % 7 = s at hgo s7 ⊢
    have no : ∀ {J' : Nat → Nat → Int32}, am_ag sc2 I J' → ¬ (s < p_S σ ∧ pvz σ v0 pl made w = true ∧ pmay σ b pl made w s = true) → Q (some (.int (nI 0))) (n, J', L, R) := fun hJ' hno => by
      rw [if_neg hno] at hgo
      have := hQ _ hJ' (fun w' hw' => by rw [hgo] at hw'; cases hw')
      rw [hgo] at this
      simpa [bI] using this
    by_cases hs : s < p_S σ
    · simp only [am_lv_of, decide_eq_true hs, Bool.true_eq_false, ↓reduceIte, rX13_isPlayed_35, rX13_isPlayed_36, rX13_isPlayed_38, ro_69_1 hR, ro_69_3 hR, ro_69_5 hR, ro_69_6 hR, ro_69_7 hR, ro_69_8 hR, ro_69_9 hR, ro_69_21 hR, ro_69_22 hR, ro_69_23 hR, ro_69_24 hR, ro_69_25 hR, ro_69_26 hR, ro_69_27 hR, ro_69_28 hR, ro_69_29 hR, ro_69_30 hR, ro_69_31 hR, ro_69_32 hR, ro_69_33 hR, ro_69_34 hR, ro_69_35 hR, ro_69_36 hR, ro_69_38 hR, ro_69_39 hR, ro_69_40 hR, ro_69_41 hR, ro_69_42 hR, ro_69_44 hR, ro_69_45 hR, ro_69_46 hR, ro_69_48 hR, ro_69_49 hR, ro_69_51 hR, ro_69_52 hR, ro_69_55 hR, ro_69_56 hR, ro_69_57 hR, ro_69_58 hR, ro_69_59 hR, ro_69_61 hR, ro_69_62 hR, ro_69_63 hR, ro_69_64 hR, ro_69_65 hR, ro_69_66 hR, sh_69, sh_70, sh_71, sh_72, sh_73, sh_74, sh_75, sh_76, sh_77, sh_78, sh_79, sh_80, sh_81, sh_82, sh_83, sh_84, sh_85, sh_86, sh_87, sh_88, sh_89, sh_90, sh_91, sh_92, sh_93, sh_94, sh_95, sh_96, sh_97, sh_98, sh_99, sh_100, sh_101, sh_102, sh_103, sh_104, sh_105, sh_106, sh_107, sh_108, sh_109, sh_110, sh_111, sh_112, sh_113, sh_114, sh_115, hl, hvw9, Nat.reduceLT, Nat.reduceAdd, Nat.reduceMul, ne_eq, Nat.reduceEqDiff, not_false_eq_true, or_true, true_or, or_false, false_or, and_true, true_and, and_self, Nat.reduceLeDiff, am_ci, am_cr, am_cn0, Option.toList_some, Option.toList_none, List.cons_append, List.nil_append, am_s0, am_s1, am_s1r, am_s2, am_s2r, am_s3r, nI_add, am_u_ne, am_u_at, am_u_n1, am_u_n2, am_w_ne]
      refine c_mayNow hR hN hn HJ hs (fun J1 g1 => ?_)
      have emay : rMayN σ (J 104) s = (pvz σ v0 pl made w && pmay σ b pl made w s) := by
        unfold rMayN pvz pmay
        rw [hp.may ho hs, e15, e16, e17]
      have hJ1 : am_ag sc2 I J1 := hJ.trans (ag1_2 g1)
      simp only [am_lv_of, Option.toList_some, List.cons_append, List.nil_append, rX13_isPlayed_41, bI_ne, emay]
      by_cases hm2 : pvz σ v0 pl made w = true ∧ pmay σ b pl made w s = true
      · have hst := mayW_st ho hs hp.ok hm2.2
        have eb : (pvz σ v0 pl made w && pmay σ b pl made w s) = true := by rw [hm2.1, hm2.2]; rfl
        simp only [am_lv_of, eb, Bool.true_eq_false, not_false_eq_true, ↓reduceIte, rX13_isPlayed_46, rX13_isPlayed_47, rX13_isPlayed_49, ro_69_1 hR, ro_69_3 hR, ro_69_5 hR, ro_69_6 hR, ro_69_7 hR, ro_69_8 hR, ro_69_9 hR, ro_69_21 hR, ro_69_22 hR, ro_69_23 hR, ro_69_24 hR, ro_69_25 hR, ro_69_26 hR, ro_69_27 hR, ro_69_28 hR, ro_69_29 hR, ro_69_30 hR, ro_69_31 hR, ro_69_32 hR, ro_69_33 hR, ro_69_34 hR, ro_69_35 hR, ro_69_36 hR, ro_69_38 hR, ro_69_39 hR, ro_69_40 hR, ro_69_41 hR, ro_69_42 hR, ro_69_44 hR, ro_69_45 hR, ro_69_46 hR, ro_69_48 hR, ro_69_49 hR, ro_69_51 hR, ro_69_52 hR, ro_69_55 hR, ro_69_56 hR, ro_69_57 hR, ro_69_58 hR, ro_69_59 hR, ro_69_61 hR, ro_69_62 hR, ro_69_63 hR, ro_69_64 hR, ro_69_65 hR, ro_69_66 hR, sh_69, sh_70, sh_71, sh_72, sh_73, sh_74, sh_75, sh_76, sh_77, sh_78, sh_79, sh_80, sh_81, sh_82, sh_83, sh_84, sh_85, sh_86, sh_87, sh_88, sh_89, sh_90, sh_91, sh_92, sh_93, sh_94, sh_95, sh_96, sh_97, sh_98, sh_99, sh_100, sh_101, sh_102, sh_103, sh_104, sh_105, sh_106, sh_107, sh_108, sh_109, sh_110, sh_111, sh_112, sh_113, sh_114, sh_115, hl, hvw9, Nat.reduceLT, Nat.reduceAdd, Nat.reduceMul, ne_eq, Nat.reduceEqDiff, not_false_eq_true, or_true, true_or, or_false, false_or, and_true, true_and, and_self, Nat.reduceLeDiff, am_ci, am_cr, am_cn0, Option.toList_some, Option.toList_none, List.cons_append, List.nil_append, am_s0, am_s1, am_s1r, am_s2, am_s2r, am_s3r, nI_add, am_u_ne, am_u_at, am_u_n1, am_u_n2, am_w_ne]
        refine c_plays hR hN hn (H.ag hJ1) hs (fun J2 g2 e104 _ => ?_)
        have e1 := ag1_104 g1
        rw [e1] at e104
        obtain ⟨y1, y2, y3, y4⟩ := rPl_psr ho hs hp hst
        rw [← e104] at y1 y2 y3 y4
        simp only [am_lv_of, Option.toList_none, List.nil_append, rX13_isPlayed_52, rX13_isPlayed_55, ro_69_1 hR, ro_69_3 hR, ro_69_5 hR, ro_69_6 hR, ro_69_7 hR, ro_69_8 hR, ro_69_9 hR, ro_69_21 hR, ro_69_22 hR, ro_69_23 hR, ro_69_24 hR, ro_69_25 hR, ro_69_26 hR, ro_69_27 hR, ro_69_28 hR, ro_69_29 hR, ro_69_30 hR, ro_69_31 hR, ro_69_32 hR, ro_69_33 hR, ro_69_34 hR, ro_69_35 hR, ro_69_36 hR, ro_69_38 hR, ro_69_39 hR, ro_69_40 hR, ro_69_41 hR, ro_69_42 hR, ro_69_44 hR, ro_69_45 hR, ro_69_46 hR, ro_69_48 hR, ro_69_49 hR, ro_69_51 hR, ro_69_52 hR, ro_69_55 hR, ro_69_56 hR, ro_69_57 hR, ro_69_58 hR, ro_69_59 hR, ro_69_61 hR, ro_69_62 hR, ro_69_63 hR, ro_69_64 hR, ro_69_65 hR, ro_69_66 hR, sh_69, sh_70, sh_71, sh_72, sh_73, sh_74, sh_75, sh_76, sh_77, sh_78, sh_79, sh_80, sh_81, sh_82, sh_83, sh_84, sh_85, sh_86, sh_87, sh_88, sh_89, sh_90, sh_91, sh_92, sh_93, sh_94, sh_95, sh_96, sh_97, sh_98, sh_99, sh_100, sh_101, sh_102, sh_103, sh_104, sh_105, sh_106, sh_107, sh_108, sh_109, sh_110, sh_111, sh_112, sh_113, sh_114, sh_115, hl, hvw9, Nat.reduceLT, Nat.reduceAdd, Nat.reduceMul, ne_eq, Nat.reduceEqDiff, not_false_eq_true, or_true, true_or, or_false, false_or, and_true, true_and, and_self, Nat.reduceLeDiff, am_ci, am_cr, am_cn0, Option.toList_some, Option.toList_none, List.cons_append, List.nil_append, am_s0, am_s1, am_s1r, am_s2, am_s2r, am_s3r, nI_add, am_u_ne, am_u_at, am_u_n1, am_u_n2, am_w_ne]
        rw [if_pos ⟨hs, hm2⟩] at hgo
        refine ih (made + 1) (cMv σ w s) J2 _ (by omega) hgo (hJ1.trans g2) y1 ?_ ?_ ?_ am_ci
        · rw [y2, e15]; exact sd_step hb
        · rw [y3, e16, Int32.add_assoc, nI_add]
        · rw [y4, e16, Int32.add_assoc, nI_add]; rfl
      · have eb : (pvz σ v0 pl made w && pmay σ b pl made w s) = false := by
          rw [Bool.and_eq_false_iff]
          by_cases hx : pvz σ v0 pl made w = true
          · exact Or.inr (by have := fun z => hm2 ⟨hx, z⟩; simpa using this)
          · exact Or.inl (by simpa using hx)
        simp only [am_lv_of, eb, not_true_eq_false, ↓reduceIte, rX13_isPlayed_44, rX13_isPlayed_45, rX13_isPlayed_45_0, rX13_isPlayed_45_1, ro_69_1 hR, ro_69_3 hR, ro_69_5 hR, ro_69_6 hR, ro_69_7 hR, ro_69_8 hR, ro_69_9 hR, ro_69_21 hR, ro_69_22 hR, ro_69_23 hR, ro_69_24 hR, ro_69_25 hR, ro_69_26 hR, ro_69_27 hR, ro_69_28 hR, ro_69_29 hR, ro_69_30 hR, ro_69_31 hR, ro_69_32 hR, ro_69_33 hR, ro_69_34 hR, ro_69_35 hR, ro_69_36 hR, ro_69_38 hR, ro_69_39 hR, ro_69_40 hR, ro_69_41 hR, ro_69_42 hR, ro_69_44 hR, ro_69_45 hR, ro_69_46 hR, ro_69_48 hR, ro_69_49 hR, ro_69_51 hR, ro_69_52 hR, ro_69_55 hR, ro_69_56 hR, ro_69_57 hR, ro_69_58 hR, ro_69_59 hR, ro_69_61 hR, ro_69_62 hR, ro_69_63 hR, ro_69_64 hR, ro_69_65 hR, ro_69_66 hR, sh_69, sh_70, sh_71, sh_72, sh_73, sh_74, sh_75, sh_76, sh_77, sh_78, sh_79, sh_80, sh_81, sh_82, sh_83, sh_84, sh_85, sh_86, sh_87, sh_88, sh_89, sh_90, sh_91, sh_92, sh_93, sh_94, sh_95, sh_96, sh_97, sh_98, sh_99, sh_100, sh_101, sh_102, sh_103, sh_104, sh_105, sh_106, sh_107, sh_108, sh_109, sh_110, sh_111, sh_112, sh_113, sh_114, sh_115, hl, hvw9, Nat.reduceLT, Nat.reduceAdd, Nat.reduceMul, ne_eq, Nat.reduceEqDiff, not_false_eq_true, or_true, true_or, or_false, false_or, and_true, true_and, and_self, Nat.reduceLeDiff, am_ci, am_cr, am_cn0, Option.toList_some, Option.toList_none, List.cons_append, List.nil_append, am_s0, am_s1, am_s1r, am_s2, am_s2r, am_s3r, nI_add, am_u_ne, am_u_at, am_u_n1, am_u_n2, am_w_ne]
        exact no hJ1 (fun z => hm2 z.2)
    · simp only [am_lv_of, decide_eq_false hs, ↓reduceIte, rX13_isPlayed_44, rX13_isPlayed_45, rX13_isPlayed_45_0, rX13_isPlayed_45_1, ro_69_1 hR, ro_69_3 hR, ro_69_5 hR, ro_69_6 hR, ro_69_7 hR, ro_69_8 hR, ro_69_9 hR, ro_69_21 hR, ro_69_22 hR, ro_69_23 hR, ro_69_24 hR, ro_69_25 hR, ro_69_26 hR, ro_69_27 hR, ro_69_28 hR, ro_69_29 hR, ro_69_30 hR, ro_69_31 hR, ro_69_32 hR, ro_69_33 hR, ro_69_34 hR, ro_69_35 hR, ro_69_36 hR, ro_69_38 hR, ro_69_39 hR, ro_69_40 hR, ro_69_41 hR, ro_69_42 hR, ro_69_44 hR, ro_69_45 hR, ro_69_46 hR, ro_69_48 hR, ro_69_49 hR, ro_69_51 hR, ro_69_52 hR, ro_69_55 hR, ro_69_56 hR, ro_69_57 hR, ro_69_58 hR, ro_69_59 hR, ro_69_61 hR, ro_69_62 hR, ro_69_63 hR, ro_69_64 hR, ro_69_65 hR, ro_69_66 hR, sh_69, sh_70, sh_71, sh_72, sh_73, sh_74, sh_75, sh_76, sh_77, sh_78, sh_79, sh_80, sh_81, sh_82, sh_83, sh_84, sh_85, sh_86, sh_87, sh_88, sh_89, sh_90, sh_91, sh_92, sh_93, sh_94, sh_95, sh_96, sh_97, sh_98, sh_99, sh_100, sh_101, sh_102, sh_103, sh_104, sh_105, sh_106, sh_107, sh_108, sh_109, sh_110, sh_111, sh_112, sh_113, sh_114, sh_115, hl, hvw9, Nat.reduceLT, Nat.reduceAdd, Nat.reduceMul, ne_eq, Nat.reduceEqDiff, not_false_eq_true, or_true, true_or, or_false, false_or, and_true, true_and, and_self, Nat.reduceLeDiff, am_ci, am_cr, am_cn0, Option.toList_some, Option.toList_none, List.cons_append, List.nil_append, am_s0, am_s1, am_s1r, am_s2, am_s2r, am_s3r, nI_add, am_u_ne, am_u_at, am_u_n1, am_u_n2, am_w_ne]
      exact no hJ (fun z => hs z.1)
/-- the row of now, as the plays see it -/
def nowR (I : Nat → Nat → Int32) (σ : rfP) (w0 b : Nat) (pl v0 : Int32) : Prop := psr w0 (p_P σ) (I 103) ∧ I 103 15 = nI b ∧ b < 2 ∧ I 103 16 = pl ∧ I 103 17 = v0
theorem nowR.ag {J : Nat → Nat → Int32} {w0 b : Nat} {pl v0 : Int32} (h : nowR I σ w0 b pl v0) (g : am_ag sc2 I J) : nowR J σ w0 b pl v0 := by
  have e : J 103 = I 103 := funext fun j => g 103 j (by unfold sc2 sc1; omega)
  unfold nowR
  rw [e]
  exact h
theorem c_isPlayed {way ln w0 b : Nat} {pl v0 : Int32} (hR : am_OR R) (hN : 116 ≤ n) (hn : n ≤ 1000) (ho : ok_S σ) (H : rf_S I σ) (hw : nowR I σ w0 b pl v0) (hln : ln ≤ 5) (hway : way < 7 ^ 5) (hQ : ∀ I', am_ag sc2 I I' → (∀ x, okL σ b pl v0 w0 ln way = some x → psr x (p_P σ) (I' 104) ∧ I' 104 17 = vdL σ v0 pl ln x) → Q (some (.int (bI (okL σ b pl v0 w0 ln way).isSome))) (n, I', L, R)) : am_E X (d + 7) mX13_isPlayed 0 [some (.ref 69), some (.int (nI way)), some (.int (nI ln)), none, none] [] (n, I, L, R) Q := by
  have hl := am_lt hN
  have hvw9 := am_lw hN
  obtain ⟨h1, h2, hb, h3, h4⟩ := hw
  simp only [am_lv_of, rX13_isPlayed_0, rX13_isPlayed_1, ro_69_1 hR, ro_69_3 hR, ro_69_5 hR, ro_69_6 hR, ro_69_7 hR, ro_69_8 hR, ro_69_9 hR, ro_69_21 hR, ro_69_22 hR, ro_69_23 hR, ro_69_24 hR, ro_69_25 hR, ro_69_26 hR, ro_69_27 hR, ro_69_28 hR, ro_69_29 hR, ro_69_30 hR, ro_69_31 hR, ro_69_32 hR, ro_69_33 hR, ro_69_34 hR, ro_69_35 hR, ro_69_36 hR, ro_69_38 hR, ro_69_39 hR, ro_69_40 hR, ro_69_41 hR, ro_69_42 hR, ro_69_44 hR, ro_69_45 hR, ro_69_46 hR, ro_69_48 hR, ro_69_49 hR, ro_69_51 hR, ro_69_52 hR, ro_69_55 hR, ro_69_56 hR, ro_69_57 hR, ro_69_58 hR, ro_69_59 hR, ro_69_61 hR, ro_69_62 hR, ro_69_63 hR, ro_69_64 hR, ro_69_65 hR, ro_69_66 hR, sh_69, sh_70, sh_71, sh_72, sh_73, sh_74, sh_75, sh_76, sh_77, sh_78, sh_79, sh_80, sh_81, sh_82, sh_83, sh_84, sh_85, sh_86, sh_87, sh_88, sh_89, sh_90, sh_91, sh_92, sh_93, sh_94, sh_95, sh_96, sh_97, sh_98, sh_99, sh_100, sh_101, sh_102, sh_103, sh_104, sh_105, sh_106, sh_107, sh_108, sh_109, sh_110, sh_111, sh_112, sh_113, sh_114, sh_115, hl, hvw9, Nat.reduceLT, Nat.reduceAdd, Nat.reduceMul, ne_eq, Nat.reduceEqDiff, not_false_eq_true, or_true, true_or, or_false, false_or, and_true, true_and, and_self, Nat.reduceLeDiff, am_ci, am_cr, am_cn0, Option.toList_some, Option.toList_none, List.cons_append, List.nil_append, am_s0, am_s1, am_s1r, am_s2, am_s2r, am_s3r, nI_add, am_u_ne, am_u_at, am_u_n1, am_u_n2, am_w_ne]
  refine c_copies hR hN hn H (fun I2 g2 g3 g4 => ?_)
  have g2' : am_ag sc2 I I2 := g2.mono (fun k j z => by unfold sc2; omega)
  simp only [am_lv_of, Option.toList_none, List.nil_append, rX13_isPlayed_4, rX13_isPlayed_5, ro_69_1 hR, ro_69_3 hR, ro_69_5 hR, ro_69_6 hR, ro_69_7 hR, ro_69_8 hR, ro_69_9 hR, ro_69_21 hR, ro_69_22 hR, ro_69_23 hR, ro_69_24 hR, ro_69_25 hR, ro_69_26 hR, ro_69_27 hR, ro_69_28 hR, ro_69_29 hR, ro_69_30 hR, ro_69_31 hR, ro_69_32 hR, ro_69_33 hR, ro_69_34 hR, ro_69_35 hR, ro_69_36 hR, ro_69_38 hR, ro_69_39 hR, ro_69_40 hR, ro_69_41 hR, ro_69_42 hR, ro_69_44 hR, ro_69_45 hR, ro_69_46 hR, ro_69_48 hR, ro_69_49 hR, ro_69_51 hR, ro_69_52 hR, ro_69_55 hR, ro_69_56 hR, ro_69_57 hR, ro_69_58 hR, ro_69_59 hR, ro_69_61 hR, ro_69_62 hR, ro_69_63 hR, ro_69_64 hR, ro_69_65 hR, ro_69_66 hR, sh_69, sh_70, sh_71, sh_72, sh_73, sh_74, sh_75, sh_76, sh_77, sh_78, sh_79, sh_80, sh_81, sh_82, sh_83, sh_84, sh_85, sh_86, sh_87, sh_88, sh_89, sh_90, sh_91, sh_92, sh_93, sh_94, sh_95, sh_96, sh_97, sh_98, sh_99, sh_100, sh_101, sh_102, sh_103, sh_104, sh_105, sh_106, sh_107, sh_108, sh_109, sh_110, sh_111, sh_112, sh_113, sh_114, sh_115, hl, hvw9, Nat.reduceLT, Nat.reduceAdd, Nat.reduceMul, ne_eq, Nat.reduceEqDiff, not_false_eq_true, or_true, true_or, or_false, false_or, and_true, true_and, and_self, Nat.reduceLeDiff, am_ci, am_cr, am_cn0, Option.toList_some, Option.toList_none, List.cons_append, List.nil_append, am_s0, am_s1, am_s1r, am_s2, am_s2r, am_s3r, nI_add, am_u_ne, am_u_at, am_u_n1, am_u_n2, am_w_ne]
  refine l_isPl (w0 := w0) (b := b) (pl := pl) (v0 := v0) hR hN hn ho (H.ag g2') hb hln hway (fun I' g => hQ I' (g2'.trans g)) ln 0 w0 I2 none (by omega) rfl am_ag.refl (h1.mv' (fun j hj => g3 j (by omega))) ?_ ?_ ?_ am_cn0
  · rw [g3 15 (by omega), h2]
    unfold sdN
    exact congrArg nI (by omega)
  · rw [g3 16 (by omega), h3]
    show pl = pl + (0 : Int32)
    rw [Int32.add_zero]
  · rw [g3 17 (by omega), h4]; rfl
theorem p7_le {ln way : Nat} (hln : ln ≤ 5) (h : way < 7 ^ ln) : way < 7 ^ 5 := Nat.lt_of_lt_of_le h (Nat.pow_le_pow_right (by omega) hln)
theorem l_shSkip {ln w0 b : Nat} {pl v0 v : Int32} {l2 : Option Value} (hR : am_OR R) (hN : 116 ≤ n) (hn : n ≤ 1000) (ho : ok_S σ) (H : rf_S I σ) (hw : nowR I σ w0 b pl v0) (hln : ln ≤ 5) : ∀ (m t : Nat) (J : Nat → Nat → Int32), t + m ≤ 7 ^ ln → noG (okL σ b pl v0 w0 ln) (glV σ 0 0 v v0 pl ln) (t + m) → am_ag sc2 I J → (∀ I', am_ag sc2 I I' → am_E X (d + 8) mX13_shortest 30 [some (.ref 69), some (.int v), l2, some (.int (nI ln)), some (.int (nI (t + m)))] [] (n, I', L, R) Q) → am_E X (d + 8) mX13_shortest 30 [some (.ref 69), some (.int v), l2, some (.int (nI ln)), some (.int (nI t))] [] (n, J, L, R) Q := by
  have hl := am_lt hN
  have hvw9 := am_lw hN
  intro m
  induction m with
  | zero => intro t J _ _ hJ hQ; exact hQ J hJ
  | succ m ih =>
    intro t J ht hg hJ hQ
    have p7' := pow7 (k := ln) hln
    have h1 : ¬ nI (7 ^ ln) ≤ nI t := nI_ge (by omega) (by omega)
    rw [rX13_shortest_30]
    simp only [am_lv_of, rX13_shortest_32, rX13_shortest_33, rX13_shortest_36, rX13_shortest_39, rX13_shortest_40, rX13_shortest_42, rX13_shortest_43, ro_69_1 hR, ro_69_3 hR, ro_69_5 hR, ro_69_6 hR, ro_69_7 hR, ro_69_8 hR, ro_69_9 hR, ro_69_21 hR, ro_69_22 hR, ro_69_23 hR, ro_69_24 hR, ro_69_25 hR, ro_69_26 hR, ro_69_27 hR, ro_69_28 hR, ro_69_29 hR, ro_69_30 hR, ro_69_31 hR, ro_69_32 hR, ro_69_33 hR, ro_69_34 hR, ro_69_35 hR, ro_69_36 hR, ro_69_38 hR, ro_69_39 hR, ro_69_40 hR, ro_69_41 hR, ro_69_42 hR, ro_69_44 hR, ro_69_45 hR, ro_69_46 hR, ro_69_48 hR, ro_69_49 hR, ro_69_51 hR, ro_69_52 hR, ro_69_55 hR, ro_69_56 hR, ro_69_57 hR, ro_69_58 hR, ro_69_59 hR, ro_69_61 hR, ro_69_62 hR, ro_69_63 hR, ro_69_64 hR, ro_69_65 hR, ro_69_66 hR, sh_69, sh_70, sh_71, sh_72, sh_73, sh_74, sh_75, sh_76, sh_77, sh_78, sh_79, sh_80, sh_81, sh_82, sh_83, sh_84, sh_85, sh_86, sh_87, sh_88, sh_89, sh_90, sh_91, sh_92, sh_93, sh_94, sh_95, sh_96, sh_97, sh_98, sh_99, sh_100, sh_101, sh_102, sh_103, sh_104, sh_105, sh_106, sh_107, sh_108, sh_109, sh_110, sh_111, sh_112, sh_113, sh_114, sh_115, hl, hvw9, Nat.reduceLT, Nat.reduceAdd, Nat.reduceMul, ne_eq, Nat.reduceEqDiff, not_false_eq_true, or_true, true_or, or_false, false_or, and_true, true_and, and_self, Nat.reduceLeDiff, am_ci, am_cr, am_cn0, Option.toList_some, Option.toList_none, List.cons_append, List.nil_append, am_s0, am_s1, am_s1r, am_s2, am_s2r, am_s3r, nI_add, am_u_ne, am_u_at, am_u_n1, am_u_n2, am_w_ne, ↓reduceIte, h1, c_sevens (show ln < 2 ^ 30 by omega)]
    refine c_isPlayed hR hN hn ho (H.ag hJ) (hw.ag hJ) hln (p7_le hln (by omega)) (fun J1 g1 hx => ?_)
    have hJ1 := hJ.trans g1
    have go : am_E X (d + 8) mX13_shortest 78 [some (.ref 69), some (.int v), l2, some (.int (nI ln)), some (.int (nI t))] [] (n, J1, L, R) Q := by
      simp only [am_lv_of, rX13_shortest_78, rX13_shortest_81, ro_69_1 hR, ro_69_3 hR, ro_69_5 hR, ro_69_6 hR, ro_69_7 hR, ro_69_8 hR, ro_69_9 hR, ro_69_21 hR, ro_69_22 hR, ro_69_23 hR, ro_69_24 hR, ro_69_25 hR, ro_69_26 hR, ro_69_27 hR, ro_69_28 hR, ro_69_29 hR, ro_69_30 hR, ro_69_31 hR, ro_69_32 hR, ro_69_33 hR, ro_69_34 hR, ro_69_35 hR, ro_69_36 hR, ro_69_38 hR, ro_69_39 hR, ro_69_40 hR, ro_69_41 hR, ro_69_42 hR, ro_69_44 hR, ro_69_45 hR, ro_69_46 hR, ro_69_48 hR, ro_69_49 hR, ro_69_51 hR, ro_69_52 hR, ro_69_55 hR, ro_69_56 hR, ro_69_57 hR, ro_69_58 hR, ro_69_59 hR, ro_69_61 hR, ro_69_62 hR, ro_69_63 hR, ro_69_64 hR, ro_69_65 hR, ro_69_66 hR, sh_69, sh_70, sh_71, sh_72, sh_73, sh_74, sh_75, sh_76, sh_77, sh_78, sh_79, sh_80, sh_81, sh_82, sh_83, sh_84, sh_85, sh_86, sh_87, sh_88, sh_89, sh_90, sh_91, sh_92, sh_93, sh_94, sh_95, sh_96, sh_97, sh_98, sh_99, sh_100, sh_101, sh_102, sh_103, sh_104, sh_105, sh_106, sh_107, sh_108, sh_109, sh_110, sh_111, sh_112, sh_113, sh_114, sh_115, hl, hvw9, Nat.reduceLT, Nat.reduceAdd, Nat.reduceMul, ne_eq, Nat.reduceEqDiff, not_false_eq_true, or_true, true_or, or_false, false_or, and_true, true_and, and_self, Nat.reduceLeDiff, am_ci, am_cr, am_cn0, Option.toList_some, Option.toList_none, List.cons_append, List.nil_append, am_s0, am_s1, am_s1r, am_s2, am_s2r, am_s3r, nI_add, am_u_ne, am_u_at, am_u_n1, am_u_n2, am_w_ne]
      exact ih (t + 1) J1 (by omega) (by rw [show t + 1 + m = t + (m + 1) by omega]; exact hg) hJ1 (by rw [show t + 1 + m = t + (m + 1) by omega]; exact hQ)
    simp only [am_lv_of, Option.toList_some, List.cons_append, List.nil_append, rX13_shortest_46, bI_ne]
    cases hok : okL σ b pl v0 w0 ln t with
    | none =>
      simp only [Option.isSome_none, ↓reduceIte]
      exact go
    | some x =>
      have e17 := (hx x hok).2
      have hne : ¬ J1 104 17 = v := by
        rw [e17]
        have := hg t (by omega) x hok
        exact of_decide_eq_false this
      simp only [am_lv_of, Option.isSome_some, Bool.true_eq_false, ↓reduceIte, rX13_shortest_49, rX13_shortest_50, rX13_shortest_53, rX13_shortest_55, rX13_shortest_56, rX13_shortest_57, ro_69_1 hR, ro_69_3 hR, ro_69_5 hR, ro_69_6 hR, ro_69_7 hR, ro_69_8 hR, ro_69_9 hR, ro_69_21 hR, ro_69_22 hR, ro_69_23 hR, ro_69_24 hR, ro_69_25 hR, ro_69_26 hR, ro_69_27 hR, ro_69_28 hR, ro_69_29 hR, ro_69_30 hR, ro_69_31 hR, ro_69_32 hR, ro_69_33 hR, ro_69_34 hR, ro_69_35 hR, ro_69_36 hR, ro_69_38 hR, ro_69_39 hR, ro_69_40 hR, ro_69_41 hR, ro_69_42 hR, ro_69_44 hR, ro_69_45 hR, ro_69_46 hR, ro_69_48 hR, ro_69_49 hR, ro_69_51 hR, ro_69_52 hR, ro_69_55 hR, ro_69_56 hR, ro_69_57 hR, ro_69_58 hR, ro_69_59 hR, ro_69_61 hR, ro_69_62 hR, ro_69_63 hR, ro_69_64 hR, ro_69_65 hR, ro_69_66 hR, sh_69, sh_70, sh_71, sh_72, sh_73, sh_74, sh_75, sh_76, sh_77, sh_78, sh_79, sh_80, sh_81, sh_82, sh_83, sh_84, sh_85, sh_86, sh_87, sh_88, sh_89, sh_90, sh_91, sh_92, sh_93, sh_94, sh_95, sh_96, sh_97, sh_98, sh_99, sh_100, sh_101, sh_102, sh_103, sh_104, sh_105, sh_106, sh_107, sh_108, sh_109, sh_110, sh_111, sh_112, sh_113, sh_114, sh_115, hl, hvw9, Nat.reduceLT, Nat.reduceAdd, Nat.reduceMul, ne_eq, Nat.reduceEqDiff, not_false_eq_true, or_true, true_or, or_false, false_or, and_true, true_and, and_self, Nat.reduceLeDiff, am_ci, am_cr, am_cn0, Option.toList_some, Option.toList_none, List.cons_append, List.nil_append, am_s0, am_s1, am_s1r, am_s2, am_s2r, am_s3r, nI_add, am_u_ne, am_u_at, am_u_n1, am_u_n2, am_w_ne, hne, not_false_eq_true]
      exact go
theorem l_shR {w0 b : Nat} {pl v0 v res fst : Int32} {q : Nat} (hR : am_OR R) (hN : 116 ≤ n) (hn : n ≤ 1000) (ho : ok_S σ) (H : rf_S I σ) (hw : nowR I σ w0 b pl v0) (hq : q ≤ 1) (hf : (∃ m t x, m < 5 ∧ t < 7 ^ (m + 1) ∧ (∀ m', m' < m → noG (okL σ b pl v0 w0 (m' + 1)) (glV σ 0 0 v v0 pl (m' + 1)) (7 ^ (m' + 1))) ∧ noG (okL σ b pl v0 w0 (m + 1)) (glV σ 0 0 v v0 pl (m + 1)) t ∧ okL σ b pl v0 w0 (m + 1) t = some x ∧ glV σ 0 0 v v0 pl (m + 1) x = true ∧ res = nI (m + 1) ∧ fst = nI (t / 7 ^ m % 7)) ∨ ((∀ m', m' < 5 → noG (okL σ b pl v0 w0 (m' + 1)) (glV σ 0 0 v v0 pl (m' + 1)) (7 ^ (m' + 1))) ∧ res = -2))
    (hQ : ∀ I', am_ag sc2 I I' → Q (some (.int (if q = 0 ∨ res = -2 then res else fst))) (n, I', L, R)) : ∀ (k ln : Nat) (J : Nat → Nat → Int32) (l4 : Option Value), ln + k = 5 → (∀ m t x, m < 5 → t < 7 ^ (m + 1) → okL σ b pl v0 w0 (m + 1) t = some x → glV σ 0 0 v v0 pl (m + 1) x = true → ln ≤ m) → am_ag sc2 I J → am_nl l4 → am_E X (d + 8) mX13_shortest 22 [some (.ref 69), some (.int v), some (.int (nI q)), some (.int (nI (ln + 1))), l4] [] (n, J, L, R) Q := by
  have hl := am_lt hN
  have hvw9 := am_lw hN
  intro k
  induction k with
  | zero =>
    intro ln J l4 hk hno hJ n4
    have hk : ln = 5 := by omega
    subst hk
    have h1 : nI 5 < nI (5 + 1) := by decide
    have := hQ J hJ
    rcases hf with ⟨m, t, x, m1, m2, m3, m4, m5, m6, -⟩ | ⟨-, rfl⟩
    · have := hno m t x m1 m2 m5 m6
      omega
    · rw [if_pos (Or.inr rfl)] at this
      simp only [am_lv_of, rX13_shortest_22, rX13_shortest_23, rX13_shortest_24, rX13_shortest_90, rX13_shortest_92, ro_69_1 hR, ro_69_3 hR, ro_69_5 hR, ro_69_6 hR, ro_69_7 hR, ro_69_8 hR, ro_69_9 hR, ro_69_21 hR, ro_69_22 hR, ro_69_23 hR, ro_69_24 hR, ro_69_25 hR, ro_69_26 hR, ro_69_27 hR, ro_69_28 hR, ro_69_29 hR, ro_69_30 hR, ro_69_31 hR, ro_69_32 hR, ro_69_33 hR, ro_69_34 hR, ro_69_35 hR, ro_69_36 hR, ro_69_38 hR, ro_69_39 hR, ro_69_40 hR, ro_69_41 hR, ro_69_42 hR, ro_69_44 hR, ro_69_45 hR, ro_69_46 hR, ro_69_48 hR, ro_69_49 hR, ro_69_51 hR, ro_69_52 hR, ro_69_55 hR, ro_69_56 hR, ro_69_57 hR, ro_69_58 hR, ro_69_59 hR, ro_69_61 hR, ro_69_62 hR, ro_69_63 hR, ro_69_64 hR, ro_69_65 hR, ro_69_66 hR, sh_69, sh_70, sh_71, sh_72, sh_73, sh_74, sh_75, sh_76, sh_77, sh_78, sh_79, sh_80, sh_81, sh_82, sh_83, sh_84, sh_85, sh_86, sh_87, sh_88, sh_89, sh_90, sh_91, sh_92, sh_93, sh_94, sh_95, sh_96, sh_97, sh_98, sh_99, sh_100, sh_101, sh_102, sh_103, sh_104, sh_105, sh_106, sh_107, sh_108, sh_109, sh_110, sh_111, sh_112, sh_113, sh_114, sh_115, hl, hvw9, Nat.reduceLT, Nat.reduceAdd, Nat.reduceMul, ne_eq, Nat.reduceEqDiff, not_false_eq_true, or_true, true_or, or_false, false_or, and_true, true_and, and_self, Nat.reduceLeDiff, am_ci, am_cr, am_cn0, Option.toList_some, Option.toList_none, List.cons_append, List.nil_append, am_s0, am_s1, am_s1r, am_s2, am_s2r, am_s3r, nI_add, am_u_ne, am_u_at, am_u_n1, am_u_n2, am_w_ne, ↓reduceIte, h1]
      exact this
  | succ k ih =>
    intro ln J l4 hk hno hJ n4
    have h1 : ¬ nI 5 < nI (ln + 1) := fun z => by
      have := (nI_ltI (by omega) (by omega)).mp z
      omega
    have p7' := pow7 (k := ln + 1) (by omega)
    rw [rX13_shortest_22]
    simp only [am_lv_of, rX13_shortest_23, rX13_shortest_24, rX13_shortest_27, rX13_shortest_28, ro_69_1 hR, ro_69_3 hR, ro_69_5 hR, ro_69_6 hR, ro_69_7 hR, ro_69_8 hR, ro_69_9 hR, ro_69_21 hR, ro_69_22 hR, ro_69_23 hR, ro_69_24 hR, ro_69_25 hR, ro_69_26 hR, ro_69_27 hR, ro_69_28 hR, ro_69_29 hR, ro_69_30 hR, ro_69_31 hR, ro_69_32 hR, ro_69_33 hR, ro_69_34 hR, ro_69_35 hR, ro_69_36 hR, ro_69_38 hR, ro_69_39 hR, ro_69_40 hR, ro_69_41 hR, ro_69_42 hR, ro_69_44 hR, ro_69_45 hR, ro_69_46 hR, ro_69_48 hR, ro_69_49 hR, ro_69_51 hR, ro_69_52 hR, ro_69_55 hR, ro_69_56 hR, ro_69_57 hR, ro_69_58 hR, ro_69_59 hR, ro_69_61 hR, ro_69_62 hR, ro_69_63 hR, ro_69_64 hR, ro_69_65 hR, ro_69_66 hR, sh_69, sh_70, sh_71, sh_72, sh_73, sh_74, sh_75, sh_76, sh_77, sh_78, sh_79, sh_80, sh_81, sh_82, sh_83, sh_84, sh_85, sh_86, sh_87, sh_88, sh_89, sh_90, sh_91, sh_92, sh_93, sh_94, sh_95, sh_96, sh_97, sh_98, sh_99, sh_100, sh_101, sh_102, sh_103, sh_104, sh_105, sh_106, sh_107, sh_108, sh_109, sh_110, sh_111, sh_112, sh_113, sh_114, sh_115, hl, hvw9, Nat.reduceLT, Nat.reduceAdd, Nat.reduceMul, ne_eq, Nat.reduceEqDiff, not_false_eq_true, or_true, true_or, or_false, false_or, and_true, true_and, and_self, Nat.reduceLeDiff, am_ci, am_cr, am_cn0, Option.toList_some, Option.toList_none, List.cons_append, List.nil_append, am_s0, am_s1, am_s1r, am_s2, am_s2r, am_s3r, nI_add, am_u_ne, am_u_at, am_u_n1, am_u_n2, am_w_ne, ↓reduceIte, h1, n4]
    by_cases hall : noG (okL σ b pl v0 w0 (ln + 1)) (glV σ 0 0 v v0 pl (ln + 1)) (7 ^ (ln + 1))
    · refine l_shSkip (w0 := w0) (b := b) (pl := pl) (v0 := v0) hR hN hn ho H hw (by omega) (7 ^ (ln + 1)) 0 J (by omega) (by rw [Nat.zero_add]; exact hall) hJ (fun J1 g1 => ?_)
      rw [Nat.zero_add]
      have h2 : nI (7 ^ (ln + 1)) ≤ nI (7 ^ (ln + 1)) := nI_le (Nat.le_refl _) (by omega)
      simp only [am_lv_of, rX13_shortest_30, rX13_shortest_32, rX13_shortest_33, rX13_shortest_36, rX13_shortest_84, rX13_shortest_87, ro_69_1 hR, ro_69_3 hR, ro_69_5 hR, ro_69_6 hR, ro_69_7 hR, ro_69_8 hR, ro_69_9 hR, ro_69_21 hR, ro_69_22 hR, ro_69_23 hR, ro_69_24 hR, ro_69_25 hR, ro_69_26 hR, ro_69_27 hR, ro_69_28 hR, ro_69_29 hR, ro_69_30 hR, ro_69_31 hR, ro_69_32 hR, ro_69_33 hR, ro_69_34 hR, ro_69_35 hR, ro_69_36 hR, ro_69_38 hR, ro_69_39 hR, ro_69_40 hR, ro_69_41 hR, ro_69_42 hR, ro_69_44 hR, ro_69_45 hR, ro_69_46 hR, ro_69_48 hR, ro_69_49 hR, ro_69_51 hR, ro_69_52 hR, ro_69_55 hR, ro_69_56 hR, ro_69_57 hR, ro_69_58 hR, ro_69_59 hR, ro_69_61 hR, ro_69_62 hR, ro_69_63 hR, ro_69_64 hR, ro_69_65 hR, ro_69_66 hR, sh_69, sh_70, sh_71, sh_72, sh_73, sh_74, sh_75, sh_76, sh_77, sh_78, sh_79, sh_80, sh_81, sh_82, sh_83, sh_84, sh_85, sh_86, sh_87, sh_88, sh_89, sh_90, sh_91, sh_92, sh_93, sh_94, sh_95, sh_96, sh_97, sh_98, sh_99, sh_100, sh_101, sh_102, sh_103, sh_104, sh_105, sh_106, sh_107, sh_108, sh_109, sh_110, sh_111, sh_112, sh_113, sh_114, sh_115, hl, hvw9, Nat.reduceLT, Nat.reduceAdd, Nat.reduceMul, ne_eq, Nat.reduceEqDiff, not_false_eq_true, or_true, true_or, or_false, false_or, and_true, true_and, and_self, Nat.reduceLeDiff, am_ci, am_cr, am_cn0, Option.toList_some, Option.toList_none, List.cons_append, List.nil_append, am_s0, am_s1, am_s1r, am_s2, am_s2r, am_s3r, nI_add, am_u_ne, am_u_at, am_u_n1, am_u_n2, am_w_ne, ↓reduceIte, c_sevens (show ln + 1 < 2 ^ 30 by omega), h2]
      refine ih (ln + 1) J1 _ (by omega) (fun m t x m1 m2 m3 m4 => ?_) g1 am_ci
      have h3 := hno m t x m1 m2 m3 m4
      by_cases e : m = ln
      · subst e
        have := hall t m2 x m3
        rw [m4] at this
        cases this
      · omega
    · rcases hf with ⟨m, t, x, m1, m2, m3, m4, m5, m6, e1, e2⟩ | ⟨h, -⟩
      · have hm : m = ln := by
          have := hno m t x m1 m2 m5 m6
          by_cases e : ln < m
          · exact absurd (m3 ln e) hall
          · omega
        subst hm
        refine l_shSkip (w0 := w0) (b := b) (pl := pl) (v0 := v0) hR hN hn ho H hw (by omega) t 0 J (by omega) (by rw [Nat.zero_add]; exact m4) hJ (fun J1 g1 => ?_)
        rw [Nat.zero_add]
        have h2 : ¬ nI (7 ^ (m + 1)) ≤ nI t := nI_ge m2 (by omega)
        rw [rX13_shortest_30]
        simp only [am_lv_of, rX13_shortest_32, rX13_shortest_33, rX13_shortest_36, rX13_shortest_39, rX13_shortest_40, rX13_shortest_42, rX13_shortest_43, ro_69_1 hR, ro_69_3 hR, ro_69_5 hR, ro_69_6 hR, ro_69_7 hR, ro_69_8 hR, ro_69_9 hR, ro_69_21 hR, ro_69_22 hR, ro_69_23 hR, ro_69_24 hR, ro_69_25 hR, ro_69_26 hR, ro_69_27 hR, ro_69_28 hR, ro_69_29 hR, ro_69_30 hR, ro_69_31 hR, ro_69_32 hR, ro_69_33 hR, ro_69_34 hR, ro_69_35 hR, ro_69_36 hR, ro_69_38 hR, ro_69_39 hR, ro_69_40 hR, ro_69_41 hR, ro_69_42 hR, ro_69_44 hR, ro_69_45 hR, ro_69_46 hR, ro_69_48 hR, ro_69_49 hR, ro_69_51 hR, ro_69_52 hR, ro_69_55 hR, ro_69_56 hR, ro_69_57 hR, ro_69_58 hR, ro_69_59 hR, ro_69_61 hR, ro_69_62 hR, ro_69_63 hR, ro_69_64 hR, ro_69_65 hR, ro_69_66 hR, sh_69, sh_70, sh_71, sh_72, sh_73, sh_74, sh_75, sh_76, sh_77, sh_78, sh_79, sh_80, sh_81, sh_82, sh_83, sh_84, sh_85, sh_86, sh_87, sh_88, sh_89, sh_90, sh_91, sh_92, sh_93, sh_94, sh_95, sh_96, sh_97, sh_98, sh_99, sh_100, sh_101, sh_102, sh_103, sh_104, sh_105, sh_106, sh_107, sh_108, sh_109, sh_110, sh_111, sh_112, sh_113, sh_114, sh_115, hl, hvw9, Nat.reduceLT, Nat.reduceAdd, Nat.reduceMul, ne_eq, Nat.reduceEqDiff, not_false_eq_true, or_true, true_or, or_false, false_or, and_true, true_and, and_self, Nat.reduceLeDiff, am_ci, am_cr, am_cn0, Option.toList_some, Option.toList_none, List.cons_append, List.nil_append, am_s0, am_s1, am_s1r, am_s2, am_s2r, am_s3r, nI_add, am_u_ne, am_u_at, am_u_n1, am_u_n2, am_w_ne, ↓reduceIte, h2, c_sevens (show m + 1 < 2 ^ 30 by omega)]
        refine c_isPlayed hR hN hn ho (H.ag g1) (hw.ag g1) (by omega) (p7_le (by omega) m2) (fun J2 g2 hx => ?_)
        have hg2 := g1.trans g2
        have e17 : (J2 104 17 = v) = True := eq_true (by
          rw [(hx x m5).2]
          exact of_decide_eq_true m6)
        have hres := hQ J2 hg2
        have hne : ¬ res = -2 := by
          rw [e1]
          intro z
          have h2 : ¬ nI (m + 1) < 0 := nI_pos (by omega)
          rw [z] at h2
          exact absurd h2 (by decide)
        simp only [am_lv_of, Option.toList_some, List.cons_append, List.nil_append, rX13_shortest_46, bI_ne, m5, Option.isSome_some, Bool.true_eq_false, ↓reduceIte, rX13_shortest_49, rX13_shortest_50, rX13_shortest_53, rX13_shortest_55, rX13_shortest_56, rX13_shortest_57, rX13_shortest_60, ro_69_1 hR, ro_69_3 hR, ro_69_5 hR, ro_69_6 hR, ro_69_7 hR, ro_69_8 hR, ro_69_9 hR, ro_69_21 hR, ro_69_22 hR, ro_69_23 hR, ro_69_24 hR, ro_69_25 hR, ro_69_26 hR, ro_69_27 hR, ro_69_28 hR, ro_69_29 hR, ro_69_30 hR, ro_69_31 hR, ro_69_32 hR, ro_69_33 hR, ro_69_34 hR, ro_69_35 hR, ro_69_36 hR, ro_69_38 hR, ro_69_39 hR, ro_69_40 hR, ro_69_41 hR, ro_69_42 hR, ro_69_44 hR, ro_69_45 hR, ro_69_46 hR, ro_69_48 hR, ro_69_49 hR, ro_69_51 hR, ro_69_52 hR, ro_69_55 hR, ro_69_56 hR, ro_69_57 hR, ro_69_58 hR, ro_69_59 hR, ro_69_61 hR, ro_69_62 hR, ro_69_63 hR, ro_69_64 hR, ro_69_65 hR, ro_69_66 hR, sh_69, sh_70, sh_71, sh_72, sh_73, sh_74, sh_75, sh_76, sh_77, sh_78, sh_79, sh_80, sh_81, sh_82, sh_83, sh_84, sh_85, sh_86, sh_87, sh_88, sh_89, sh_90, sh_91, sh_92, sh_93, sh_94, sh_95, sh_96, sh_97, sh_98, sh_99, sh_100, sh_101, sh_102, sh_103, sh_104, sh_105, sh_106, sh_107, sh_108, sh_109, sh_110, sh_111, sh_112, sh_113, sh_114, sh_115, hl, hvw9, Nat.reduceLT, Nat.reduceAdd, Nat.reduceMul, ne_eq, Nat.reduceEqDiff, not_false_eq_true, or_true, true_or, or_false, false_or, and_true, true_and, and_self, Nat.reduceLeDiff, am_ci, am_cr, am_cn0, Option.toList_some, Option.toList_none, List.cons_append, List.nil_append, am_s0, am_s1, am_s1r, am_s2, am_s2r, am_s3r, nI_add, am_u_ne, am_u_at, am_u_n1, am_u_n2, am_w_ne, e17, not_true_eq_false]
        have hq2 : q = 0 ∨ q = 1 := by omega
        rcases hq2 with rfl | rfl
        · have z0 : (nI 0 = 0) = True := eq_true rfl
          rw [if_pos (Or.inl rfl), e1] at hres
          simp only [am_lv_of, rX13_shortest_61, z0, not_true_eq_false, ↓reduceIte, rX13_shortest_64, rX13_shortest_65, rX13_shortest_77, hl, hvw9, Nat.reduceLT, Nat.reduceAdd, Nat.reduceMul, ne_eq, Nat.reduceEqDiff, not_false_eq_true, or_true, true_or, or_false, false_or, and_true, true_and, and_self, Nat.reduceLeDiff, am_ci, am_cr, am_cn0, Option.toList_some, Option.toList_none, List.cons_append, List.nil_append, am_s0, am_s1, am_s1r, am_s2, am_s2r, am_s3r, nI_add, am_u_ne, am_u_at, am_u_n1, am_u_n2, am_w_ne]
          exact hres
        · have z1 : ¬ nI 1 = 0 := by decide
          rw [if_neg (fun z => z.elim (by omega) hne), e2] at hres
          have p7 : 0 < 7 ^ m := Nat.pow_pos (by omega)
          have p8 := pow7 (k := m) (by omega)
          have s1 : nI (m + 1) - nI 1 = nI m := pk_sub (by omega)
          have z2 : ¬ nI (7 ^ m) = 0 := nI_ne0 p7 (by omega)
          have d1 : nI t / nI (7 ^ m) = nI (t / 7 ^ m) := pk_div (by omega) p7 (by omega)
          have lt7 : t / 7 ^ m < 7 := Nat.div_lt_of_lt_mul (by rw [← Nat.pow_succ]; exact m2)
          rw [Nat.mod_eq_of_lt lt7] at hres
          simp only [am_lv_of, rX13_shortest_61, z1, not_false_eq_true, ↓reduceIte, rX13_shortest_68, rX13_shortest_70, rX13_shortest_71, rX13_shortest_72, rX13_shortest_73, rX13_shortest_76, rX13_shortest_77, hl, hvw9, Nat.reduceLT, Nat.reduceAdd, Nat.reduceMul, ne_eq, Nat.reduceEqDiff, not_false_eq_true, or_true, true_or, or_false, false_or, and_true, true_and, and_self, Nat.reduceLeDiff, am_ci, am_cr, am_cn0, Option.toList_some, Option.toList_none, List.cons_append, List.nil_append, am_s0, am_s1, am_s1r, am_s2, am_s2r, am_s3r, nI_add, am_u_ne, am_u_at, am_u_n1, am_u_n2, am_w_ne, s1, c_sevens (show m < 2 ^ 30 by omega), z2, d1]
          exact hres
      · exact absurd (h ln (by omega)) hall
theorem s_shortest {a c : Int32} (H : REL (n, I, L, R)) : sim X (d + 30) mX12_shortest mX13_shortest [some (.ref 0), some (.int a), some (.int c), none] [some (.ref 69), some (.int a), some (.int c), none, none] (n, I, L, R) := by
  obtain ⟨σ, H⟩ := H
  have hR := H.1.1
  have hN := H.1.N
  have hn := H.1.n
  have hl := am_lt hN
  have hvw9 := am_lw hN
  obtain ⟨S1, S2, S3, S4, S5, S6, S7, ws, S8, S9⟩ := id (show relS I σ from H.2.2.1)
  obtain ⟨o1, o2, o3, o4⟩ := id S3
  obtain ⟨b1, b2, b3, b4, bz, b5, b6, b7⟩ := id S2
  obtain ⟨f1, f2, f3, f4, f5, f6, f7, f8, f9, f10⟩ := id S1
  obtain ⟨w, K, cw, cp, c16, c15, c17, c18, c19, c20, c28, c29, cK, c30, cK12, cpl, cpr, cs, cv⟩ := id (show crs I 34 (p_P σ) (p_S σ) (I 103) from H.2.2.2.2.1)
  unfold sim
  have hbad : ((decide (nI 1 ≤ a) && decide (a ≤ nI 2)) && (decide (nI 0 ≤ c) && decide (c ≤ nI 1))) = false → am_E X (d + 30) mX13_shortest 0 [some (.ref 69), some (.int a), some (.int c), none, none] [] (n, I, L, R) (fun v' M2 => some (.int (-1)) = v' ∧ REL M2) := by
    intro h
    cases h1 : (decide (nI 1 ≤ a) && decide (a ≤ nI 2)) with
    | false =>
      simp only [am_lv_of, rX13_shortest_0, rX13_shortest_1, rX13_shortest_2, rX13_shortest_3, rX13_shortest_6, rX13_shortest_18, rX13_shortest_19, ro_69_1 hR, ro_69_3 hR, ro_69_5 hR, ro_69_6 hR, ro_69_7 hR, ro_69_8 hR, ro_69_9 hR, ro_69_21 hR, ro_69_22 hR, ro_69_23 hR, ro_69_24 hR, ro_69_25 hR, ro_69_26 hR, ro_69_27 hR, ro_69_28 hR, ro_69_29 hR, ro_69_30 hR, ro_69_31 hR, ro_69_32 hR, ro_69_33 hR, ro_69_34 hR, ro_69_35 hR, ro_69_36 hR, ro_69_38 hR, ro_69_39 hR, ro_69_40 hR, ro_69_41 hR, ro_69_42 hR, ro_69_44 hR, ro_69_45 hR, ro_69_46 hR, ro_69_48 hR, ro_69_49 hR, ro_69_51 hR, ro_69_52 hR, ro_69_55 hR, ro_69_56 hR, ro_69_57 hR, ro_69_58 hR, ro_69_59 hR, ro_69_61 hR, ro_69_62 hR, ro_69_63 hR, ro_69_64 hR, ro_69_65 hR, ro_69_66 hR, sh_69, sh_70, sh_71, sh_72, sh_73, sh_74, sh_75, sh_76, sh_77, sh_78, sh_79, sh_80, sh_81, sh_82, sh_83, sh_84, sh_85, sh_86, sh_87, sh_88, sh_89, sh_90, sh_91, sh_92, sh_93, sh_94, sh_95, sh_96, sh_97, sh_98, sh_99, sh_100, sh_101, sh_102, sh_103, sh_104, sh_105, sh_106, sh_107, sh_108, sh_109, sh_110, sh_111, sh_112, sh_113, sh_114, sh_115, hl, hvw9, Nat.reduceLT, Nat.reduceAdd, Nat.reduceMul, ne_eq, Nat.reduceEqDiff, not_false_eq_true, or_true, true_or, or_false, false_or, and_true, true_and, and_self, Nat.reduceLeDiff, am_ci, am_cr, am_cn0, Option.toList_some, Option.toList_none, List.cons_append, List.nil_append, am_s0, am_s1, am_s1r, am_s2, am_s2r, am_s3r, nI_add, am_u_ne, am_u_at, am_u_n1, am_u_n2, am_w_ne, ↓reduceIte, c_in, h1, b_f]
      exact ⟨σ, H⟩
    | true =>
      rw [h1, Bool.true_and] at h
      simp only [am_lv_of, rX13_shortest_0, rX13_shortest_1, rX13_shortest_2, rX13_shortest_3, rX13_shortest_6, rX13_shortest_9, rX13_shortest_10, rX13_shortest_11, rX13_shortest_12, rX13_shortest_15, rX13_shortest_18, rX13_shortest_19, ro_69_1 hR, ro_69_3 hR, ro_69_5 hR, ro_69_6 hR, ro_69_7 hR, ro_69_8 hR, ro_69_9 hR, ro_69_21 hR, ro_69_22 hR, ro_69_23 hR, ro_69_24 hR, ro_69_25 hR, ro_69_26 hR, ro_69_27 hR, ro_69_28 hR, ro_69_29 hR, ro_69_30 hR, ro_69_31 hR, ro_69_32 hR, ro_69_33 hR, ro_69_34 hR, ro_69_35 hR, ro_69_36 hR, ro_69_38 hR, ro_69_39 hR, ro_69_40 hR, ro_69_41 hR, ro_69_42 hR, ro_69_44 hR, ro_69_45 hR, ro_69_46 hR, ro_69_48 hR, ro_69_49 hR, ro_69_51 hR, ro_69_52 hR, ro_69_55 hR, ro_69_56 hR, ro_69_57 hR, ro_69_58 hR, ro_69_59 hR, ro_69_61 hR, ro_69_62 hR, ro_69_63 hR, ro_69_64 hR, ro_69_65 hR, ro_69_66 hR, sh_69, sh_70, sh_71, sh_72, sh_73, sh_74, sh_75, sh_76, sh_77, sh_78, sh_79, sh_80, sh_81, sh_82, sh_83, sh_84, sh_85, sh_86, sh_87, sh_88, sh_89, sh_90, sh_91, sh_92, sh_93, sh_94, sh_95, sh_96, sh_97, sh_98, sh_99, sh_100, sh_101, sh_102, sh_103, sh_104, sh_105, sh_106, sh_107, sh_108, sh_109, sh_110, sh_111, sh_112, sh_113, sh_114, sh_115, hl, hvw9, Nat.reduceLT, Nat.reduceAdd, Nat.reduceMul, ne_eq, Nat.reduceEqDiff, not_false_eq_true, or_true, true_or, or_false, false_or, and_true, true_and, and_self, Nat.reduceLeDiff, am_ci, am_cr, am_cn0, Option.toList_some, Option.toList_none, List.cons_append, List.nil_append, am_s0, am_s1, am_s1r, am_s2, am_s2r, am_s3r, nI_add, am_u_ne, am_u_at, am_u_n1, am_u_n2, am_w_ne, ↓reduceIte, c_in, h1, h, b_t, b_f, not_true_eq_false]
      exact ⟨σ, H⟩
  by_cases g1 : a < nI 1
  · have : ¬ nI 1 ≤ a := Int32.not_le.mpr g1
    simp only [am_lv_of, rX12_shortest_0, rX12_shortest_1, rX12_shortest_2, rX12_shortest_19, rX12_shortest_20, ro_0_0 hR, ro_0_3 hR, ro_0_4 hR, ro_0_5 hR, ro_0_6 hR, ro_0_7 hR, ro_0_8 hR, ro_0_9 hR, ro_0_10 hR, ro_0_11 hR, ro_2_6 hR, ro_2_7 hR, ro_2_8 hR, ro_2_9 hR, ro_2_10 hR, ro_2_11 hR, ro_2_12 hR, ro_2_13 hR, ro_9_0 hR, ro_9_1 hR, ro_9_2 hR, ro_14_0 hR, ro_14_1 hR, ro_14_2 hR, ro_14_7 hR, ro_15_0 hR, ro_15_1 hR, ro_15_2 hR, ro_15_3 hR, ro_20_6 hR, ro_20_7 hR, ro_20_8 hR, ro_20_9 hR, ro_20_10 hR, ro_20_11 hR, ro_20_12 hR, ro_20_13 hR, ro_27_0 hR, ro_27_1 hR, ro_27_2 hR, ro_32_0 hR, ro_32_1 hR, ro_34_10 hR, ro_34_11 hR, ro_34_12 hR, ro_34_13 hR, ro_39_0 hR, ro_39_1 hR, ro_42_0 hR, ro_42_1 hR, ro_47_0 hR, ro_47_1 hR, ro_47_2 hR, ro_47_3 hR, ro_55_0 hR, ro_55_1 hR, ro_55_2 hR, ro_57_0 hR, ro_57_1 hR, ro_57_2 hR, ro_57_3 hR, ro_57_4 hR, ro_57_5 hR, ro_57_8 hR, sh_0, sh_1, sh_2, sh_3, sh_4, sh_5, sh_6, sh_7, sh_8, sh_9, sh_10, sh_11, sh_12, sh_13, sh_14, sh_15, sh_16, sh_17, sh_18, sh_19, sh_20, sh_21, sh_22, sh_23, sh_24, sh_25, sh_26, sh_27, sh_28, sh_29, sh_30, sh_31, sh_32, sh_33, sh_34, sh_35, sh_36, sh_37, sh_38, sh_39, sh_40, sh_41, sh_42, sh_43, sh_44, sh_45, sh_46, sh_47, sh_48, sh_49, sh_50, sh_51, sh_52, sh_53, sh_54, sh_55, sh_56, sh_57, sh_58, sh_59, sh_60, sh_61, sh_62, sh_63, sh_64, sh_65, sh_66, sh_67, sh_68, hl, hvw9, Nat.reduceLT, Nat.reduceAdd, Nat.reduceMul, ne_eq, Nat.reduceEqDiff, not_false_eq_true, or_true, true_or, or_false, false_or, and_true, true_and, and_self, Nat.reduceLeDiff, am_ci, am_cr, am_cn0, Option.toList_some, Option.toList_none, List.cons_append, List.nil_append, am_s0, am_s1, am_s1r, am_s2, am_s2r, am_s3r, nI_add, am_u_ne, am_u_at, am_u_n1, am_u_n2, am_w_ne, ↓reduceIte, g1]
    exact hbad (by simp [this])
  · by_cases g2 : nI 2 < a
    · have : ¬ a ≤ nI 2 := Int32.not_le.mpr g2
      simp only [am_lv_of, rX12_shortest_0, rX12_shortest_1, rX12_shortest_2, rX12_shortest_5, rX12_shortest_6, rX12_shortest_7, rX12_shortest_19, rX12_shortest_20, ro_0_0 hR, ro_0_3 hR, ro_0_4 hR, ro_0_5 hR, ro_0_6 hR, ro_0_7 hR, ro_0_8 hR, ro_0_9 hR, ro_0_10 hR, ro_0_11 hR, ro_2_6 hR, ro_2_7 hR, ro_2_8 hR, ro_2_9 hR, ro_2_10 hR, ro_2_11 hR, ro_2_12 hR, ro_2_13 hR, ro_9_0 hR, ro_9_1 hR, ro_9_2 hR, ro_14_0 hR, ro_14_1 hR, ro_14_2 hR, ro_14_7 hR, ro_15_0 hR, ro_15_1 hR, ro_15_2 hR, ro_15_3 hR, ro_20_6 hR, ro_20_7 hR, ro_20_8 hR, ro_20_9 hR, ro_20_10 hR, ro_20_11 hR, ro_20_12 hR, ro_20_13 hR, ro_27_0 hR, ro_27_1 hR, ro_27_2 hR, ro_32_0 hR, ro_32_1 hR, ro_34_10 hR, ro_34_11 hR, ro_34_12 hR, ro_34_13 hR, ro_39_0 hR, ro_39_1 hR, ro_42_0 hR, ro_42_1 hR, ro_47_0 hR, ro_47_1 hR, ro_47_2 hR, ro_47_3 hR, ro_55_0 hR, ro_55_1 hR, ro_55_2 hR, ro_57_0 hR, ro_57_1 hR, ro_57_2 hR, ro_57_3 hR, ro_57_4 hR, ro_57_5 hR, ro_57_8 hR, sh_0, sh_1, sh_2, sh_3, sh_4, sh_5, sh_6, sh_7, sh_8, sh_9, sh_10, sh_11, sh_12, sh_13, sh_14, sh_15, sh_16, sh_17, sh_18, sh_19, sh_20, sh_21, sh_22, sh_23, sh_24, sh_25, sh_26, sh_27, sh_28, sh_29, sh_30, sh_31, sh_32, sh_33, sh_34, sh_35, sh_36, sh_37, sh_38, sh_39, sh_40, sh_41, sh_42, sh_43, sh_44, sh_45, sh_46, sh_47, sh_48, sh_49, sh_50, sh_51, sh_52, sh_53, sh_54, sh_55, sh_56, sh_57, sh_58, sh_59, sh_60, sh_61, sh_62, sh_63, sh_64, sh_65, sh_66, sh_67, sh_68, hl, hvw9, Nat.reduceLT, Nat.reduceAdd, Nat.reduceMul, ne_eq, Nat.reduceEqDiff, not_false_eq_true, or_true, true_or, or_false, false_or, and_true, true_and, and_self, Nat.reduceLeDiff, am_ci, am_cr, am_cn0, Option.toList_some, Option.toList_none, List.cons_append, List.nil_append, am_s0, am_s1, am_s1r, am_s2, am_s2r, am_s3r, nI_add, am_u_ne, am_u_at, am_u_n1, am_u_n2, am_w_ne, ↓reduceIte, g1, g2]
      exact hbad (by simp [this])
    · by_cases g3 : c < 0
      · have : ¬ nI 0 ≤ c := Int32.not_le.mpr g3
        simp only [am_lv_of, rX12_shortest_0, rX12_shortest_1, rX12_shortest_2, rX12_shortest_5, rX12_shortest_6, rX12_shortest_7, rX12_shortest_10, rX12_shortest_11, rX12_shortest_19, rX12_shortest_20, ro_0_0 hR, ro_0_3 hR, ro_0_4 hR, ro_0_5 hR, ro_0_6 hR, ro_0_7 hR, ro_0_8 hR, ro_0_9 hR, ro_0_10 hR, ro_0_11 hR, ro_2_6 hR, ro_2_7 hR, ro_2_8 hR, ro_2_9 hR, ro_2_10 hR, ro_2_11 hR, ro_2_12 hR, ro_2_13 hR, ro_9_0 hR, ro_9_1 hR, ro_9_2 hR, ro_14_0 hR, ro_14_1 hR, ro_14_2 hR, ro_14_7 hR, ro_15_0 hR, ro_15_1 hR, ro_15_2 hR, ro_15_3 hR, ro_20_6 hR, ro_20_7 hR, ro_20_8 hR, ro_20_9 hR, ro_20_10 hR, ro_20_11 hR, ro_20_12 hR, ro_20_13 hR, ro_27_0 hR, ro_27_1 hR, ro_27_2 hR, ro_32_0 hR, ro_32_1 hR, ro_34_10 hR, ro_34_11 hR, ro_34_12 hR, ro_34_13 hR, ro_39_0 hR, ro_39_1 hR, ro_42_0 hR, ro_42_1 hR, ro_47_0 hR, ro_47_1 hR, ro_47_2 hR, ro_47_3 hR, ro_55_0 hR, ro_55_1 hR, ro_55_2 hR, ro_57_0 hR, ro_57_1 hR, ro_57_2 hR, ro_57_3 hR, ro_57_4 hR, ro_57_5 hR, ro_57_8 hR, sh_0, sh_1, sh_2, sh_3, sh_4, sh_5, sh_6, sh_7, sh_8, sh_9, sh_10, sh_11, sh_12, sh_13, sh_14, sh_15, sh_16, sh_17, sh_18, sh_19, sh_20, sh_21, sh_22, sh_23, sh_24, sh_25, sh_26, sh_27, sh_28, sh_29, sh_30, sh_31, sh_32, sh_33, sh_34, sh_35, sh_36, sh_37, sh_38, sh_39, sh_40, sh_41, sh_42, sh_43, sh_44, sh_45, sh_46, sh_47, sh_48, sh_49, sh_50, sh_51, sh_52, sh_53, sh_54, sh_55, sh_56, sh_57, sh_58, sh_59, sh_60, sh_61, sh_62, sh_63, sh_64, sh_65, sh_66, sh_67, sh_68, hl, hvw9, Nat.reduceLT, Nat.reduceAdd, Nat.reduceMul, ne_eq, Nat.reduceEqDiff, not_false_eq_true, or_true, true_or, or_false, false_or, and_true, true_and, and_self, Nat.reduceLeDiff, am_ci, am_cr, am_cn0, Option.toList_some, Option.toList_none, List.cons_append, List.nil_append, am_s0, am_s1, am_s1r, am_s2, am_s2r, am_s3r, nI_add, am_u_ne, am_u_at, am_u_n1, am_u_n2, am_w_ne, ↓reduceIte, g1, g2, g3]
        exact hbad (by simp [this])
      · by_cases g4 : c ≤ nI 1
        · have i1 : (decide (nI 1 ≤ a) && decide (a ≤ nI 2)) = true := by simp [Int32.not_lt.mp g1, Int32.not_lt.mp g2]
          have i2 : (decide (nI 0 ≤ c) && decide (c ≤ nI 1)) = true := by
            have : nI 0 ≤ c := Int32.not_lt.mp g3
            simp [this, g4]
          obtain ⟨v, v1, v2, rfl⟩ := (in01 (by omega) (by omega)).mp i1
          obtain ⟨q, -, q2, rfl⟩ := (in01 (by omega) (by omega)).mp i2
          have hb : ∃ b, b < 2 ∧ I 103 15 = nI b := by
            rcases cs with z | z
            · exact ⟨0, by omega, z⟩
            · exact ⟨1, by omega, z⟩
          obtain ⟨b, hb2, hb15⟩ := hb
          have n34 : ∀ j, (am_u (am_u (am_u I 42 8 (nI 0)) 42 9 (nI v)) 42 10 (-1)) 34 j = I 34 j := fun j => by rw [am_u_n1 (by omega), am_u_n1 (by omega), am_u_n1 (by omega)]
          have ga : am_ag (fun k j => k = 42 ∧ 8 ≤ j) I (am_u (am_u (am_u I 42 8 (nI 0)) 42 9 (nI v)) 42 10 (-1)) := ((am_ag.refl.u ⟨rfl, by omega⟩).u ⟨rfl, by omega⟩).u ⟨rfl, by omega⟩
          have gas : am_ag scrP I (am_u (am_u (am_u I 42 8 (nI 0)) 42 9 (nI v)) 42 10 (-1)) := ga.mono (fun k j z => by unfold scrP; omega)
          simp only [am_lv_of, rX12_shortest_0, rX12_shortest_1, rX12_shortest_2, rX12_shortest_5, rX12_shortest_6, rX12_shortest_7, rX12_shortest_10, rX12_shortest_11, rX12_shortest_14, rX12_shortest_15, rX12_shortest_16, rX12_shortest_19, rX12_shortest_20, rX12_shortest_21, rX12_shortest_22, rX12_shortest_25, rX12_shortest_26, rX12_shortest_27, rX12_shortest_28, rX12_shortest_31, rX12_shortest_32, rX12_shortest_35, rX12_shortest_36, rX12_shortest_39, rX7_aimAt_0, rX7_aimAt_1, rX7_aimAt_2, rX7_aimAt_5, rX7_aimAt_6, rX7_aimAt_7, rX7_aimAt_10, rX7_aimAt_11, rX7_aimAt_12, rX7_aimAt_15, ro_0_0 hR, ro_0_3 hR, ro_0_4 hR, ro_0_5 hR, ro_0_6 hR, ro_0_7 hR, ro_0_8 hR, ro_0_9 hR, ro_0_10 hR, ro_0_11 hR, ro_2_6 hR, ro_2_7 hR, ro_2_8 hR, ro_2_9 hR, ro_2_10 hR, ro_2_11 hR, ro_2_12 hR, ro_2_13 hR, ro_9_0 hR, ro_9_1 hR, ro_9_2 hR, ro_14_0 hR, ro_14_1 hR, ro_14_2 hR, ro_14_7 hR, ro_15_0 hR, ro_15_1 hR, ro_15_2 hR, ro_15_3 hR, ro_20_6 hR, ro_20_7 hR, ro_20_8 hR, ro_20_9 hR, ro_20_10 hR, ro_20_11 hR, ro_20_12 hR, ro_20_13 hR, ro_27_0 hR, ro_27_1 hR, ro_27_2 hR, ro_32_0 hR, ro_32_1 hR, ro_34_10 hR, ro_34_11 hR, ro_34_12 hR, ro_34_13 hR, ro_39_0 hR, ro_39_1 hR, ro_42_0 hR, ro_42_1 hR, ro_47_0 hR, ro_47_1 hR, ro_47_2 hR, ro_47_3 hR, ro_55_0 hR, ro_55_1 hR, ro_55_2 hR, ro_57_0 hR, ro_57_1 hR, ro_57_2 hR, ro_57_3 hR, ro_57_4 hR, ro_57_5 hR, ro_57_8 hR, sh_0, sh_1, sh_2, sh_3, sh_4, sh_5, sh_6, sh_7, sh_8, sh_9, sh_10, sh_11, sh_12, sh_13, sh_14, sh_15, sh_16, sh_17, sh_18, sh_19, sh_20, sh_21, sh_22, sh_23, sh_24, sh_25, sh_26, sh_27, sh_28, sh_29, sh_30, sh_31, sh_32, sh_33, sh_34, sh_35, sh_36, sh_37, sh_38, sh_39, sh_40, sh_41, sh_42, sh_43, sh_44, sh_45, sh_46, sh_47, sh_48, sh_49, sh_50, sh_51, sh_52, sh_53, sh_54, sh_55, sh_56, sh_57, sh_58, sh_59, sh_60, sh_61, sh_62, sh_63, sh_64, sh_65, sh_66, sh_67, sh_68, hl, hvw9, Nat.reduceLT, Nat.reduceAdd, Nat.reduceMul, ne_eq, Nat.reduceEqDiff, not_false_eq_true, or_true, true_or, or_false, false_or, and_true, true_and, and_self, Nat.reduceLeDiff, am_ci, am_cr, am_cn0, Option.toList_some, Option.toList_none, List.cons_append, List.nil_append, am_s0, am_s1, am_s1r, am_s2, am_s2r, am_s3r, nI_add, am_u_ne, am_u_at, am_u_n1, am_u_n2, am_w_ne, ↓reduceIte, hn, g1, g2, g3, g4, Option.toList_none]
          refine c_fewestC (σ := σ) (w0 := w) (b := b) (kind := 0) (pp := 0) (pl := I 103 16) (v0 := I 103 17) (wt := nI v) hN hn S3 (H.scr gas).cl cp.ok hR H.1.2.2.2.2.2.2.2.2 (by rw [n34]; exact cw) (by rw [n34]; exact c16) (by rw [n34, c15]; exact hb15) (by rw [n34]; exact c17) hb2 ?_ (by omega) ?_ (fun z => absurd z (by omega)) (fun res fst I1 R1 k1 k2 k3 k4 k5 => ?_)
          · rw [am_u_n2 (by omega), am_u_n2 (by omega), am_u_at]
          · rw [am_u_n2 (by omega), am_u_at]
          · have H1 := H.pl (gas.trans (pls_scr k1)) k2 k3
            have e103 : I1 103 = I 103 := funext fun j => by rw [k1 103 j (by unfold plS skc; omega), ga 103 j (by omega)]
            have hnow : nowR I1 σ w b (I 103 16) (I 103 17) := by
              unfold nowR
              rw [e103]
              exact ⟨cp, hb15, hb2, rfl, rfl⟩
            have hf := k5
            have hg0 : (decide (I 103 17 = 0) && gB 0 (nI v) 0 (p_P σ) w (nI 0)) = false := by
              have : gB 0 (nI v) 0 (p_P σ) w (nI 0) = false := by
                unfold gB
                rw [if_pos rfl]
                exact decide_eq_false (nI_ne (by omega) (by omega) (by omega))
              rw [this, Bool.and_false]
            have hf2 := hf.resolve_left (fun z => by rw [hg0] at z; cases z.1)
            have hf3 := Or.imp (fun z => z.2) (fun z => z.2) hf2
            have ref : am_E X (d + 30) mX13_shortest 0 [some (.ref 69), some (.int (nI v)), some (.int (nI q)), none, none] [] (n, I1, L, R1) (fun v' M2 => some (.int (if q = 0 ∨ res = -2 then res else fst)) = v' ∧ REL M2) := by
              have hR1 := k2.OR hR
              have l1 : nI 1 = nI (0 + 1) := rfl
              have h69 := H1.rf
              simp only [am_lv_of, rX13_shortest_0, rX13_shortest_1, rX13_shortest_2, rX13_shortest_3, rX13_shortest_6, rX13_shortest_9, rX13_shortest_10, rX13_shortest_11, rX13_shortest_12, rX13_shortest_15, rX13_shortest_20, rX13_shortest_21, hl, hvw9, Nat.reduceLT, Nat.reduceAdd, Nat.reduceMul, ne_eq, Nat.reduceEqDiff, not_false_eq_true, or_true, true_or, or_false, false_or, and_true, true_and, and_self, Nat.reduceLeDiff, am_ci, am_cr, am_cn0, Option.toList_some, Option.toList_none, List.cons_append, List.nil_append, am_s0, am_s1, am_s1r, am_s2, am_s2r, am_s3r, nI_add, am_u_ne, am_u_at, am_u_n1, am_u_n2, am_w_ne, ↓reduceIte, c_in, i1, i2, b_t, not_false_eq_true]
              rw [l1]
              exact l_shR (fst := fst) (res := res) hR1 hN hn S3 h69 hnow q2 hf3 (fun I2 g2 => ⟨rfl, σ, H1.scr (sc2_scr g2)⟩) 5 0 I1 none (by omega) (fun m t x _ _ _ _ => Nat.zero_le _) am_ag.refl am_cn0
            have hq2 : q = 0 ∨ q = 1 := by omega
            rcases hq2 with rfl | rfl
            · have z0 : (nI 0 = 0) = True := eq_true rfl
              rw [if_pos (Or.inl rfl)] at ref
              simp only [am_lv_of, Option.toList_some, List.cons_append, List.nil_append, rX12_shortest_42, rX12_shortest_43, rX12_shortest_44, rX12_shortest_53, rX12_shortest_54, rX12_shortest_64, hl, hvw9, Nat.reduceLT, Nat.reduceAdd, Nat.reduceMul, ne_eq, Nat.reduceEqDiff, not_false_eq_true, or_true, true_or, or_false, false_or, and_true, true_and, and_self, Nat.reduceLeDiff, am_ci, am_cr, am_cn0, Option.toList_some, Option.toList_none, List.cons_append, List.nil_append, am_s0, am_s1, am_s1r, am_s2, am_s2r, am_s3r, nI_add, am_u_ne, am_u_at, am_u_n1, am_u_n2, am_w_ne, ↓reduceIte, z0]
              exact ref
            · have z1 : ¬ nI 1 = 0 := by decide
              by_cases hr : res = -2
              · have hr' : (res = -2) = True := eq_true hr
                rw [if_pos (Or.inr hr)] at ref
                simp only [am_lv_of, Option.toList_some, List.cons_append, List.nil_append, rX12_shortest_42, rX12_shortest_43, rX12_shortest_44, rX12_shortest_47, rX12_shortest_48, rX12_shortest_50, rX12_shortest_53, rX12_shortest_54, rX12_shortest_64, hl, hvw9, Nat.reduceLT, Nat.reduceAdd, Nat.reduceMul, ne_eq, Nat.reduceEqDiff, not_false_eq_true, or_true, true_or, or_false, false_or, and_true, true_and, and_self, Nat.reduceLeDiff, am_ci, am_cr, am_cn0, Option.toList_some, Option.toList_none, List.cons_append, List.nil_append, am_s0, am_s1, am_s1r, am_s2, am_s2r, am_s3r, nI_add, am_u_ne, am_u_at, am_u_n1, am_u_n2, am_w_ne, ↓reduceIte, z1, hr', not_true_eq_false]
                exact ref
              · rw [if_neg (fun z => z.elim (by omega) hr)] at ref
                have hR1 := k2.OR hR
                simp only [am_lv_of, Option.toList_some, List.cons_append, List.nil_append, rX12_shortest_42, rX12_shortest_43, rX12_shortest_44, rX12_shortest_47, rX12_shortest_48, rX12_shortest_50, rX12_shortest_57, rX12_shortest_58, rX12_shortest_61, rX12_shortest_64, hl, hvw9, Nat.reduceLT, Nat.reduceAdd, Nat.reduceMul, ne_eq, Nat.reduceEqDiff, not_false_eq_true, or_true, true_or, or_false, false_or, and_true, true_and, and_self, Nat.reduceLeDiff, am_ci, am_cr, am_cn0, Option.toList_some, Option.toList_none, List.cons_append, List.nil_append, am_s0, am_s1, am_s1r, am_s2, am_s2r, am_s3r, nI_add, am_u_ne, am_u_at, am_u_n1, am_u_n2, am_w_ne, ↓reduceIte, z1, hr, not_false_eq_true, sh_0, sh_42, ro_0_8 hR1, k4]
                exact ref
        · have : ¬ c ≤ nI 1 := g4
          simp only [am_lv_of, rX12_shortest_0, rX12_shortest_1, rX12_shortest_2, rX12_shortest_5, rX12_shortest_6, rX12_shortest_7, rX12_shortest_10, rX12_shortest_11, rX12_shortest_14, rX12_shortest_15, rX12_shortest_16, rX12_shortest_19, rX12_shortest_20, ro_0_0 hR, ro_0_3 hR, ro_0_4 hR, ro_0_5 hR, ro_0_6 hR, ro_0_7 hR, ro_0_8 hR, ro_0_9 hR, ro_0_10 hR, ro_0_11 hR, ro_2_6 hR, ro_2_7 hR, ro_2_8 hR, ro_2_9 hR, ro_2_10 hR, ro_2_11 hR, ro_2_12 hR, ro_2_13 hR, ro_9_0 hR, ro_9_1 hR, ro_9_2 hR, ro_14_0 hR, ro_14_1 hR, ro_14_2 hR, ro_14_7 hR, ro_15_0 hR, ro_15_1 hR, ro_15_2 hR, ro_15_3 hR, ro_20_6 hR, ro_20_7 hR, ro_20_8 hR, ro_20_9 hR, ro_20_10 hR, ro_20_11 hR, ro_20_12 hR, ro_20_13 hR, ro_27_0 hR, ro_27_1 hR, ro_27_2 hR, ro_32_0 hR, ro_32_1 hR, ro_34_10 hR, ro_34_11 hR, ro_34_12 hR, ro_34_13 hR, ro_39_0 hR, ro_39_1 hR, ro_42_0 hR, ro_42_1 hR, ro_47_0 hR, ro_47_1 hR, ro_47_2 hR, ro_47_3 hR, ro_55_0 hR, ro_55_1 hR, ro_55_2 hR, ro_57_0 hR, ro_57_1 hR, ro_57_2 hR, ro_57_3 hR, ro_57_4 hR, ro_57_5 hR, ro_57_8 hR, sh_0, sh_1, sh_2, sh_3, sh_4, sh_5, sh_6, sh_7, sh_8, sh_9, sh_10, sh_11, sh_12, sh_13, sh_14, sh_15, sh_16, sh_17, sh_18, sh_19, sh_20, sh_21, sh_22, sh_23, sh_24, sh_25, sh_26, sh_27, sh_28, sh_29, sh_30, sh_31, sh_32, sh_33, sh_34, sh_35, sh_36, sh_37, sh_38, sh_39, sh_40, sh_41, sh_42, sh_43, sh_44, sh_45, sh_46, sh_47, sh_48, sh_49, sh_50, sh_51, sh_52, sh_53, sh_54, sh_55, sh_56, sh_57, sh_58, sh_59, sh_60, sh_61, sh_62, sh_63, sh_64, sh_65, sh_66, sh_67, sh_68, hl, hvw9, Nat.reduceLT, Nat.reduceAdd, Nat.reduceMul, ne_eq, Nat.reduceEqDiff, not_false_eq_true, or_true, true_or, or_false, false_or, and_true, true_and, and_self, Nat.reduceLeDiff, am_ci, am_cr, am_cn0, Option.toList_some, Option.toList_none, List.cons_append, List.nil_append, am_s0, am_s1, am_s1r, am_s2, am_s2r, am_s3r, nI_add, am_u_ne, am_u_at, am_u_n1, am_u_n2, am_w_ne, ↓reduceIte, g1, g2, g3, g4]
          exact hbad (by simp [this])
end PE
