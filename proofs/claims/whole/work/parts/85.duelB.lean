--! 84
/-! DUELS: the reference's stack -/
def rowK (σ : rfP) (b : Nat) (pl : Int32) (w made : Nat) (v : Int32) (r : Nat → Int32) : Prop := psr w (p_P σ) r ∧ r 15 = sdN b made ∧ r 16 = pl + nI made ∧ r 17 = v
theorem rowK.c {σ : rfP} {b w made : Nat} {pl v : Int32} {r r' : Nat → Int32} (h : rowK σ b pl w made v r) (g : ∀ j, j < 18 → r' j = r j) : rowK σ b pl w made v r' :=
  ⟨h.1.mv' (fun j hj => g j (by omega)), by rw [g 15 (by omega)]; exact h.2.1, by rw [g 16 (by omega)]; exact h.2.2.1, by rw [g 17 (by omega)]; exact h.2.2.2⟩
/-- what a frame at depth dp and those above it write -/
def fwP (dp k j : Nat) : Prop := sc2 k j ∨ (k = 106 ∧ 18 * (dp + 1) ≤ j) ∨ ((k = 107 ∨ k = 108) ∧ dp ≤ j)
theorem fw_scr {dp : Nat} {I I' : Nat → Nat → Int32} (h : am_ag (fwP dp) I I') : am_ag scrP I I' := h.mono (fun k j z => by unfold fwP sc2 sc1 at z; unfold scrP; omega)
theorem nar_b0 : vp_nar .boolean (nI 0) = nI 0 := by decide
theorem nar_b1 : vp_nar .boolean (nI 1) = nI 1 := by decide
theorem rfS_frame {I J : Nat → Nat → Int32} {σ : rfP} (h : rf_S I σ) (e : ∀ k j, k ≠ 106 → k ≠ 107 → k ≠ 108 → J k j = I k j) : rf_S J σ := by
  obtain ⟨a1, a2, a3, a4, a5, a6, a7, a8, a9, a10⟩ := h
  refine ⟨?_, a2, ?_, a4, ?_, a6, ?_, a8, fun s hs => ?_, fun k hk => (a10 k hk).mv (fun k j hk => e k j (by omega) (by omega) (by omega))⟩
  · rw [e 69 18 (by omega) (by omega) (by omega)]; exact a1
  · rw [e 79 _ (by omega) (by omega) (by omega)]; exact a3
  · rw [e 82 _ (by omega) (by omega) (by omega)]; exact a5
  · rw [e 87 _ (by omega) (by omega) (by omega)]; exact a7
  · rw [e 83 _ (by omega) (by omega) (by omega), e 84 _ (by omega) (by omega) (by omega), e 85 _ (by omega) (by omega) (by omega), e 86 _ (by omega) (by omega) (by omega)]; exact a9 s hs
section DB
variable {X : am_X} {d n : Nat} {I : Nat → Nat → Int32} {L : Nat → Nat → Int64} {R : Nat → Nat → Option Nat} {Q : Option Value → am_M → Prop} {σ : rfP} {b fs nn : Nat} {pl : Int32}
theorem rEnd_psr {w : Nat} {r : Nat → Int32} (ho : ok_S σ) (h : psr w (p_P σ) r) : psr w (p_P σ) (rEnd σ r) ∧ rEnd σ r 15 = nI 1 - r 15 ∧ rEnd σ r 16 = r 16 + nI 1 ∧ rEnd σ r 17 = vdW σ w (r 16 + nI 1) := by
  refine ⟨h.mv' (fun j hj => rEnd_n (by omega) (by omega) (by omega)), rEnd_15, rEnd_16, ?_⟩
  have hp : psr w (p_P σ) (rEn0 r) := h.mv' (fun j hj => rEn0_n (by omega) (by omega))
  rw [rEnd_17, hp.vd ho, rEn0_16]
theorem l_pil {dp : Nat} (hR : am_OR R) (hN : 116 ≤ n) (hn : n ≤ 1000) (hdp : dp ≤ 5) : ∀ (m i : Nat) (J : Nat → Nat → Int32), i + m = 18 → am_ag (fun k _ => k = 106) I J → (∀ j, J 106 j = if 18 * dp ≤ j ∧ j < 18 * dp + i then I 104 (0 + (j - (18 * dp))) else I 106 j) → (∀ I', am_ag (fun k _ => k = 106) I I' → (∀ j, I' 106 j = if 18 * dp ≤ j ∧ j < 18 * dp + 18 then I 104 (0 + (j - (18 * dp))) else I 106 j) → am_E X d mX13_piles 31 [some (.ref 69), some (.int (nI dp)), some (.int (nI 18))] [] (n, I', L, R) Q) → am_E X d mX13_piles 2 [some (.ref 69), some (.int (nI dp)), some (.int (nI i))] [] (n, J, L, R) Q := by
  have hl := am_lt hN
  have hvw9 := am_lw hN
  intro m
  induction m with
  | zero =>
    intro i J hi hJ hc hQ
    have hi : i = 18 := by omega
    subst hi
    have h1 : nI (18) ≤ nI (18) := nI_le (Nat.le_refl _) (by omega)
    skip
    try simp only [Nat.reduceAdd] at h1
    simp only [am_lv_of, Nat.reduceAdd, rX13_piles_2, rX13_piles_3, rX13_piles_5, ro_69_1 hR, ro_69_3 hR, ro_69_5 hR, ro_69_6 hR, ro_69_7 hR, ro_69_8 hR, ro_69_9 hR, ro_69_21 hR, ro_69_22 hR, ro_69_23 hR, ro_69_24 hR, ro_69_25 hR, ro_69_26 hR, ro_69_27 hR, ro_69_28 hR, ro_69_29 hR, ro_69_30 hR, ro_69_31 hR, ro_69_32 hR, ro_69_33 hR, ro_69_34 hR, ro_69_35 hR, ro_69_36 hR, ro_69_38 hR, ro_69_39 hR, ro_69_40 hR, ro_69_41 hR, ro_69_42 hR, ro_69_44 hR, ro_69_45 hR, ro_69_46 hR, ro_69_48 hR, ro_69_49 hR, ro_69_51 hR, ro_69_52 hR, ro_69_55 hR, ro_69_56 hR, ro_69_57 hR, ro_69_58 hR, ro_69_59 hR, ro_69_61 hR, ro_69_62 hR, ro_69_63 hR, ro_69_64 hR, ro_69_65 hR, ro_69_66 hR, sh_69, sh_70, sh_71, sh_72, sh_73, sh_74, sh_75, sh_76, sh_77, sh_78, sh_79, sh_80, sh_81, sh_82, sh_83, sh_84, sh_85, sh_86, sh_87, sh_88, sh_89, sh_90, sh_91, sh_92, sh_93, sh_94, sh_95, sh_96, sh_97, sh_98, sh_99, sh_100, sh_101, sh_102, sh_103, sh_104, sh_105, sh_106, sh_107, sh_108, sh_109, sh_110, sh_111, sh_112, sh_113, sh_114, sh_115, hl, hvw9, Nat.reduceLT, Nat.reduceAdd, Nat.reduceMul, ne_eq, Nat.reduceEqDiff, not_false_eq_true, or_true, true_or, or_false, false_or, and_true, true_and, and_self, Nat.reduceLeDiff, am_ci, am_cr, am_cn0, Option.toList_some, Option.toList_none, List.cons_append, List.nil_append, am_s0, am_s1, am_s1r, am_s2, am_s2r, am_s3r, nI_add, am_u_ne, am_u_at, am_u_n1, am_u_n2, am_w_ne, ↓reduceIte, h1 , pk_mul]
    exact hQ J hJ hc
  | succ m ih =>
    intro i J hi hJ hc hQ
    have h1 : ¬ nI (18) ≤ nI i := nI_ge (by omega) (by omega)
    try simp only [Nat.reduceAdd] at h1
    have h2 : 18 * dp + i < 108 := by omega
    have h3 : i < 68 := by omega
    skip
    rw [rX13_piles_2]
    simp only [am_lv_of, rX13_piles_3, rX13_piles_5, rX13_piles_8, rX13_piles_9, rX13_piles_12, rX13_piles_14, rX13_piles_15, rX13_piles_16, rX13_piles_17, rX13_piles_18, rX13_piles_19, rX13_piles_22, rX13_piles_23, rX13_piles_24, rX13_piles_25, rX13_piles_28, ro_69_1 hR, ro_69_3 hR, ro_69_5 hR, ro_69_6 hR, ro_69_7 hR, ro_69_8 hR, ro_69_9 hR, ro_69_21 hR, ro_69_22 hR, ro_69_23 hR, ro_69_24 hR, ro_69_25 hR, ro_69_26 hR, ro_69_27 hR, ro_69_28 hR, ro_69_29 hR, ro_69_30 hR, ro_69_31 hR, ro_69_32 hR, ro_69_33 hR, ro_69_34 hR, ro_69_35 hR, ro_69_36 hR, ro_69_38 hR, ro_69_39 hR, ro_69_40 hR, ro_69_41 hR, ro_69_42 hR, ro_69_44 hR, ro_69_45 hR, ro_69_46 hR, ro_69_48 hR, ro_69_49 hR, ro_69_51 hR, ro_69_52 hR, ro_69_55 hR, ro_69_56 hR, ro_69_57 hR, ro_69_58 hR, ro_69_59 hR, ro_69_61 hR, ro_69_62 hR, ro_69_63 hR, ro_69_64 hR, ro_69_65 hR, ro_69_66 hR, sh_69, sh_70, sh_71, sh_72, sh_73, sh_74, sh_75, sh_76, sh_77, sh_78, sh_79, sh_80, sh_81, sh_82, sh_83, sh_84, sh_85, sh_86, sh_87, sh_88, sh_89, sh_90, sh_91, sh_92, sh_93, sh_94, sh_95, sh_96, sh_97, sh_98, sh_99, sh_100, sh_101, sh_102, sh_103, sh_104, sh_105, sh_106, sh_107, sh_108, sh_109, sh_110, sh_111, sh_112, sh_113, sh_114, sh_115, hl, hvw9, Nat.reduceLT, Nat.reduceAdd, Nat.reduceMul, ne_eq, Nat.reduceEqDiff, not_false_eq_true, or_true, true_or, or_false, false_or, and_true, true_and, and_self, Nat.reduceLeDiff, am_ci, am_cr, am_cn0, Option.toList_some, Option.toList_none, List.cons_append, List.nil_append, am_s0, am_s1, am_s1r, am_s2, am_s2r, am_s3r, nI_add, am_u_ne, am_u_at, am_u_n1, am_u_n2, am_w_ne, ↓reduceIte, hn, h1, h2, h3 , pk_mul]
    refine ih (i + 1) _ (by omega) (hJ.u rfl) (fun j => ?_) hQ
    by_cases e : j = 18 * dp + i
    · rw [e, am_u_at, if_pos ⟨by omega, by omega⟩]
      rw [hJ 104 _ (by omega)]
      exact congrArg (I 104) (by omega)
    · rw [am_u_n2 e, hc j]
      by_cases h : 18 * dp ≤ j ∧ j < 18 * dp + i
      · rw [if_pos h, if_pos ⟨h.1, by omega⟩]
      · rw [if_neg h, if_neg (fun z => h ⟨z.1, by omega⟩)]
theorem l_ld {dp : Nat} {l1 l2 l4 l7 l8 : Option Value} {val : Int32} (hR : am_OR R) (hN : 116 ≤ n) (hn : n ≤ 1000) (hdp : dp ≤ 5) : ∀ (m i : Nat) (J : Nat → Nat → Int32), i + m = 18 → am_ag (fun k _ => k = 104) I J → (∀ j, J 104 j = if 0 ≤ j ∧ j < 0 + i then I 106 (18 * dp + (j - (0))) else I 104 j) → (∀ I', am_ag (fun k _ => k = 104) I I' → (∀ j, I' 104 j = if 0 ≤ j ∧ j < 0 + 18 then I 106 (18 * dp + (j - (0))) else I 104 j) → am_E X d mX13_forces 52 [some (.ref 69), l1, l2, some (.int (nI dp)), l4, some (.int val), some (.int (nI 18)), l7, l8] [] (n, I', L, R) Q) → am_E X d mX13_forces 20 [some (.ref 69), l1, l2, some (.int (nI dp)), l4, some (.int val), some (.int (nI i)), l7, l8] [] (n, J, L, R) Q := by
  have hl := am_lt hN
  have hvw9 := am_lw hN
  intro m
  induction m with
  | zero =>
    intro i J hi hJ hc hQ
    have hi : i = 18 := by omega
    subst hi
    have h1 : nI (18) ≤ nI (18) := nI_le (Nat.le_refl _) (by omega)
    skip
    try simp only [Nat.reduceAdd] at h1
    simp only [am_lv_of, Nat.reduceAdd, rX13_forces_20, rX13_forces_22, rX13_forces_24, ro_69_1 hR, ro_69_3 hR, ro_69_5 hR, ro_69_6 hR, ro_69_7 hR, ro_69_8 hR, ro_69_9 hR, ro_69_21 hR, ro_69_22 hR, ro_69_23 hR, ro_69_24 hR, ro_69_25 hR, ro_69_26 hR, ro_69_27 hR, ro_69_28 hR, ro_69_29 hR, ro_69_30 hR, ro_69_31 hR, ro_69_32 hR, ro_69_33 hR, ro_69_34 hR, ro_69_35 hR, ro_69_36 hR, ro_69_38 hR, ro_69_39 hR, ro_69_40 hR, ro_69_41 hR, ro_69_42 hR, ro_69_44 hR, ro_69_45 hR, ro_69_46 hR, ro_69_48 hR, ro_69_49 hR, ro_69_51 hR, ro_69_52 hR, ro_69_55 hR, ro_69_56 hR, ro_69_57 hR, ro_69_58 hR, ro_69_59 hR, ro_69_61 hR, ro_69_62 hR, ro_69_63 hR, ro_69_64 hR, ro_69_65 hR, ro_69_66 hR, sh_69, sh_70, sh_71, sh_72, sh_73, sh_74, sh_75, sh_76, sh_77, sh_78, sh_79, sh_80, sh_81, sh_82, sh_83, sh_84, sh_85, sh_86, sh_87, sh_88, sh_89, sh_90, sh_91, sh_92, sh_93, sh_94, sh_95, sh_96, sh_97, sh_98, sh_99, sh_100, sh_101, sh_102, sh_103, sh_104, sh_105, sh_106, sh_107, sh_108, sh_109, sh_110, sh_111, sh_112, sh_113, sh_114, sh_115, hl, hvw9, Nat.reduceLT, Nat.reduceAdd, Nat.reduceMul, ne_eq, Nat.reduceEqDiff, not_false_eq_true, or_true, true_or, or_false, false_or, and_true, true_and, and_self, Nat.reduceLeDiff, am_ci, am_cr, am_cn0, Option.toList_some, Option.toList_none, List.cons_append, List.nil_append, am_s0, am_s1, am_s1r, am_s2, am_s2r, am_s3r, nI_add, am_u_ne, am_u_at, am_u_n1, am_u_n2, am_w_ne, ↓reduceIte, h1 , pk_mul]
    exact hQ J hJ hc
  | succ m ih =>
    intro i J hi hJ hc hQ
    have h1 : ¬ nI (18) ≤ nI i := nI_ge (by omega) (by omega)
    try simp only [Nat.reduceAdd] at h1
    have h2 : i < 68 := by omega
    have h3 : 18 * dp + i < 108 := by omega
    skip
    rw [rX13_forces_20]
    simp only [am_lv_of, rX13_forces_22, rX13_forces_24, rX13_forces_27, rX13_forces_28, rX13_forces_31, rX13_forces_33, rX13_forces_34, rX13_forces_37, rX13_forces_39, rX13_forces_40, rX13_forces_41, rX13_forces_43, rX13_forces_44, rX13_forces_45, rX13_forces_46, rX13_forces_49, ro_69_1 hR, ro_69_3 hR, ro_69_5 hR, ro_69_6 hR, ro_69_7 hR, ro_69_8 hR, ro_69_9 hR, ro_69_21 hR, ro_69_22 hR, ro_69_23 hR, ro_69_24 hR, ro_69_25 hR, ro_69_26 hR, ro_69_27 hR, ro_69_28 hR, ro_69_29 hR, ro_69_30 hR, ro_69_31 hR, ro_69_32 hR, ro_69_33 hR, ro_69_34 hR, ro_69_35 hR, ro_69_36 hR, ro_69_38 hR, ro_69_39 hR, ro_69_40 hR, ro_69_41 hR, ro_69_42 hR, ro_69_44 hR, ro_69_45 hR, ro_69_46 hR, ro_69_48 hR, ro_69_49 hR, ro_69_51 hR, ro_69_52 hR, ro_69_55 hR, ro_69_56 hR, ro_69_57 hR, ro_69_58 hR, ro_69_59 hR, ro_69_61 hR, ro_69_62 hR, ro_69_63 hR, ro_69_64 hR, ro_69_65 hR, ro_69_66 hR, sh_69, sh_70, sh_71, sh_72, sh_73, sh_74, sh_75, sh_76, sh_77, sh_78, sh_79, sh_80, sh_81, sh_82, sh_83, sh_84, sh_85, sh_86, sh_87, sh_88, sh_89, sh_90, sh_91, sh_92, sh_93, sh_94, sh_95, sh_96, sh_97, sh_98, sh_99, sh_100, sh_101, sh_102, sh_103, sh_104, sh_105, sh_106, sh_107, sh_108, sh_109, sh_110, sh_111, sh_112, sh_113, sh_114, sh_115, hl, hvw9, Nat.reduceLT, Nat.reduceAdd, Nat.reduceMul, ne_eq, Nat.reduceEqDiff, not_false_eq_true, or_true, true_or, or_false, false_or, and_true, true_and, and_self, Nat.reduceLeDiff, am_ci, am_cr, am_cn0, Option.toList_some, Option.toList_none, List.cons_append, List.nil_append, am_s0, am_s1, am_s1r, am_s2, am_s2r, am_s3r, nI_add, am_u_ne, am_u_at, am_u_n1, am_u_n2, am_w_ne, ↓reduceIte, hn, h1, h2, h3 , pk_mul]
    refine ih (i + 1) _ (by omega) (hJ.u rfl) (fun j => ?_) hQ
    by_cases e : j = i
    · rw [e, am_u_at, if_pos ⟨by omega, by omega⟩]
      rw [hJ 106 _ (by omega)]
      exact congrArg (I 106) (by omega)
    · rw [am_u_n2 e, hc j]
      by_cases h : 0 ≤ j ∧ j < 0 + i
      · rw [if_pos h, if_pos ⟨h.1, by omega⟩]
      · rw [if_neg h, if_neg (fun z => h ⟨z.1, by omega⟩)]
theorem c_piles {dp : Nat} (hR : am_OR R) (hN : 116 ≤ n) (hn : n ≤ 1000) (hdp : dp ≤ 5) (hQ : ∀ I', am_ag (fun k j => (k = 106 ∧ 18 * dp ≤ j) ∨ ((k = 107 ∨ k = 108) ∧ j = dp)) I I' → (∀ j, j < 18 → I' 106 (18 * dp + j) = I 104 j) → I' 107 dp = nI 0 → I' 108 dp = nI 0 → Q none (n, I', L, R)) : am_E X d mX13_piles 0 [some (.ref 69), some (.int (nI dp)), none] [] (n, I, L, R) Q := by
  have hl := am_lt hN
  have hvw9 := am_lw hN
  have d6 : dp < 6 := by omega
  simp only [am_lv_of, rX13_piles_0, rX13_piles_1, hl, hvw9, Nat.reduceLT, Nat.reduceAdd, Nat.reduceMul, ne_eq, Nat.reduceEqDiff, not_false_eq_true, or_true, true_or, or_false, false_or, and_true, true_and, and_self, Nat.reduceLeDiff, am_ci, am_cr, am_cn0, Option.toList_some, Option.toList_none, List.cons_append, List.nil_append, am_s0, am_s1, am_s1r, am_s2, am_s2r, am_s3r, nI_add, am_u_ne, am_u_at, am_u_n1, am_u_n2, am_w_ne]
  refine l_pil hR hN hn hdp 18 0 I (by omega) am_ag.refl (fun j => by rw [if_neg (by omega)]) (fun I1 g1 e1 => ?_)
  simp only [am_lv_of, rX13_piles_31, rX13_piles_32, rX13_piles_35, rX13_piles_36, rX13_piles_37, rX13_piles_38, rX13_piles_39, rX13_piles_42, rX13_piles_43, rX13_piles_44z, rX13_piles_45, ro_69_1 hR, ro_69_3 hR, ro_69_5 hR, ro_69_6 hR, ro_69_7 hR, ro_69_8 hR, ro_69_9 hR, ro_69_21 hR, ro_69_22 hR, ro_69_23 hR, ro_69_24 hR, ro_69_25 hR, ro_69_26 hR, ro_69_27 hR, ro_69_28 hR, ro_69_29 hR, ro_69_30 hR, ro_69_31 hR, ro_69_32 hR, ro_69_33 hR, ro_69_34 hR, ro_69_35 hR, ro_69_36 hR, ro_69_38 hR, ro_69_39 hR, ro_69_40 hR, ro_69_41 hR, ro_69_42 hR, ro_69_44 hR, ro_69_45 hR, ro_69_46 hR, ro_69_48 hR, ro_69_49 hR, ro_69_51 hR, ro_69_52 hR, ro_69_55 hR, ro_69_56 hR, ro_69_57 hR, ro_69_58 hR, ro_69_59 hR, ro_69_61 hR, ro_69_62 hR, ro_69_63 hR, ro_69_64 hR, ro_69_65 hR, ro_69_66 hR, sh_69, sh_70, sh_71, sh_72, sh_73, sh_74, sh_75, sh_76, sh_77, sh_78, sh_79, sh_80, sh_81, sh_82, sh_83, sh_84, sh_85, sh_86, sh_87, sh_88, sh_89, sh_90, sh_91, sh_92, sh_93, sh_94, sh_95, sh_96, sh_97, sh_98, sh_99, sh_100, sh_101, sh_102, sh_103, sh_104, sh_105, sh_106, sh_107, sh_108, sh_109, sh_110, sh_111, sh_112, sh_113, sh_114, sh_115, hl, hvw9, Nat.reduceLT, Nat.reduceAdd, Nat.reduceMul, ne_eq, Nat.reduceEqDiff, not_false_eq_true, or_true, true_or, or_false, false_or, and_true, true_and, and_self, Nat.reduceLeDiff, am_ci, am_cr, am_cn0, Option.toList_some, Option.toList_none, List.cons_append, List.nil_append, am_s0, am_s1, am_s1r, am_s2, am_s2r, am_s3r, nI_add, am_u_ne, am_u_at, am_u_n1, am_u_n2, am_w_ne, hn, d6, nar_b0]
  refine hQ _ (fun k j hk => ?_) (fun j hj => ?_) ?_ am_u_at
  · have h1 : ¬ (k = 108 ∧ j = dp) := fun z => hk (Or.inr ⟨Or.inr z.1, z.2⟩)
    have h2 : ¬ (k = 107 ∧ j = dp) := fun z => hk (Or.inr ⟨Or.inl z.1, z.2⟩)
    have h3 : am_u (am_u I1 107 dp (nI 0)) 108 dp (nI 0) k j = I1 k j := by
      unfold am_u
      by_cases a1 : k = 108
      · have : ¬ j = dp := fun z => h1 ⟨a1, z⟩
        subst a1
        simp [this]
      · by_cases a2 : k = 107
        · have : ¬ j = dp := fun z => h2 ⟨a2, z⟩
          subst a2
          simp [this]
        · simp [a1, a2]
    rw [h3]
    by_cases a3 : k = 106
    · subst a3
      rw [e1 j, if_neg (fun z => hk (Or.inl ⟨rfl, z.1⟩))]
    · exact g1 k j a3
  · rw [am_u_n1 (by omega), am_u_n1 (by omega), e1, if_pos ⟨by omega, by omega⟩]
    exact congrArg (I 104) (by omega)
  · rw [am_u_n1 (by omega), am_u_at]
theorem l_head {dp w made : Nat} {v : Int32} {isB val : Bool} {l6 l7 l8 : Option Value} (hR : am_OR R) (hN : 116 ≤ n) (hn : n ≤ 1000) (hdp : dp ≤ 5) (hfs : fs < 2) (hf : rowK σ b pl w made v (fun j => I 106 (18 * dp + j))) (hQ : ∀ I1, am_ag (fun k j => k = 104) I I1 → (∀ j, j < 18 → I1 104 j = I 106 (18 * dp + j)) → am_E X d mX13_forces 70 [some (.ref 69), some (.int (nI fs)), some (.int (nI nn)), some (.int (nI dp)), some (.int (bI isB)), some (.int (bI val)), some (.int (bI (decide ((b + made) % 2 = fs)))), l7, l8] [] (n, I1, L, R) Q) : am_E X d mX13_forces 13 [some (.ref 69), some (.int (nI fs)), some (.int (nI nn)), some (.int (nI dp)), some (.int (bI isB)), some (.int (bI val)), l6, l7, l8] [] (n, I, L, R) Q := by
  have hl := am_lt hN
  have hvw9 := am_lw hN
  have c1 : ¬ nI dp < 0 := nI_pos (by omega)
  simp only [am_lv_of, rX13_forces_13, rX13_forces_14, rX13_forces_17, rX13_forces_18, hl, hvw9, Nat.reduceLT, Nat.reduceAdd, Nat.reduceMul, ne_eq, Nat.reduceEqDiff, not_false_eq_true, or_true, true_or, or_false, false_or, and_true, true_and, and_self, Nat.reduceLeDiff, am_ci, am_cr, am_cn0, Option.toList_some, Option.toList_none, List.cons_append, List.nil_append, am_s0, am_s1, am_s1r, am_s2, am_s2r, am_s3r, nI_add, am_u_ne, am_u_at, am_u_n1, am_u_n2, am_w_ne, ↓reduceIte, c1]
  refine l_ld hR hN hn hdp 18 0 I (by omega) am_ag.refl (fun j => by rw [if_neg (by omega)]) (fun I1 g1 e1 => ?_)
  have e18 : ∀ j, j < 18 → I1 104 j = I 106 (18 * dp + j) := fun j hj => by
    rw [e1, if_pos ⟨by omega, by omega⟩]
    exact congrArg (I 106) (by omega)
  have hq := hQ I1 g1 e18
  have e15 : I1 104 15 = sdN b made := by rw [e18 15 (by omega)]; exact hf.2.1
  by_cases hc : (b + made) % 2 = fs
  · have hc' : (sdN b made = nI fs) = True := eq_true (congrArg nI hc)
    rw [decide_eq_true hc] at hq
    simp only [am_lv_of, rX13_forces_52, rX13_forces_53, rX13_forces_56, rX13_forces_58, rX13_forces_59, rX13_forces_60, rX13_forces_63, rX13_forces_64, rX13_forces_68, ro_69_1 hR, ro_69_3 hR, ro_69_5 hR, ro_69_6 hR, ro_69_7 hR, ro_69_8 hR, ro_69_9 hR, ro_69_21 hR, ro_69_22 hR, ro_69_23 hR, ro_69_24 hR, ro_69_25 hR, ro_69_26 hR, ro_69_27 hR, ro_69_28 hR, ro_69_29 hR, ro_69_30 hR, ro_69_31 hR, ro_69_32 hR, ro_69_33 hR, ro_69_34 hR, ro_69_35 hR, ro_69_36 hR, ro_69_38 hR, ro_69_39 hR, ro_69_40 hR, ro_69_41 hR, ro_69_42 hR, ro_69_44 hR, ro_69_45 hR, ro_69_46 hR, ro_69_48 hR, ro_69_49 hR, ro_69_51 hR, ro_69_52 hR, ro_69_55 hR, ro_69_56 hR, ro_69_57 hR, ro_69_58 hR, ro_69_59 hR, ro_69_61 hR, ro_69_62 hR, ro_69_63 hR, ro_69_64 hR, ro_69_65 hR, ro_69_66 hR, sh_69, sh_70, sh_71, sh_72, sh_73, sh_74, sh_75, sh_76, sh_77, sh_78, sh_79, sh_80, sh_81, sh_82, sh_83, sh_84, sh_85, sh_86, sh_87, sh_88, sh_89, sh_90, sh_91, sh_92, sh_93, sh_94, sh_95, sh_96, sh_97, sh_98, sh_99, sh_100, sh_101, sh_102, sh_103, sh_104, sh_105, sh_106, sh_107, sh_108, sh_109, sh_110, sh_111, sh_112, sh_113, sh_114, sh_115, hl, hvw9, Nat.reduceLT, Nat.reduceAdd, Nat.reduceMul, ne_eq, Nat.reduceEqDiff, not_false_eq_true, or_true, true_or, or_false, false_or, and_true, true_and, and_self, Nat.reduceLeDiff, am_ci, am_cr, am_cn0, Option.toList_some, Option.toList_none, List.cons_append, List.nil_append, am_s0, am_s1, am_s1r, am_s2, am_s2r, am_s3r, nI_add, am_u_ne, am_u_at, am_u_n1, am_u_n2, am_w_ne, ↓reduceIte, e15, hc', not_true_eq_false]
    exact hq
  · have hc' : ¬ sdN b made = nI fs := nI_ne (by omega) (by omega) hc
    rw [decide_eq_false hc] at hq
    simp only [am_lv_of, rX13_forces_52, rX13_forces_53, rX13_forces_56, rX13_forces_58, rX13_forces_59, rX13_forces_60, rX13_forces_67, rX13_forces_68, ro_69_1 hR, ro_69_3 hR, ro_69_5 hR, ro_69_6 hR, ro_69_7 hR, ro_69_8 hR, ro_69_9 hR, ro_69_21 hR, ro_69_22 hR, ro_69_23 hR, ro_69_24 hR, ro_69_25 hR, ro_69_26 hR, ro_69_27 hR, ro_69_28 hR, ro_69_29 hR, ro_69_30 hR, ro_69_31 hR, ro_69_32 hR, ro_69_33 hR, ro_69_34 hR, ro_69_35 hR, ro_69_36 hR, ro_69_38 hR, ro_69_39 hR, ro_69_40 hR, ro_69_41 hR, ro_69_42 hR, ro_69_44 hR, ro_69_45 hR, ro_69_46 hR, ro_69_48 hR, ro_69_49 hR, ro_69_51 hR, ro_69_52 hR, ro_69_55 hR, ro_69_56 hR, ro_69_57 hR, ro_69_58 hR, ro_69_59 hR, ro_69_61 hR, ro_69_62 hR, ro_69_63 hR, ro_69_64 hR, ro_69_65 hR, ro_69_66 hR, sh_69, sh_70, sh_71, sh_72, sh_73, sh_74, sh_75, sh_76, sh_77, sh_78, sh_79, sh_80, sh_81, sh_82, sh_83, sh_84, sh_85, sh_86, sh_87, sh_88, sh_89, sh_90, sh_91, sh_92, sh_93, sh_94, sh_95, sh_96, sh_97, sh_98, sh_99, sh_100, sh_101, sh_102, sh_103, sh_104, sh_105, sh_106, sh_107, sh_108, sh_109, sh_110, sh_111, sh_112, sh_113, sh_114, sh_115, hl, hvw9, Nat.reduceLT, Nat.reduceAdd, Nat.reduceMul, ne_eq, Nat.reduceEqDiff, not_false_eq_true, or_true, true_or, or_false, false_or, and_true, true_and, and_self, Nat.reduceLeDiff, am_ci, am_cr, am_cn0, Option.toList_some, Option.toList_none, List.cons_append, List.nil_append, am_s0, am_s1, am_s1r, am_s2, am_s2r, am_s3r, nI_add, am_u_ne, am_u_at, am_u_n1, am_u_n2, am_w_ne, ↓reduceIte, e15, hc', not_false_eq_true]
    exact hq
/-- a frame is gone through -/
def frmC (X : am_X) (n : Nat) (L : Nat → Nat → Int64) (R : Nat → Nat → Option Nat) (σ : rfP) (b : Nat) (pl : Int32) (fs nn D rem : Nat) : Prop := ∀ (dp made w : Nat) (v : Int32) (I : Nat → Nat → Int32) (val : Bool) (l6 l7 l8 : Option Value) (Q : Option Value → am_M → Prop), dp + rem = nn → rf_S I σ → rowK σ b pl w made v (fun j => I 106 (18 * dp + j)) → I 107 dp = nI 0 → I 108 dp = nI 0 → (∀ I' l6 l7 l8, am_ag (fwP dp) I I' → am_E X D mX13_forces 13 [some (.ref 69), some (.int (nI fs)), some (.int (nI nn)), some (.int (nI dp + -1)), some (.int (bI true)), some (.int (bI (wonV σ b pl fs rem made w v))), l6, l7, l8] [] (n, I', L, R) Q) → am_E X D mX13_forces 13 [some (.ref 69), some (.int (nI fs)), some (.int (nI nn)), some (.int (nI dp)), some (.int (bI false)), some (.int (bI val)), l6, l7, l8] [] (n, I, L, R) Q
theorem l_frEnd {dp w made : Nat} {v : Int32} {val mine : Bool} {l7 l8 : Option Value} (hR : am_OR R) (hN : 116 ≤ n) (hdp : dp ≤ 5) (hnn : nn ≤ 5) (h17 : I 104 17 = v) (hv : ¬ v = 0 ∨ dp = nn) (hQ : ∀ l6 l7 l8, am_E X d mX13_forces 13 [some (.ref 69), some (.int (nI fs)), some (.int (nI nn)), some (.int (nI dp + -1)), some (.int (bI true)), some (.int (bI (decide (v = nI (fs + 1))))), l6, l7, l8] [] (n, I, L, R) Q) : am_E X d mX13_forces 70 [some (.ref 69), some (.int (nI fs)), some (.int (nI nn)), some (.int (nI dp)), some (.int (bI false)), some (.int (bI val)), some (.int (bI mine)), l7, l8] [] (n, I, L, R) Q := by
  have hl := am_lt hN
  have hvw9 := am_lw hN
  have z0 : (bI false = 0) = True := eq_true (by decide)
  have z1 : ¬ nI 1 = 0 := by decide
  have fin : ∀ l7', am_E X d mX13_forces 109 [some (.ref 69), some (.int (nI fs)), some (.int (nI nn)), some (.int (nI dp)), some (.int (bI false)), some (.int (bI val)), some (.int (bI mine)), l7', l8] [] (n, I, L, R) Q := by
    intro l7'
    simp only [am_lv_of, rX13_forces_109, rX13_forces_110, rX13_forces_113, rX13_forces_115, rX13_forces_116, rX13_forces_117, rX13_forces_118, ro_69_1 hR, ro_69_3 hR, ro_69_5 hR, ro_69_6 hR, ro_69_7 hR, ro_69_8 hR, ro_69_9 hR, ro_69_21 hR, ro_69_22 hR, ro_69_23 hR, ro_69_24 hR, ro_69_25 hR, ro_69_26 hR, ro_69_27 hR, ro_69_28 hR, ro_69_29 hR, ro_69_30 hR, ro_69_31 hR, ro_69_32 hR, ro_69_33 hR, ro_69_34 hR, ro_69_35 hR, ro_69_36 hR, ro_69_38 hR, ro_69_39 hR, ro_69_40 hR, ro_69_41 hR, ro_69_42 hR, ro_69_44 hR, ro_69_45 hR, ro_69_46 hR, ro_69_48 hR, ro_69_49 hR, ro_69_51 hR, ro_69_52 hR, ro_69_55 hR, ro_69_56 hR, ro_69_57 hR, ro_69_58 hR, ro_69_59 hR, ro_69_61 hR, ro_69_62 hR, ro_69_63 hR, ro_69_64 hR, ro_69_65 hR, ro_69_66 hR, sh_69, sh_70, sh_71, sh_72, sh_73, sh_74, sh_75, sh_76, sh_77, sh_78, sh_79, sh_80, sh_81, sh_82, sh_83, sh_84, sh_85, sh_86, sh_87, sh_88, sh_89, sh_90, sh_91, sh_92, sh_93, sh_94, sh_95, sh_96, sh_97, sh_98, sh_99, sh_100, sh_101, sh_102, sh_103, sh_104, sh_105, sh_106, sh_107, sh_108, sh_109, sh_110, sh_111, sh_112, sh_113, sh_114, sh_115, hl, hvw9, Nat.reduceLT, Nat.reduceAdd, Nat.reduceMul, ne_eq, Nat.reduceEqDiff, not_false_eq_true, or_true, true_or, or_false, false_or, and_true, true_and, and_self, Nat.reduceLeDiff, am_ci, am_cr, am_cn0, Option.toList_some, Option.toList_none, List.cons_append, List.nil_append, am_s0, am_s1, am_s1r, am_s2, am_s2r, am_s3r, nI_add, am_u_ne, am_u_at, am_u_n1, am_u_n2, am_w_ne, h17, rX13_forces_119]
    by_cases hc : v = nI (fs + 1)
    · have hc' : (v = nI (fs + 1)) = True := eq_true hc
      have hq := hQ (some (.int (bI mine))) (some (.int (nI 1))) l8
      rw [decide_eq_true hc] at hq
      simp only [am_lv_of, hc', not_true_eq_false, ↓reduceIte, rX13_forces_122, rX13_forces_123, rX13_forces_127, rX13_forces_129, rX13_forces_130, rX13_forces_132, rX13_forces_134, rX13_forces_136, rX13_forces_138, rX13_forces_141, rX13_forces_144, hl, hvw9, Nat.reduceLT, Nat.reduceAdd, Nat.reduceMul, ne_eq, Nat.reduceEqDiff, not_false_eq_true, or_true, true_or, or_false, false_or, and_true, true_and, and_self, Nat.reduceLeDiff, am_ci, am_cr, am_cn0, Option.toList_some, Option.toList_none, List.cons_append, List.nil_append, am_s0, am_s1, am_s1r, am_s2, am_s2r, am_s3r, nI_add, am_u_ne, am_u_at, am_u_n1, am_u_n2, am_w_ne, z1]
      exact hq
    · have hq := hQ (some (.int (bI mine))) (some (.int (nI 1))) l8
      rw [decide_eq_false hc] at hq
      simp only [am_lv_of, hc, not_false_eq_true, ↓reduceIte, rX13_forces_126, rX13_forces_127, rX13_forces_129, rX13_forces_130, rX13_forces_132, rX13_forces_134, rX13_forces_136, rX13_forces_138, rX13_forces_141, rX13_forces_144, hl, hvw9, Nat.reduceLT, Nat.reduceAdd, Nat.reduceMul, ne_eq, Nat.reduceEqDiff, not_false_eq_true, or_true, true_or, or_false, false_or, and_true, true_and, and_self, Nat.reduceLeDiff, am_ci, am_cr, am_cn0, Option.toList_some, Option.toList_none, List.cons_append, List.nil_append, am_s0, am_s1, am_s1r, am_s2, am_s2r, am_s3r, nI_add, am_u_ne, am_u_at, am_u_n1, am_u_n2, am_w_ne, z1]
      exact hq
  by_cases hv0 : v = 0
  · have hd := hv.resolve_left (fun z => z hv0)
    have hv' : (v = 0) = True := eq_true hv0
    have hd' : (nI dp = nI nn) = True := eq_true (by rw [hd])
    simp only [am_lv_of, rX13_forces_70, rX13_forces_72, rX13_forces_86, rX13_forces_87, rX13_forces_89, rX13_forces_91, rX13_forces_94, rX13_forces_95, rX13_forces_98, rX13_forces_100, rX13_forces_101, rX13_forces_104, rX13_forces_105, rX13_forces_106, ro_69_1 hR, ro_69_3 hR, ro_69_5 hR, ro_69_6 hR, ro_69_7 hR, ro_69_8 hR, ro_69_9 hR, ro_69_21 hR, ro_69_22 hR, ro_69_23 hR, ro_69_24 hR, ro_69_25 hR, ro_69_26 hR, ro_69_27 hR, ro_69_28 hR, ro_69_29 hR, ro_69_30 hR, ro_69_31 hR, ro_69_32 hR, ro_69_33 hR, ro_69_34 hR, ro_69_35 hR, ro_69_36 hR, ro_69_38 hR, ro_69_39 hR, ro_69_40 hR, ro_69_41 hR, ro_69_42 hR, ro_69_44 hR, ro_69_45 hR, ro_69_46 hR, ro_69_48 hR, ro_69_49 hR, ro_69_51 hR, ro_69_52 hR, ro_69_55 hR, ro_69_56 hR, ro_69_57 hR, ro_69_58 hR, ro_69_59 hR, ro_69_61 hR, ro_69_62 hR, ro_69_63 hR, ro_69_64 hR, ro_69_65 hR, ro_69_66 hR, sh_69, sh_70, sh_71, sh_72, sh_73, sh_74, sh_75, sh_76, sh_77, sh_78, sh_79, sh_80, sh_81, sh_82, sh_83, sh_84, sh_85, sh_86, sh_87, sh_88, sh_89, sh_90, sh_91, sh_92, sh_93, sh_94, sh_95, sh_96, sh_97, sh_98, sh_99, sh_100, sh_101, sh_102, sh_103, sh_104, sh_105, sh_106, sh_107, sh_108, sh_109, sh_110, sh_111, sh_112, sh_113, sh_114, sh_115, hl, hvw9, Nat.reduceLT, Nat.reduceAdd, Nat.reduceMul, ne_eq, Nat.reduceEqDiff, not_false_eq_true, or_true, true_or, or_false, false_or, and_true, true_and, and_self, Nat.reduceLeDiff, am_ci, am_cr, am_cn0, Option.toList_some, Option.toList_none, List.cons_append, List.nil_append, am_s0, am_s1, am_s1r, am_s2, am_s2r, am_s3r, nI_add, am_u_ne, am_u_at, am_u_n1, am_u_n2, am_w_ne, ↓reduceIte, z0, not_true_eq_false, h17, hv', hd']
    exact fin _
  · simp only [am_lv_of, rX13_forces_70, rX13_forces_72, rX13_forces_86, rX13_forces_87, rX13_forces_89, rX13_forces_91, rX13_forces_94, rX13_forces_95, rX13_forces_98, rX13_forces_100, rX13_forces_101, ro_69_1 hR, ro_69_3 hR, ro_69_5 hR, ro_69_6 hR, ro_69_7 hR, ro_69_8 hR, ro_69_9 hR, ro_69_21 hR, ro_69_22 hR, ro_69_23 hR, ro_69_24 hR, ro_69_25 hR, ro_69_26 hR, ro_69_27 hR, ro_69_28 hR, ro_69_29 hR, ro_69_30 hR, ro_69_31 hR, ro_69_32 hR, ro_69_33 hR, ro_69_34 hR, ro_69_35 hR, ro_69_36 hR, ro_69_38 hR, ro_69_39 hR, ro_69_40 hR, ro_69_41 hR, ro_69_42 hR, ro_69_44 hR, ro_69_45 hR, ro_69_46 hR, ro_69_48 hR, ro_69_49 hR, ro_69_51 hR, ro_69_52 hR, ro_69_55 hR, ro_69_56 hR, ro_69_57 hR, ro_69_58 hR, ro_69_59 hR, ro_69_61 hR, ro_69_62 hR, ro_69_63 hR, ro_69_64 hR, ro_69_65 hR, ro_69_66 hR, sh_69, sh_70, sh_71, sh_72, sh_73, sh_74, sh_75, sh_76, sh_77, sh_78, sh_79, sh_80, sh_81, sh_82, sh_83, sh_84, sh_85, sh_86, sh_87, sh_88, sh_89, sh_90, sh_91, sh_92, sh_93, sh_94, sh_95, sh_96, sh_97, sh_98, sh_99, sh_100, sh_101, sh_102, sh_103, sh_104, sh_105, sh_106, sh_107, sh_108, sh_109, sh_110, sh_111, sh_112, sh_113, sh_114, sh_115, hl, hvw9, Nat.reduceLT, Nat.reduceAdd, Nat.reduceMul, ne_eq, Nat.reduceEqDiff, not_false_eq_true, or_true, true_or, or_false, false_or, and_true, true_and, and_self, Nat.reduceLeDiff, am_ci, am_cr, am_cn0, Option.toList_some, Option.toList_none, List.cons_append, List.nil_append, am_s0, am_s1, am_s1r, am_s2, am_s2r, am_s3r, nI_add, am_u_ne, am_u_at, am_u_n1, am_u_n2, am_w_ne, ↓reduceIte, z0, not_true_eq_false, h17, hv0, not_false_eq_true]
    exact fin _
/-- back from a frame above: either that ends this one, or it goes on -/
theorem l_back {dp w made s : Nat} {v : Int32} {val pulled : Bool} {l6 l7 l8 : Option Value} (hR : am_OR R) (hN : 116 ≤ n) (hn : n ≤ 1000) (hdp : dp < 5) (hfs : fs < 2) (hf : rowK σ b pl w made v (fun j => I 106 (18 * dp + j))) (h107 : I 107 dp = nI s)
    (hE : val = decide ((b + made) % 2 = fs) → ∀ I1 l6 l7 l8, am_ag (fun k _ => k = 104) I I1 → am_E X d mX13_forces 13 [some (.ref 69), some (.int (nI fs)), some (.int (nI nn)), some (.int (nI dp + -1)), some (.int (bI true)), some (.int (bI val)), l6, l7, l8] [] (n, I1, L, R) Q)
    (hG : ¬ val = decide ((b + made) % 2 = fs) → ∀ I1, am_ag (fun k _ => k = 104) I I1 → (∀ j, j < 18 → I1 104 j = I 106 (18 * dp + j)) → am_E X d mX13_forces 155 [some (.ref 69), some (.int (nI fs)), some (.int (nI nn)), some (.int (nI dp)), some (.int (bI false)), some (.int (bI val)), some (.int (bI (decide ((b + made) % 2 = fs)))), some (.int (bI false)), some (.int (nI s))] [] (n, I1, L, R) Q) :
    am_E X d mX13_forces 13 [some (.ref 69), some (.int (nI fs)), some (.int (nI nn)), some (.int (nI dp)), some (.int (bI true)), some (.int (bI val)), l6, l7, l8] [] (n, I, L, R) Q := by
  have hl := am_lt hN
  have hvw9 := am_lw hN
  refine l_head (σ := σ) (b := b) (pl := pl) (w := w) (made := made) (v := v) hR hN hn (by omega) hfs hf (fun I1 g1 e1 => ?_)
  have z1 : ¬ bI true = 0 := by decide
  have z1' : ¬ nI 1 = 0 := by decide
  have z0 : (nI 0 = 0) = True := eq_true rfl
  have d6 : dp < 6 := by omega
  have q107 : I1 107 dp = nI s := by rw [g1 107 dp (by omega)]; exact h107
  simp only [am_lv_of, rX13_forces_70, rX13_forces_72, rX13_forces_75, rX13_forces_77, hl, hvw9, Nat.reduceLT, Nat.reduceAdd, Nat.reduceMul, ne_eq, Nat.reduceEqDiff, not_false_eq_true, or_true, true_or, or_false, false_or, and_true, true_and, and_self, Nat.reduceLeDiff, am_ci, am_cr, am_cn0, Option.toList_some, Option.toList_none, List.cons_append, List.nil_append, am_s0, am_s1, am_s1r, am_s2, am_s2r, am_s3r, nI_add, am_u_ne, am_u_at, am_u_n1, am_u_n2, am_w_ne, ↓reduceIte, z1, rX13_forces_79, bI_inj]
  by_cases hc : val = decide ((b + made) % 2 = fs)
  · have hc' : (val = decide ((b + made) % 2 = fs)) = True := eq_true hc
    have hq := hE hc I1 (some (.int (bI (decide ((b + made) % 2 = fs))))) (some (.int (nI 1))) l8 g1
    simp only [am_lv_of, hc', not_true_eq_false, ↓reduceIte, rX13_forces_82, rX13_forces_83, rX13_forces_87, rX13_forces_89, rX13_forces_91, rX13_forces_132, rX13_forces_134, rX13_forces_136, rX13_forces_138, rX13_forces_141, rX13_forces_144, hl, hvw9, Nat.reduceLT, Nat.reduceAdd, Nat.reduceMul, ne_eq, Nat.reduceEqDiff, not_false_eq_true, or_true, true_or, or_false, false_or, and_true, true_and, and_self, Nat.reduceLeDiff, am_ci, am_cr, am_cn0, Option.toList_some, Option.toList_none, List.cons_append, List.nil_append, am_s0, am_s1, am_s1r, am_s2, am_s2r, am_s3r, nI_add, am_u_ne, am_u_at, am_u_n1, am_u_n2, am_w_ne, z1, z1', not_false_eq_true]
    exact hq
  · have hq := hG hc I1 g1 e1
    simp only [am_lv_of, hc, not_false_eq_true, ↓reduceIte, rX13_forces_86, rX13_forces_87, rX13_forces_89, rX13_forces_91, rX13_forces_132, rX13_forces_134, rX13_forces_136, rX13_forces_138, rX13_forces_147, rX13_forces_148, rX13_forces_151, rX13_forces_152, rX13_forces_153, ro_69_1 hR, ro_69_3 hR, ro_69_5 hR, ro_69_6 hR, ro_69_7 hR, ro_69_8 hR, ro_69_9 hR, ro_69_21 hR, ro_69_22 hR, ro_69_23 hR, ro_69_24 hR, ro_69_25 hR, ro_69_26 hR, ro_69_27 hR, ro_69_28 hR, ro_69_29 hR, ro_69_30 hR, ro_69_31 hR, ro_69_32 hR, ro_69_33 hR, ro_69_34 hR, ro_69_35 hR, ro_69_36 hR, ro_69_38 hR, ro_69_39 hR, ro_69_40 hR, ro_69_41 hR, ro_69_42 hR, ro_69_44 hR, ro_69_45 hR, ro_69_46 hR, ro_69_48 hR, ro_69_49 hR, ro_69_51 hR, ro_69_52 hR, ro_69_55 hR, ro_69_56 hR, ro_69_57 hR, ro_69_58 hR, ro_69_59 hR, ro_69_61 hR, ro_69_62 hR, ro_69_63 hR, ro_69_64 hR, ro_69_65 hR, ro_69_66 hR, sh_69, sh_70, sh_71, sh_72, sh_73, sh_74, sh_75, sh_76, sh_77, sh_78, sh_79, sh_80, sh_81, sh_82, sh_83, sh_84, sh_85, sh_86, sh_87, sh_88, sh_89, sh_90, sh_91, sh_92, sh_93, sh_94, sh_95, sh_96, sh_97, sh_98, sh_99, sh_100, sh_101, sh_102, sh_103, sh_104, sh_105, sh_106, sh_107, sh_108, sh_109, sh_110, sh_111, sh_112, sh_113, sh_114, sh_115, hl, hvw9, Nat.reduceLT, Nat.reduceAdd, Nat.reduceMul, ne_eq, Nat.reduceEqDiff, not_false_eq_true, or_true, true_or, or_false, false_or, and_true, true_and, and_self, Nat.reduceLeDiff, am_ci, am_cr, am_cn0, Option.toList_some, Option.toList_none, List.cons_append, List.nil_append, am_s0, am_s1, am_s1r, am_s2, am_s2r, am_s3r, nI_add, am_u_ne, am_u_at, am_u_n1, am_u_n2, am_w_ne, z1, z0, d6, q107]
    exact hq
theorem l_child {dp w' made s : Nat} {v' : Int32} {rem : Nat} {val : Bool} {l7 : Option Value} {l6 : Int32} (hR : am_OR R) (hN : 116 ≤ n) (hn : n ≤ 1000) (hIH : frmC X n L R σ b pl fs nn (d + 8) rem) (hdp : dp + 1 + rem = nn) (hnn : nn ≤ 5) (H : rf_S I σ) (hrow : rowK σ b pl w' (made + 1) v' (I 104)) (h107 : I 107 dp = nI s) (hQ : ∀ I' l6 l7 l8, am_ag (fwP dp) I I' → I' 107 dp = nI s → I' 108 dp = nI 1 → am_E X (d + 8) mX13_forces 13 [some (.ref 69), some (.int (nI fs)), some (.int (nI nn)), some (.int (nI dp)), some (.int (bI true)), some (.int (bI (wonV σ b pl fs rem (made + 1) w' v'))), l6, l7, l8] [] (n, I', L, R) Q) : ∀ l8, am_E X (d + 8) mX13_forces 284 [some (.ref 69), some (.int (nI fs)), some (.int (nI nn)), some (.int (nI dp)), some (.int (bI false)), some (.int (bI val)), some (.int l6), l7, l8] [] (n, I, L, R) Q := by
  have hl := am_lt hN
  have hvw9 := am_lw hN
  have d6 : dp < 6 := by omega
  intro l8
  simp only [am_lv_of, rX13_forces_284, rX13_forces_285, rX13_forces_288, rX13_forces_289, rX13_forces_290z, rX13_forces_291, rX13_forces_294, rX13_forces_295, rX13_forces_296, ro_69_1 hR, ro_69_3 hR, ro_69_5 hR, ro_69_6 hR, ro_69_7 hR, ro_69_8 hR, ro_69_9 hR, ro_69_21 hR, ro_69_22 hR, ro_69_23 hR, ro_69_24 hR, ro_69_25 hR, ro_69_26 hR, ro_69_27 hR, ro_69_28 hR, ro_69_29 hR, ro_69_30 hR, ro_69_31 hR, ro_69_32 hR, ro_69_33 hR, ro_69_34 hR, ro_69_35 hR, ro_69_36 hR, ro_69_38 hR, ro_69_39 hR, ro_69_40 hR, ro_69_41 hR, ro_69_42 hR, ro_69_44 hR, ro_69_45 hR, ro_69_46 hR, ro_69_48 hR, ro_69_49 hR, ro_69_51 hR, ro_69_52 hR, ro_69_55 hR, ro_69_56 hR, ro_69_57 hR, ro_69_58 hR, ro_69_59 hR, ro_69_61 hR, ro_69_62 hR, ro_69_63 hR, ro_69_64 hR, ro_69_65 hR, ro_69_66 hR, sh_69, sh_70, sh_71, sh_72, sh_73, sh_74, sh_75, sh_76, sh_77, sh_78, sh_79, sh_80, sh_81, sh_82, sh_83, sh_84, sh_85, sh_86, sh_87, sh_88, sh_89, sh_90, sh_91, sh_92, sh_93, sh_94, sh_95, sh_96, sh_97, sh_98, sh_99, sh_100, sh_101, sh_102, sh_103, sh_104, sh_105, sh_106, sh_107, sh_108, sh_109, sh_110, sh_111, sh_112, sh_113, sh_114, sh_115, hl, hvw9, Nat.reduceLT, Nat.reduceAdd, Nat.reduceMul, ne_eq, Nat.reduceEqDiff, not_false_eq_true, or_true, true_or, or_false, false_or, and_true, true_and, and_self, Nat.reduceLeDiff, am_ci, am_cr, am_cn0, Option.toList_some, Option.toList_none, List.cons_append, List.nil_append, am_s0, am_s1, am_s1r, am_s2, am_s2r, am_s3r, nI_add, am_u_ne, am_u_at, am_u_n1, am_u_n2, am_w_ne, hn, d6, nar_b1]
  refine c_piles hR hN hn (by omega) (fun I2 g2 e2 k7 k8 => ?_)
  have ga : am_ag (fwP dp) I (am_u I 108 dp (nI 1)) := am_ag.refl.u (by unfold fwP; omega)
  have gb : am_ag (fwP dp) I I2 := ga.trans (g2.mono (fun k j z => by unfold fwP; omega))
  have H2 : rf_S I2 σ := by
    have := H.ag (I' := fun k j => if k = 106 ∨ k = 107 ∨ k = 108 then I k j else I2 k j) (fun k j z => by
      by_cases hk : k = 106 ∨ k = 107 ∨ k = 108
      · simp [hk]
      · simp only [hk, if_false]
        exact gb k j (by unfold sc2 sc1 at z; unfold fwP sc2 sc1; omega))
    exact rfS_frame this (fun k j h1 h2 h3 => by simp [h1, h2, h3])
  simp only [am_lv_of, Option.toList_none, List.nil_append, rX13_forces_299]
  refine hIH (dp + 1) (made + 1) w' v' I2 val _ _ _ _ hdp H2 (hrow.c (fun j hj => ?_)) k7 k8 (fun I3 l6' l7' l8' g3 => ?_)
  · rw [e2 j hj, am_u_n1 (by omega)]
  · rw [pk_m1]
    refine hQ I3 l6' l7' l8' (gb.trans (g3.mono (fun k j z => by unfold fwP sc2 sc1 at z ⊢; omega))) ?_ ?_
    · rw [g3 107 dp (by unfold fwP sc2 sc1; omega), g2 107 dp (by omega), am_u_n1 (by omega)]; exact h107
    · rw [g3 108 dp (by unfold fwP sc2 sc1; omega), g2 108 dp (by omega), am_u_at]
theorem l_resume {dp w made : Nat} {rem : Nat} {res : Bool} (hR : am_OR R) (hN : 116 ≤ n) (hn : n ≤ 1000) (ho : ok_S σ) (hb : b < 2) (hfs : fs < 2) (hIH : frmC X n L R σ b pl fs nn (d + 8) rem) (hdp : dp + 1 + rem = nn) (hnn : nn ≤ 5) (H : rf_S I σ) (hf : rowK σ b pl w made 0 (fun j => I 106 (18 * dp + j)))
    (hQ : ∀ I' l6 l7 l8, am_ag (fwP dp) I I' → am_E X (d + 8) mX13_forces 13 [some (.ref 69), some (.int (nI fs)), some (.int (nI nn)), some (.int (nI dp + -1)), some (.int (bI true)), some (.int (bI res)), l6, l7, l8] [] (n, I', L, R) Q) :
    ∀ (k s : Nat) (pulled val : Bool) (J : Nat → Nat → Int32), s + k = p_S σ → am_ag (fwP dp) I J → (∀ j, j < 18 → J 104 j = I 106 (18 * dp + j)) → J 108 dp = bI pulled → tryS (fun s => mayW σ w s (sdN b made) (pl + nI made)) (cMv σ w) (decide ((b + made) % 2 = fs)) (fun w' => won σ b pl fs rem (made + 1) w') w k s pulled = res → am_E X (d + 8) mX13_forces 155 [some (.ref 69), some (.int (nI fs)), some (.int (nI nn)), some (.int (nI dp)), some (.int (bI false)), some (.int (bI val)), some (.int (bI (decide ((b + made) % 2 = fs)))), some (.int (bI false)), some (.int (nI s))] [] (n, J, L, R) Q := by
  have hl := am_lt hN
  have hvw9 := am_lw hN
  have S7 := ho.2.1
  have d6 : dp < 6 := by omega
  have HJ' : ∀ {J : Nat → Nat → Int32}, am_ag (fwP dp) I J → rf_S J σ := fun {J} hJ => by
    have := H.ag (I' := fun k j => if k = 106 ∨ k = 107 ∨ k = 108 then I k j else J k j) (fun k j z => by
      by_cases hk : k = 106 ∨ k = 107 ∨ k = 108
      · simp [hk]
      · simp only [hk, if_false]
        exact hJ k j (by unfold sc2 sc1 at z; unfold fwP sc2 sc1; omega))
    exact rfS_frame this (fun k j h1 h2 h3 => by simp [h1, h2, h3])
  have fr : ∀ {J : Nat → Nat → Int32}, am_ag (fwP dp) I J → rowK σ b pl w made 0 (fun j => J 106 (18 * dp + j)) := fun {J} hJ => hf.c (fun j hj => hJ 106 _ (by unfold fwP sc2 sc1; omega))
  -- with nothing left, and something tried
  have done : ∀ (val : Bool) (J : Nat → Nat → Int32), am_ag (fwP dp) I J → J 108 dp = bI true → res = (!decide ((b + made) % 2 = fs)) → am_E X (d + 8) mX13_forces 155 [some (.ref 69), some (.int (nI fs)), some (.int (nI nn)), some (.int (nI dp)), some (.int (bI false)), some (.int (bI val)), some (.int (bI (decide ((b + made) % 2 = fs)))), some (.int (bI false)), some (.int (nI (p_S σ)))] [] (n, J, L, R) Q := by
    intro val J hJ h108 hres
    obtain ⟨f1, f2, -, -, f5, -⟩ := id (HJ' hJ)
    have c1 : nI (p_S σ) ≤ nI (p_S σ) := nI_le (Nat.le_refl _) (by omega)
    have z1 : ¬ bI true = 0 := by decide
    simp only [am_lv_of, rX13_forces_155, rX13_forces_157, rX13_forces_158, rX13_forces_161, rX13_forces_162, rX13_forces_165, rX13_forces_166, rX13_forces_184, rX13_forces_186, rX13_forces_187, rX13_forces_190, rX13_forces_191, rX13_forces_194, rX13_forces_195, rX13_forces_198, rX13_forces_199, rX13_forces_202, rX13_forces_203, ro_69_1 hR, ro_69_3 hR, ro_69_5 hR, ro_69_6 hR, ro_69_7 hR, ro_69_8 hR, ro_69_9 hR, ro_69_21 hR, ro_69_22 hR, ro_69_23 hR, ro_69_24 hR, ro_69_25 hR, ro_69_26 hR, ro_69_27 hR, ro_69_28 hR, ro_69_29 hR, ro_69_30 hR, ro_69_31 hR, ro_69_32 hR, ro_69_33 hR, ro_69_34 hR, ro_69_35 hR, ro_69_36 hR, ro_69_38 hR, ro_69_39 hR, ro_69_40 hR, ro_69_41 hR, ro_69_42 hR, ro_69_44 hR, ro_69_45 hR, ro_69_46 hR, ro_69_48 hR, ro_69_49 hR, ro_69_51 hR, ro_69_52 hR, ro_69_55 hR, ro_69_56 hR, ro_69_57 hR, ro_69_58 hR, ro_69_59 hR, ro_69_61 hR, ro_69_62 hR, ro_69_63 hR, ro_69_64 hR, ro_69_65 hR, ro_69_66 hR, sh_69, sh_70, sh_71, sh_72, sh_73, sh_74, sh_75, sh_76, sh_77, sh_78, sh_79, sh_80, sh_81, sh_82, sh_83, sh_84, sh_85, sh_86, sh_87, sh_88, sh_89, sh_90, sh_91, sh_92, sh_93, sh_94, sh_95, sh_96, sh_97, sh_98, sh_99, sh_100, sh_101, sh_102, sh_103, sh_104, sh_105, sh_106, sh_107, sh_108, sh_109, sh_110, sh_111, sh_112, sh_113, sh_114, sh_115, hl, hvw9, Nat.reduceLT, Nat.reduceAdd, Nat.reduceMul, ne_eq, Nat.reduceEqDiff, not_false_eq_true, or_true, true_or, or_false, false_or, and_true, true_and, and_self, Nat.reduceLeDiff, am_ci, am_cr, am_cn0, Option.toList_some, Option.toList_none, List.cons_append, List.nil_append, am_s0, am_s1, am_s1r, am_s2, am_s2r, am_s3r, nI_add, am_u_ne, am_u_at, am_u_n1, am_u_n2, am_w_ne, ↓reduceIte, f1, f2, f5, c1, d6, h108, not_true_eq_false, rX13_forces_204, z1, rX13_forces_207, rX13_forces_209, bI_ne]
    have hq := hQ J (some (.int (bI (decide ((b + made) % 2 = fs))))) (some (.int (bI false))) (some (.int (nI (p_S σ)))) hJ
    rw [hres] at hq
    by_cases hm : (b + made) % 2 = fs
    · simp only [decide_eq_true hm, Bool.not_true] at hq
      simp only [am_lv_of, decide_eq_true hm, Bool.true_eq_false, not_false_eq_true, ↓reduceIte, rX13_forces_216, rX13_forces_217, rX13_forces_219, rX13_forces_220, rX13_forces_222, rX13_forces_225, hl, hvw9, Nat.reduceLT, Nat.reduceAdd, Nat.reduceMul, ne_eq, Nat.reduceEqDiff, not_false_eq_true, or_true, true_or, or_false, false_or, and_true, true_and, and_self, Nat.reduceLeDiff, am_ci, am_cr, am_cn0, Option.toList_some, Option.toList_none, List.cons_append, List.nil_append, am_s0, am_s1, am_s1r, am_s2, am_s2r, am_s3r, nI_add, am_u_ne, am_u_at, am_u_n1, am_u_n2, am_w_ne]
      exact hq
    · simp only [decide_eq_false hm, Bool.not_false] at hq
      simp only [am_lv_of, decide_eq_false hm, not_true_eq_false, ↓reduceIte, rX13_forces_212, rX13_forces_213, rX13_forces_217, rX13_forces_219, rX13_forces_220, rX13_forces_222, rX13_forces_225, hl, hvw9, Nat.reduceLT, Nat.reduceAdd, Nat.reduceMul, ne_eq, Nat.reduceEqDiff, not_false_eq_true, or_true, true_or, or_false, false_or, and_true, true_and, and_self, Nat.reduceLeDiff, am_ci, am_cr, am_cn0, Option.toList_some, Option.toList_none, List.cons_append, List.nil_append, am_s0, am_s1, am_s1r, am_s2, am_s2r, am_s3r, nI_add, am_u_ne, am_u_at, am_u_n1, am_u_n2, am_w_ne]
      exact hq
  intro k
  induction k with
  | zero =>
    intro s pulled val J hs hJ hrow h108 he
    have hs : s = p_S σ := by omega
    subst hs
    cases pulled with
    | true => exact done val J hJ h108 (by rw [← he]; rfl)
    | false =>
      have hres : won σ b pl fs rem (made + 1) w = res := he
      obtain ⟨f1, f2, -, -, f5, -⟩ := id (HJ' hJ)
      have c1 : nI (p_S σ) ≤ nI (p_S σ) := nI_le (Nat.le_refl _) (by omega)
      have z0 : (bI false = 0) = True := eq_true (by decide)
      simp only [am_lv_of, rX13_forces_155, rX13_forces_157, rX13_forces_158, rX13_forces_161, rX13_forces_162, rX13_forces_165, rX13_forces_166, rX13_forces_184, rX13_forces_186, rX13_forces_187, rX13_forces_190, rX13_forces_191, rX13_forces_194, rX13_forces_195, rX13_forces_198, rX13_forces_199, rX13_forces_202, rX13_forces_203, rX13_forces_204, rX13_forces_228, rX13_forces_230, rX13_forces_231, rX13_forces_234, rX13_forces_235, rX13_forces_238, rX13_forces_239, rX13_forces_251, rX13_forces_252, ro_69_1 hR, ro_69_3 hR, ro_69_5 hR, ro_69_6 hR, ro_69_7 hR, ro_69_8 hR, ro_69_9 hR, ro_69_21 hR, ro_69_22 hR, ro_69_23 hR, ro_69_24 hR, ro_69_25 hR, ro_69_26 hR, ro_69_27 hR, ro_69_28 hR, ro_69_29 hR, ro_69_30 hR, ro_69_31 hR, ro_69_32 hR, ro_69_33 hR, ro_69_34 hR, ro_69_35 hR, ro_69_36 hR, ro_69_38 hR, ro_69_39 hR, ro_69_40 hR, ro_69_41 hR, ro_69_42 hR, ro_69_44 hR, ro_69_45 hR, ro_69_46 hR, ro_69_48 hR, ro_69_49 hR, ro_69_51 hR, ro_69_52 hR, ro_69_55 hR, ro_69_56 hR, ro_69_57 hR, ro_69_58 hR, ro_69_59 hR, ro_69_61 hR, ro_69_62 hR, ro_69_63 hR, ro_69_64 hR, ro_69_65 hR, ro_69_66 hR, sh_69, sh_70, sh_71, sh_72, sh_73, sh_74, sh_75, sh_76, sh_77, sh_78, sh_79, sh_80, sh_81, sh_82, sh_83, sh_84, sh_85, sh_86, sh_87, sh_88, sh_89, sh_90, sh_91, sh_92, sh_93, sh_94, sh_95, sh_96, sh_97, sh_98, sh_99, sh_100, sh_101, sh_102, sh_103, sh_104, sh_105, sh_106, sh_107, sh_108, sh_109, sh_110, sh_111, sh_112, sh_113, sh_114, sh_115, hl, hvw9, Nat.reduceLT, Nat.reduceAdd, Nat.reduceMul, ne_eq, Nat.reduceEqDiff, not_false_eq_true, or_true, true_or, or_false, false_or, and_true, true_and, and_self, Nat.reduceLeDiff, am_ci, am_cr, am_cn0, Option.toList_some, Option.toList_none, List.cons_append, List.nil_append, am_s0, am_s1, am_s1r, am_s2, am_s2r, am_s3r, nI_add, am_u_ne, am_u_at, am_u_n1, am_u_n2, am_w_ne, ↓reduceIte, f1, f2, f5, c1, d6, h108, not_true_eq_false, z0]
      refine c_turnEnds hR hN hn (HJ' hJ) (fun J1 g1 e1 _ => ?_)
      have hJ1 : am_ag (fwP dp) I J1 := hJ.trans (g1.mono (fun k j z => Or.inl z))
      obtain ⟨k1, k2, -, -, k5, -⟩ := id (HJ' hJ1)
      have hp : rowK σ b pl w made 0 (J 104) := hf.c hrow
      obtain ⟨y1, y2, y3, y4⟩ := rEnd_psr ho hp.1
      rw [← e1] at y1 y2 y3 y4
      rw [hp.2.1, sd_step hb] at y2
      rw [hp.2.2.1, Int32.add_assoc, nI_add] at y3 y4
      simp only [am_lv_of, Option.toList_none, List.nil_append, rX13_forces_255, rX13_forces_256, rX13_forces_259, rX13_forces_260, rX13_forces_262, rX13_forces_263, rX13_forces_266, rX13_forces_267, rX13_forces_270, rX13_forces_271, rX13_forces_281, rX13_forces_283, ro_69_1 hR, ro_69_3 hR, ro_69_5 hR, ro_69_6 hR, ro_69_7 hR, ro_69_8 hR, ro_69_9 hR, ro_69_21 hR, ro_69_22 hR, ro_69_23 hR, ro_69_24 hR, ro_69_25 hR, ro_69_26 hR, ro_69_27 hR, ro_69_28 hR, ro_69_29 hR, ro_69_30 hR, ro_69_31 hR, ro_69_32 hR, ro_69_33 hR, ro_69_34 hR, ro_69_35 hR, ro_69_36 hR, ro_69_38 hR, ro_69_39 hR, ro_69_40 hR, ro_69_41 hR, ro_69_42 hR, ro_69_44 hR, ro_69_45 hR, ro_69_46 hR, ro_69_48 hR, ro_69_49 hR, ro_69_51 hR, ro_69_52 hR, ro_69_55 hR, ro_69_56 hR, ro_69_57 hR, ro_69_58 hR, ro_69_59 hR, ro_69_61 hR, ro_69_62 hR, ro_69_63 hR, ro_69_64 hR, ro_69_65 hR, ro_69_66 hR, sh_69, sh_70, sh_71, sh_72, sh_73, sh_74, sh_75, sh_76, sh_77, sh_78, sh_79, sh_80, sh_81, sh_82, sh_83, sh_84, sh_85, sh_86, sh_87, sh_88, sh_89, sh_90, sh_91, sh_92, sh_93, sh_94, sh_95, sh_96, sh_97, sh_98, sh_99, sh_100, sh_101, sh_102, sh_103, sh_104, sh_105, sh_106, sh_107, sh_108, sh_109, sh_110, sh_111, sh_112, sh_113, sh_114, sh_115, hl, hvw9, Nat.reduceLT, Nat.reduceAdd, Nat.reduceMul, ne_eq, Nat.reduceEqDiff, not_false_eq_true, or_true, true_or, or_false, false_or, and_true, true_and, and_self, Nat.reduceLeDiff, am_ci, am_cr, am_cn0, Option.toList_some, Option.toList_none, List.cons_append, List.nil_append, am_s0, am_s1, am_s1r, am_s2, am_s2r, am_s3r, nI_add, am_u_ne, am_u_at, am_u_n1, am_u_n2, am_w_ne, ↓reduceIte, hn, k1, k2, k5, c1, d6]
      have hJ2 : am_ag (fwP dp) I (am_u J1 107 dp (nI (p_S σ))) := hJ1.u (by unfold fwP; omega)
      refine l_child (made := made) (w' := w) (v' := vdW σ w (pl + nI (made + 1))) (s := p_S σ) hR hN hn hIH hdp hnn (HJ' hJ2) ?_ am_u_at (fun J3 l6 l7 l8 g3 k7 k8 => ?_) _
      · have e104 : am_u J1 107 dp (nI (p_S σ)) 104 = J1 104 := am_u_ne (by omega)
        rw [e104]
        exact ⟨y1, y2, y3, y4⟩
      · have hJ3 := hJ2.trans g3
        refine l_back (σ := σ) (b := b) (pl := pl) (w := w) (made := made) (v := 0) (pulled := true) hR hN hn (by omega) hfs (fr hJ3) k7 (fun hv J4 l6 l7 l8 g4 => ?_) (fun hv J4 g4 e4 => ?_)
        · have hJ4 : am_ag (fwP dp) I J4 := hJ3.trans (g4.mono (fun k j z => by unfold fwP sc2; omega))
          have hq := hQ J4 l6 l7 l8 hJ4
          rw [← hres] at hq
          exact hq
        · have hJ4 : am_ag (fwP dp) I J4 := hJ3.trans (g4.mono (fun k j z => by unfold fwP sc2; omega))
          refine done _ J4 hJ4 (by rw [g4 108 dp (by omega), k8]; rfl) ?_
          rw [← hres]
          have : ¬ won σ b pl fs rem (made + 1) w = decide ((b + made) % 2 = fs) := hv
          revert this
          cases won σ b pl fs rem (made + 1) w <;> cases decide ((b + made) % 2 = fs) <;> simp
  | succ k ih =>
    intro s pulled val J hs hJ hrow h108 he
    have hs2 : s < p_S σ := by omega
    have c1 : ¬ nI (p_S σ) ≤ nI s := nI_ge (by omega) (by omega)
    have c2 : ¬ nI s = nI (p_S σ) := nI_ne (by omega) (by omega) (by omega)
    obtain ⟨f1, f2, -, -, f5, -⟩ := id (HJ' hJ)
    have hp : rowK σ b pl w made 0 (J 104) := hf.c hrow
    rw [tryS] at he
    rw [rX13_forces_155]
    simp only [am_lv_of, rX13_forces_157, rX13_forces_158, rX13_forces_161, rX13_forces_162, rX13_forces_165, rX13_forces_166, rX13_forces_169, rX13_forces_170, rX13_forces_172, ro_69_1 hR, ro_69_3 hR, ro_69_5 hR, ro_69_6 hR, ro_69_7 hR, ro_69_8 hR, ro_69_9 hR, ro_69_21 hR, ro_69_22 hR, ro_69_23 hR, ro_69_24 hR, ro_69_25 hR, ro_69_26 hR, ro_69_27 hR, ro_69_28 hR, ro_69_29 hR, ro_69_30 hR, ro_69_31 hR, ro_69_32 hR, ro_69_33 hR, ro_69_34 hR, ro_69_35 hR, ro_69_36 hR, ro_69_38 hR, ro_69_39 hR, ro_69_40 hR, ro_69_41 hR, ro_69_42 hR, ro_69_44 hR, ro_69_45 hR, ro_69_46 hR, ro_69_48 hR, ro_69_49 hR, ro_69_51 hR, ro_69_52 hR, ro_69_55 hR, ro_69_56 hR, ro_69_57 hR, ro_69_58 hR, ro_69_59 hR, ro_69_61 hR, ro_69_62 hR, ro_69_63 hR, ro_69_64 hR, ro_69_65 hR, ro_69_66 hR, sh_69, sh_70, sh_71, sh_72, sh_73, sh_74, sh_75, sh_76, sh_77, sh_78, sh_79, sh_80, sh_81, sh_82, sh_83, sh_84, sh_85, sh_86, sh_87, sh_88, sh_89, sh_90, sh_91, sh_92, sh_93, sh_94, sh_95, sh_96, sh_97, sh_98, sh_99, sh_100, sh_101, sh_102, sh_103, sh_104, sh_105, sh_106, sh_107, sh_108, sh_109, sh_110, sh_111, sh_112, sh_113, sh_114, sh_115, hl, hvw9, Nat.reduceLT, Nat.reduceAdd, Nat.reduceMul, ne_eq, Nat.reduceEqDiff, not_false_eq_true, or_true, true_or, or_false, false_or, and_true, true_and, and_self, Nat.reduceLeDiff, am_ci, am_cr, am_cn0, Option.toList_some, Option.toList_none, List.cons_append, List.nil_append, am_s0, am_s1, am_s1r, am_s2, am_s2r, am_s3r, nI_add, am_u_ne, am_u_at, am_u_n1, am_u_n2, am_w_ne, ↓reduceIte, f1, f2, f5, c1]
    refine c_mayNow hR hN hn (HJ' hJ) hs2 (fun J1 g1 => ?_)
    have hJ1 : am_ag (fwP dp) I J1 := hJ.trans (g1.mono (fun k j z => Or.inl (Or.inl z)))
    have e104 := ag1_104 g1
    have emay : rMayN σ (J 104) s = mayW σ w s (sdN b made) (pl + nI made) := by
      unfold rMayN
      rw [hp.1.may ho hs2, hp.2.1, hp.2.2.1, hp.2.2.2]
      simp
    have h108' : J1 108 dp = bI pulled := by rw [g1 108 dp (by unfold sc1; omega)]; exact h108
    simp only [am_lv_of, Option.toList_some, List.cons_append, List.nil_append, rX13_forces_175, bI_ne, emay]
    by_cases hmay : mayW σ w s (sdN b made) (pl + nI made) = true
    · have hst := mayW_st ho hs2 hp.1.ok hmay
      rw [if_pos hmay] at he
      obtain ⟨k1, k2, -, -, k5, -⟩ := id (HJ' hJ1)
      simp only [am_lv_of, hmay, Bool.true_eq_false, not_false_eq_true, ↓reduceIte, rX13_forces_184, rX13_forces_186, rX13_forces_187, rX13_forces_190, rX13_forces_191, rX13_forces_194, rX13_forces_195, rX13_forces_228, rX13_forces_230, rX13_forces_231, rX13_forces_234, rX13_forces_235, rX13_forces_238, rX13_forces_239, rX13_forces_242, rX13_forces_243, rX13_forces_245, ro_69_1 hR, ro_69_3 hR, ro_69_5 hR, ro_69_6 hR, ro_69_7 hR, ro_69_8 hR, ro_69_9 hR, ro_69_21 hR, ro_69_22 hR, ro_69_23 hR, ro_69_24 hR, ro_69_25 hR, ro_69_26 hR, ro_69_27 hR, ro_69_28 hR, ro_69_29 hR, ro_69_30 hR, ro_69_31 hR, ro_69_32 hR, ro_69_33 hR, ro_69_34 hR, ro_69_35 hR, ro_69_36 hR, ro_69_38 hR, ro_69_39 hR, ro_69_40 hR, ro_69_41 hR, ro_69_42 hR, ro_69_44 hR, ro_69_45 hR, ro_69_46 hR, ro_69_48 hR, ro_69_49 hR, ro_69_51 hR, ro_69_52 hR, ro_69_55 hR, ro_69_56 hR, ro_69_57 hR, ro_69_58 hR, ro_69_59 hR, ro_69_61 hR, ro_69_62 hR, ro_69_63 hR, ro_69_64 hR, ro_69_65 hR, ro_69_66 hR, sh_69, sh_70, sh_71, sh_72, sh_73, sh_74, sh_75, sh_76, sh_77, sh_78, sh_79, sh_80, sh_81, sh_82, sh_83, sh_84, sh_85, sh_86, sh_87, sh_88, sh_89, sh_90, sh_91, sh_92, sh_93, sh_94, sh_95, sh_96, sh_97, sh_98, sh_99, sh_100, sh_101, sh_102, sh_103, sh_104, sh_105, sh_106, sh_107, sh_108, sh_109, sh_110, sh_111, sh_112, sh_113, sh_114, sh_115, hl, hvw9, Nat.reduceLT, Nat.reduceAdd, Nat.reduceMul, ne_eq, Nat.reduceEqDiff, not_false_eq_true, or_true, true_or, or_false, false_or, and_true, true_and, and_self, Nat.reduceLeDiff, am_ci, am_cr, am_cn0, Option.toList_some, Option.toList_none, List.cons_append, List.nil_append, am_s0, am_s1, am_s1r, am_s2, am_s2r, am_s3r, nI_add, am_u_ne, am_u_at, am_u_n1, am_u_n2, am_w_ne, k1, k2, k5, c1, c2]
      refine c_plays hR hN hn (HJ' hJ1) hs2 (fun J2 g2 e2 _ => ?_)
      have hJ2 : am_ag (fwP dp) I J2 := hJ1.trans (g2.mono (fun k j z => Or.inl z))
      obtain ⟨q1, q2, -, -, q5, -⟩ := id (HJ' hJ2)
      rw [e104] at e2
      obtain ⟨y1, y2, y3, y4⟩ := rPl_psr ho hs2 hp.1 hst
      rw [← e2] at y1 y2 y3 y4
      rw [hp.2.1, sd_step hb] at y2
      rw [hp.2.2.1, Int32.add_assoc, nI_add] at y3 y4
      simp only [am_lv_of, Option.toList_none, List.nil_append, rX13_forces_248, rX13_forces_255, rX13_forces_256, rX13_forces_259, rX13_forces_260, rX13_forces_262, rX13_forces_263, rX13_forces_266, rX13_forces_267, rX13_forces_270, rX13_forces_271, rX13_forces_274, rX13_forces_276, rX13_forces_277, rX13_forces_278, rX13_forces_283, ro_69_1 hR, ro_69_3 hR, ro_69_5 hR, ro_69_6 hR, ro_69_7 hR, ro_69_8 hR, ro_69_9 hR, ro_69_21 hR, ro_69_22 hR, ro_69_23 hR, ro_69_24 hR, ro_69_25 hR, ro_69_26 hR, ro_69_27 hR, ro_69_28 hR, ro_69_29 hR, ro_69_30 hR, ro_69_31 hR, ro_69_32 hR, ro_69_33 hR, ro_69_34 hR, ro_69_35 hR, ro_69_36 hR, ro_69_38 hR, ro_69_39 hR, ro_69_40 hR, ro_69_41 hR, ro_69_42 hR, ro_69_44 hR, ro_69_45 hR, ro_69_46 hR, ro_69_48 hR, ro_69_49 hR, ro_69_51 hR, ro_69_52 hR, ro_69_55 hR, ro_69_56 hR, ro_69_57 hR, ro_69_58 hR, ro_69_59 hR, ro_69_61 hR, ro_69_62 hR, ro_69_63 hR, ro_69_64 hR, ro_69_65 hR, ro_69_66 hR, sh_69, sh_70, sh_71, sh_72, sh_73, sh_74, sh_75, sh_76, sh_77, sh_78, sh_79, sh_80, sh_81, sh_82, sh_83, sh_84, sh_85, sh_86, sh_87, sh_88, sh_89, sh_90, sh_91, sh_92, sh_93, sh_94, sh_95, sh_96, sh_97, sh_98, sh_99, sh_100, sh_101, sh_102, sh_103, sh_104, sh_105, sh_106, sh_107, sh_108, sh_109, sh_110, sh_111, sh_112, sh_113, sh_114, sh_115, hl, hvw9, Nat.reduceLT, Nat.reduceAdd, Nat.reduceMul, ne_eq, Nat.reduceEqDiff, not_false_eq_true, or_true, true_or, or_false, false_or, and_true, true_and, and_self, Nat.reduceLeDiff, am_ci, am_cr, am_cn0, Option.toList_some, Option.toList_none, List.cons_append, List.nil_append, am_s0, am_s1, am_s1r, am_s2, am_s2r, am_s3r, nI_add, am_u_ne, am_u_at, am_u_n1, am_u_n2, am_w_ne, ↓reduceIte, hn, q1, q2, q5, c1, d6]
      have hJ3 : am_ag (fwP dp) I (am_u J2 107 dp (nI (s + 1))) := hJ2.u (by unfold fwP; omega)
      refine l_child (made := made) (w' := cMv σ w s) (v' := vdW σ (cMv σ w s) (pl + nI (made + 1))) (s := s + 1) hR hN hn hIH hdp hnn (HJ' hJ3) ?_ am_u_at (fun J4 l6 l7 l8 g4 k7 k8 => ?_) _
      · have e104 : am_u J2 107 dp (nI (s + 1)) 104 = J2 104 := am_u_ne (by omega)
        rw [e104]
        exact ⟨y1, y2, y3, y4⟩
      · have hJ4 := hJ3.trans g4
        refine l_back (σ := σ) (b := b) (pl := pl) (w := w) (made := made) (v := 0) (pulled := true) hR hN hn (by omega) hfs (fr hJ4) k7 (fun hv J5 l6 l7 l8 g5 => ?_) (fun hv J5 g5 e5 => ?_)
        · have hJ5 : am_ag (fwP dp) I J5 := hJ4.trans (g5.mono (fun k j z => by unfold fwP sc2; omega))
          have hv2 : won σ b pl fs rem (made + 1) (cMv σ w s) = decide ((b + made) % 2 = fs) := hv
          rw [if_pos hv2] at he
          have hq := hQ J5 l6 l7 l8 hJ5
          rw [← he] at hq
          rw [hv]
          exact hq
        · have hJ5 : am_ag (fwP dp) I J5 := hJ4.trans (g5.mono (fun k j z => by unfold fwP sc2; omega))
          have hv2 : ¬ won σ b pl fs rem (made + 1) (cMv σ w s) = decide ((b + made) % 2 = fs) := hv
          rw [if_neg hv2] at he
          refine ih (s + 1) true _ J5 (by omega) hJ5 (fun j hj => ?_) (by rw [g5 108 dp (by omega), k8]; rfl) he
          rw [e5 j hj, hJ4 106 _ (by unfold fwP sc2 sc1; omega)]
    · rw [if_neg hmay] at he
      have hmay : mayW σ w s (sdN b made) (pl + nI made) = false := by simpa using hmay
      simp only [am_lv_of, hmay, not_true_eq_false, ↓reduceIte, rX13_forces_178, rX13_forces_181, hl, hvw9, Nat.reduceLT, Nat.reduceAdd, Nat.reduceMul, ne_eq, Nat.reduceEqDiff, not_false_eq_true, or_true, true_or, or_false, false_or, and_true, true_and, and_self, Nat.reduceLeDiff, am_ci, am_cr, am_cn0, Option.toList_some, Option.toList_none, List.cons_append, List.nil_append, am_s0, am_s1, am_s1r, am_s2, am_s2r, am_s3r, nI_add, am_u_ne, am_u_at, am_u_n1, am_u_n2, am_w_ne]
      exact ih (s + 1) pulled val J1 (by omega) hJ1 (fun j hj => by rw [congrFun e104 j]; exact hrow j hj) h108' he
theorem c_frame (hR : am_OR R) (hN : 116 ≤ n) (hn : n ≤ 1000) (ho : ok_S σ) (hb : b < 2) (hfs : fs < 2) (hnn : nn ≤ 5) : ∀ (rem : Nat), frmC X n L R σ b pl fs nn (d + 8) rem := by
  have hl := am_lt hN
  have hvw9 := am_lw hN
  intro rem
  induction rem with
  | zero =>
    intro dp made w v I val l6 l7 l8 Q hdp H hf h107 h108 hQ
    refine l_head (σ := σ) (b := b) (pl := pl) (w := w) (made := made) (v := v) hR hN hn (by omega) hfs hf (fun I1 g1 e1 => ?_)
    refine l_frEnd (v := v) (w := w) (made := made) hR hN (by omega) hnn (by rw [e1 17 (by omega)]; exact hf.2.2.2) (Or.inr (by omega)) (fun l6 l7 l8 => ?_)
    exact hQ I1 l6 l7 l8 (g1.mono (fun k j z => by unfold fwP sc2; omega))
  | succ rem ih =>
    intro dp made w v I val l6 l7 l8 Q hdp H hf h107 h108 hQ
    refine l_head (σ := σ) (b := b) (pl := pl) (w := w) (made := made) (v := v) hR hN hn (by omega) hfs hf (fun I1 g1 e1 => ?_)
    have g1' : am_ag (fwP dp) I I1 := g1.mono (fun k j z => by unfold fwP sc2; omega)
    have e17 : I1 104 17 = v := by rw [e1 17 (by omega)]; exact hf.2.2.2
    by_cases hv : v = 0
    · have ew : wonV σ b pl fs (rem + 1) made w v = tryS (fun s => mayW σ w s (sdN b made) (pl + nI made)) (cMv σ w) (decide ((b + made) % 2 = fs)) (fun w' => won σ b pl fs rem (made + 1) w') w (p_S σ) 0 false := by
        rw [wonV, if_pos hv]
        rfl
      subst hv
      have hd : ¬ nI dp = nI nn := nI_ne (by omega) (by omega) (by omega)
      have z0 : (bI false = 0) = True := eq_true (by decide)
      have z00 : (nI 0 = 0) = True := eq_true rfl
      have z000 : ((0 : Int32) = 0) = True := eq_true rfl
      have d6 : dp < 6 := by omega
      have q107 : I1 107 dp = nI 0 := by rw [g1 107 dp (by omega)]; exact h107
      have f0 : nI 0 = bI false := by decide
      simp only [am_lv_of, rX13_forces_70, rX13_forces_72, rX13_forces_86, rX13_forces_87, rX13_forces_89, rX13_forces_91, rX13_forces_94, rX13_forces_95, rX13_forces_98, rX13_forces_100, rX13_forces_101, rX13_forces_104, rX13_forces_105, rX13_forces_106, rX13_forces_132, rX13_forces_134, rX13_forces_136, rX13_forces_138, rX13_forces_147, rX13_forces_148, rX13_forces_151, rX13_forces_152, rX13_forces_153, ro_69_1 hR, ro_69_3 hR, ro_69_5 hR, ro_69_6 hR, ro_69_7 hR, ro_69_8 hR, ro_69_9 hR, ro_69_21 hR, ro_69_22 hR, ro_69_23 hR, ro_69_24 hR, ro_69_25 hR, ro_69_26 hR, ro_69_27 hR, ro_69_28 hR, ro_69_29 hR, ro_69_30 hR, ro_69_31 hR, ro_69_32 hR, ro_69_33 hR, ro_69_34 hR, ro_69_35 hR, ro_69_36 hR, ro_69_38 hR, ro_69_39 hR, ro_69_40 hR, ro_69_41 hR, ro_69_42 hR, ro_69_44 hR, ro_69_45 hR, ro_69_46 hR, ro_69_48 hR, ro_69_49 hR, ro_69_51 hR, ro_69_52 hR, ro_69_55 hR, ro_69_56 hR, ro_69_57 hR, ro_69_58 hR, ro_69_59 hR, ro_69_61 hR, ro_69_62 hR, ro_69_63 hR, ro_69_64 hR, ro_69_65 hR, ro_69_66 hR, sh_69, sh_70, sh_71, sh_72, sh_73, sh_74, sh_75, sh_76, sh_77, sh_78, sh_79, sh_80, sh_81, sh_82, sh_83, sh_84, sh_85, sh_86, sh_87, sh_88, sh_89, sh_90, sh_91, sh_92, sh_93, sh_94, sh_95, sh_96, sh_97, sh_98, sh_99, sh_100, sh_101, sh_102, sh_103, sh_104, sh_105, sh_106, sh_107, sh_108, sh_109, sh_110, sh_111, sh_112, sh_113, sh_114, sh_115, hl, hvw9, Nat.reduceLT, Nat.reduceAdd, Nat.reduceMul, ne_eq, Nat.reduceEqDiff, not_false_eq_true, or_true, true_or, or_false, false_or, and_true, true_and, and_self, Nat.reduceLeDiff, am_ci, am_cr, am_cn0, Option.toList_some, Option.toList_none, List.cons_append, List.nil_append, am_s0, am_s1, am_s1r, am_s2, am_s2r, am_s3r, nI_add, am_u_ne, am_u_at, am_u_n1, am_u_n2, am_w_ne, ↓reduceIte, z0, z00, z000, not_true_eq_false, not_false_eq_true, e17, hd, d6, q107]
      exact l_resume (σ := σ) (I := I) (rem := rem) (w := w) (made := made) hR hN hn ho hb hfs ih (by omega) hnn H hf (fun I' l6 l7 l8 g => hQ I' l6 l7 l8 g) (p_S σ) 0 false val I1 (by omega) g1' e1 (by rw [g1 108 dp (by omega)]; exact h108) ew.symm
    · have ew : wonV σ b pl fs (rem + 1) made w v = decide (v = nI (fs + 1)) := by rw [wonV, if_neg hv]
      refine l_frEnd (v := v) (w := w) (made := made) hR hN (by omega) hnn e17 (Or.inl hv) (fun l6 l7 l8 => ?_)
      rw [← ew]
      exact hQ I1 l6 l7 l8 g1'
theorem c_forcesR {w made : Nat} {v : Int32} (hR : am_OR R) (hN : 116 ≤ n) (hn : n ≤ 1000) (ho : ok_S σ) (hb : b < 2) (hfs : fs < 2) (hnn : nn ≤ 5) (H : rf_S I σ) (hrow : rowK σ b pl w made v (I 104)) (hQ : ∀ I', am_ag scrP I I' → I' 103 = I 103 → Q (some (.int (bI (wonV σ b pl fs nn made w v)))) (n, I', L, R)) : am_E X (d + 8) mX13_forces 0 [some (.ref 69), some (.int (nI fs)), some (.int (nI nn)), none, none, none, none, none, none] [] (n, I, L, R) Q := by
  have hl := am_lt hN
  have hvw9 := am_lw hN
  simp only [am_lv_of, rX13_forces_0, rX13_forces_1, rX13_forces_2, rX13_forces_3, rX13_forces_5, rX13_forces_6, rX13_forces_8, rX13_forces_9, rX13_forces_10, ro_69_1 hR, ro_69_3 hR, ro_69_5 hR, ro_69_6 hR, ro_69_7 hR, ro_69_8 hR, ro_69_9 hR, ro_69_21 hR, ro_69_22 hR, ro_69_23 hR, ro_69_24 hR, ro_69_25 hR, ro_69_26 hR, ro_69_27 hR, ro_69_28 hR, ro_69_29 hR, ro_69_30 hR, ro_69_31 hR, ro_69_32 hR, ro_69_33 hR, ro_69_34 hR, ro_69_35 hR, ro_69_36 hR, ro_69_38 hR, ro_69_39 hR, ro_69_40 hR, ro_69_41 hR, ro_69_42 hR, ro_69_44 hR, ro_69_45 hR, ro_69_46 hR, ro_69_48 hR, ro_69_49 hR, ro_69_51 hR, ro_69_52 hR, ro_69_55 hR, ro_69_56 hR, ro_69_57 hR, ro_69_58 hR, ro_69_59 hR, ro_69_61 hR, ro_69_62 hR, ro_69_63 hR, ro_69_64 hR, ro_69_65 hR, ro_69_66 hR, sh_69, sh_70, sh_71, sh_72, sh_73, sh_74, sh_75, sh_76, sh_77, sh_78, sh_79, sh_80, sh_81, sh_82, sh_83, sh_84, sh_85, sh_86, sh_87, sh_88, sh_89, sh_90, sh_91, sh_92, sh_93, sh_94, sh_95, sh_96, sh_97, sh_98, sh_99, sh_100, sh_101, sh_102, sh_103, sh_104, sh_105, sh_106, sh_107, sh_108, sh_109, sh_110, sh_111, sh_112, sh_113, sh_114, sh_115, hl, hvw9, Nat.reduceLT, Nat.reduceAdd, Nat.reduceMul, ne_eq, Nat.reduceEqDiff, not_false_eq_true, or_true, true_or, or_false, false_or, and_true, true_and, and_self, Nat.reduceLeDiff, am_ci, am_cr, am_cn0, Option.toList_some, Option.toList_none, List.cons_append, List.nil_append, am_s0, am_s1, am_s1r, am_s2, am_s2r, am_s3r, nI_add, am_u_ne, am_u_at, am_u_n1, am_u_n2, am_w_ne]
  refine c_piles (dp := 0) hR hN hn (by omega) (fun I1 g1 e1 k7 k8 => ?_)
  have ga : am_ag (fun k j => k = 106 ∨ k = 107 ∨ k = 108) I I1 := g1.mono (fun k j z => by omega)
  have H1 : rf_S I1 σ := rfS_frame H (fun k j h1 h2 h3 => (ga k j (by omega)))
  simp only [Option.toList_none, List.nil_append]
  have f0 : nI 0 = bI false := by decide
  refine c_frame (σ := σ) (b := b) (pl := pl) (fs := fs) (nn := nn) hR hN hn ho hb hfs hnn nn 0 made w v I1 false none none none Q (by omega) H1 (hrow.c (fun j hj => e1 j hj)) k7 k8 (fun I2 l6 l7 l8 g2 => ?_)
  have c1 : nI 0 + -1 < 0 := by decide
  simp only [am_lv_of, rX13_forces_13, rX13_forces_14, rX13_forces_302, hl, hvw9, Nat.reduceLT, Nat.reduceAdd, Nat.reduceMul, ne_eq, Nat.reduceEqDiff, not_false_eq_true, or_true, true_or, or_false, false_or, and_true, true_and, and_self, Nat.reduceLeDiff, am_ci, am_cr, am_cn0, Option.toList_some, Option.toList_none, List.cons_append, List.nil_append, am_s0, am_s1, am_s1r, am_s2, am_s2r, am_s3r, nI_add, am_u_ne, am_u_at, am_u_n1, am_u_n2, am_w_ne, ↓reduceIte, c1]
  rw [rX13_forces_304 (nb_b _)]
  refine hQ I2 ((ga.mono (fun k j z => by unfold scrP; omega)).trans (fw_scr g2)) (funext fun j => ?_)
  rw [g2 103 j (by unfold fwP sc2 sc1; omega), ga 103 j (by omega)]
end DB
