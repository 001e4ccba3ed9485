--! 62
/-! A STEP THAT CAN BE UNDONE -/
def kuU (u : Nat) : Nat := if u = 40 then 39 else u
def kuE (u : Nat) : Nat := if u = 40 then 1 else 0
section KP
variable {X : am_X} {d n : Nat} {I : Nat → Nat → Int32} {L : Nat → Nat → Int64} {R : Nat → Nat → Option Nat} {Q : Option Value → am_M → Prop} {σ : rfP}
def kpP (k j : Nat) : Prop := k = 105 ∨ k = 103 ∨ (k = 69 ∧ j = 54)
/-- what keeps does to the history -/
def hst (I I' : Nat → Nat → Int32) (u : Nat) : Prop := I' 69 54 = nI (kuU u + 1) ∧ (∀ i j, i < kuU u → j < 68 → I' 105 (68 * i + j) = I 105 (68 * (i + kuE u) + j)) ∧ ∀ j, j < 68 → I' 105 (68 * kuU u + j) = I 103 j
theorem l_keeps {u : Nat} {l1 : Option Value} (hR : am_OR R) (hN : 116 ≤ n) (hn : n ≤ 1000) (hu : I 69 54 = nI u) (hu4 : u < 40) (hQ : ∀ I', am_ag kpP I I' → I' 69 54 = nI (u + 1) → (∀ j, I' 105 j = if 68 * u ≤ j ∧ j < 68 * u + 68 then I 103 (0 + (j - (68 * u))) else I 105 j) → (∀ j, j < 68 → I' 103 j = I 104 j) → Q none (n, I', L, R)) : am_E X (d + 1) mX13_keeps 49 [some (.ref 69), l1] [] (n, I, L, R) Q := by
  have hl := am_lt hN
  have hvw9 := am_lw hN
  simp only [am_lv_of, rX13_keeps_49, rX13_keeps_50, hl, hvw9, Nat.reduceLT, Nat.reduceAdd, Nat.reduceMul, ne_eq, Nat.reduceEqDiff, not_false_eq_true, or_true, true_or, or_false, false_or, and_true, true_and, and_self, Nat.reduceLeDiff, am_ci, am_cr, am_cn0, Option.toList_some, Option.toList_none, List.cons_append, List.nil_append, am_s0, am_s1, am_s1r, am_s2, am_s2r, am_s3r, nI_add, am_u_ne, am_u_at, am_u_n1, am_u_n2, am_w_ne]
  refine l_hist hR hN hn hu hu4 68 0 I (by omega) am_ag.refl (fun j => by rw [if_neg (by omega)]) (fun I1 g1 g2 => ?_)
  have e1 : I1 69 54 = nI u := by rw [g1 69 54 (by omega)]; exact hu
  simp only [am_lv_of, rX13_keeps_83, rX13_keeps_84, rX13_keeps_85, rX13_keeps_88, rX13_keeps_89, rX13_keeps_90, rX13_keeps_93, rX13_keeps_94, ro_69_1 hR, ro_69_3 hR, ro_69_5 hR, ro_69_6 hR, ro_69_7 hR, ro_69_8 hR, ro_69_9 hR, ro_69_21 hR, ro_69_22 hR, ro_69_23 hR, ro_69_24 hR, ro_69_25 hR, ro_69_26 hR, ro_69_27 hR, ro_69_28 hR, ro_69_29 hR, ro_69_30 hR, ro_69_31 hR, ro_69_32 hR, ro_69_33 hR, ro_69_34 hR, ro_69_35 hR, ro_69_36 hR, ro_69_38 hR, ro_69_39 hR, ro_69_40 hR, ro_69_41 hR, ro_69_42 hR, ro_69_44 hR, ro_69_45 hR, ro_69_46 hR, ro_69_48 hR, ro_69_49 hR, ro_69_51 hR, ro_69_52 hR, ro_69_55 hR, ro_69_56 hR, ro_69_57 hR, ro_69_58 hR, ro_69_59 hR, ro_69_61 hR, ro_69_62 hR, ro_69_63 hR, ro_69_64 hR, ro_69_65 hR, ro_69_66 hR, sh_69, sh_70, sh_71, sh_72, sh_73, sh_74, sh_75, sh_76, sh_77, sh_78, sh_79, sh_80, sh_81, sh_82, sh_83, sh_84, sh_85, sh_86, sh_87, sh_88, sh_89, sh_90, sh_91, sh_92, sh_93, sh_94, sh_95, sh_96, sh_97, sh_98, sh_99, sh_100, sh_101, sh_102, sh_103, sh_104, sh_105, sh_106, sh_107, sh_108, sh_109, sh_110, sh_111, sh_112, sh_113, sh_114, sh_115, hl, hvw9, Nat.reduceLT, Nat.reduceAdd, Nat.reduceMul, ne_eq, Nat.reduceEqDiff, not_false_eq_true, or_true, true_or, or_false, false_or, and_true, true_and, and_self, Nat.reduceLeDiff, am_ci, am_cr, am_cn0, Option.toList_some, Option.toList_none, List.cons_append, List.nil_append, am_s0, am_s1, am_s1r, am_s2, am_s2r, am_s3r, nI_add, am_u_ne, am_u_at, am_u_n1, am_u_n2, am_w_ne, hn, e1]
  refine c_keepsRow hR hN hn (fun I2 k1 k2 => ?_)
  simp only [am_lv_of, Option.toList_none, List.nil_append, rX13_keeps_97]
  refine hQ I2 ?_ ?_ (fun j => ?_) (fun j hj => ?_)
  · exact (am_ag.u (bad := kpP) (g1.mono (fun k j z => Or.inl z)) (Or.inr (Or.inr ⟨rfl, rfl⟩))).trans (k1.mono (fun k j z => Or.inr (Or.inl z)))
  · rw [k1 69 54 (by omega), am_u_at]
  · rw [k1 105 j (by omega), am_u_n1 (by omega)]; exact g2 j
  · rw [k2 j hj, am_u_n1 (by omega), g1 104 j (by omega)]
theorem c_keeps {u : Nat} (hR : am_OR R) (hN : 116 ≤ n) (hn : n ≤ 1000) (hu : I 69 54 = nI u) (hu4 : u ≤ 40) (hQ : ∀ I', am_ag kpP I I' → hst I I' u → (∀ j, j < 68 → I' 103 j = I 104 j) → Q none (n, I', L, R)) : am_E X (d + 1) mX13_keeps 0 [some (.ref 69), none] [] (n, I, L, R) Q := by
  have hl := am_lt hN
  have hvw9 := am_lw hN
  by_cases h40 : u = 40
  · subst h40
    simp only [am_lv_of, rX13_keeps_0, rX13_keeps_1, rX13_keeps_4, rX13_keeps_6, rX13_keeps_9, rX13_keeps_10, ro_69_1 hR, ro_69_3 hR, ro_69_5 hR, ro_69_6 hR, ro_69_7 hR, ro_69_8 hR, ro_69_9 hR, ro_69_21 hR, ro_69_22 hR, ro_69_23 hR, ro_69_24 hR, ro_69_25 hR, ro_69_26 hR, ro_69_27 hR, ro_69_28 hR, ro_69_29 hR, ro_69_30 hR, ro_69_31 hR, ro_69_32 hR, ro_69_33 hR, ro_69_34 hR, ro_69_35 hR, ro_69_36 hR, ro_69_38 hR, ro_69_39 hR, ro_69_40 hR, ro_69_41 hR, ro_69_42 hR, ro_69_44 hR, ro_69_45 hR, ro_69_46 hR, ro_69_48 hR, ro_69_49 hR, ro_69_51 hR, ro_69_52 hR, ro_69_55 hR, ro_69_56 hR, ro_69_57 hR, ro_69_58 hR, ro_69_59 hR, ro_69_61 hR, ro_69_62 hR, ro_69_63 hR, ro_69_64 hR, ro_69_65 hR, ro_69_66 hR, sh_69, sh_70, sh_71, sh_72, sh_73, sh_74, sh_75, sh_76, sh_77, sh_78, sh_79, sh_80, sh_81, sh_82, sh_83, sh_84, sh_85, sh_86, sh_87, sh_88, sh_89, sh_90, sh_91, sh_92, sh_93, sh_94, sh_95, sh_96, sh_97, sh_98, sh_99, sh_100, sh_101, sh_102, sh_103, sh_104, sh_105, sh_106, sh_107, sh_108, sh_109, sh_110, sh_111, sh_112, sh_113, sh_114, sh_115, hl, hvw9, Nat.reduceLT, Nat.reduceAdd, Nat.reduceMul, ne_eq, Nat.reduceEqDiff, not_false_eq_true, or_true, true_or, or_false, false_or, and_true, true_and, and_self, Nat.reduceLeDiff, am_ci, am_cr, am_cn0, Option.toList_some, Option.toList_none, List.cons_append, List.nil_append, am_s0, am_s1, am_s1r, am_s2, am_s2r, am_s3r, nI_add, am_u_ne, am_u_at, am_u_n1, am_u_n2, am_w_ne, ↓reduceIte, hu, not_true_eq_false]
    refine l_shift68 hR hN hn 2652 0 I (by omega) am_ag.refl (fun j => by rw [if_neg (by omega)]) (fun I1 g1 g2 => ?_)
    have e1 : I1 69 54 = nI 40 := by rw [g1 69 54 (by omega)]; exact hu
    have em : nI 40 - nI 1 = nI 39 := by decide
    simp only [am_lv_of, rX13_keeps_39, rX13_keeps_40, rX13_keeps_41, rX13_keeps_44, rX13_keeps_45, rX13_keeps_46, ro_69_1 hR, ro_69_3 hR, ro_69_5 hR, ro_69_6 hR, ro_69_7 hR, ro_69_8 hR, ro_69_9 hR, ro_69_21 hR, ro_69_22 hR, ro_69_23 hR, ro_69_24 hR, ro_69_25 hR, ro_69_26 hR, ro_69_27 hR, ro_69_28 hR, ro_69_29 hR, ro_69_30 hR, ro_69_31 hR, ro_69_32 hR, ro_69_33 hR, ro_69_34 hR, ro_69_35 hR, ro_69_36 hR, ro_69_38 hR, ro_69_39 hR, ro_69_40 hR, ro_69_41 hR, ro_69_42 hR, ro_69_44 hR, ro_69_45 hR, ro_69_46 hR, ro_69_48 hR, ro_69_49 hR, ro_69_51 hR, ro_69_52 hR, ro_69_55 hR, ro_69_56 hR, ro_69_57 hR, ro_69_58 hR, ro_69_59 hR, ro_69_61 hR, ro_69_62 hR, ro_69_63 hR, ro_69_64 hR, ro_69_65 hR, ro_69_66 hR, sh_69, sh_70, sh_71, sh_72, sh_73, sh_74, sh_75, sh_76, sh_77, sh_78, sh_79, sh_80, sh_81, sh_82, sh_83, sh_84, sh_85, sh_86, sh_87, sh_88, sh_89, sh_90, sh_91, sh_92, sh_93, sh_94, sh_95, sh_96, sh_97, sh_98, sh_99, sh_100, sh_101, sh_102, sh_103, sh_104, sh_105, sh_106, sh_107, sh_108, sh_109, sh_110, sh_111, sh_112, sh_113, sh_114, sh_115, hl, hvw9, Nat.reduceLT, Nat.reduceAdd, Nat.reduceMul, ne_eq, Nat.reduceEqDiff, not_false_eq_true, or_true, true_or, or_false, false_or, and_true, true_and, and_self, Nat.reduceLeDiff, am_ci, am_cr, am_cn0, Option.toList_some, Option.toList_none, List.cons_append, List.nil_append, am_s0, am_s1, am_s1r, am_s2, am_s2r, am_s3r, nI_add, am_u_ne, am_u_at, am_u_n1, am_u_n2, am_w_ne, hn, e1, em]
    refine l_keeps (u := 39) hR hN hn am_u_at (by omega) (fun I2 k1 k2 k3 k4 => hQ I2 ?_ ⟨k2, fun i j hi hj => ?_, fun j hj => ?_⟩ (fun j hj => ?_))
    · exact (am_ag.u (bad := kpP) (g1.mono (fun k j z => Or.inl z)) (Or.inr (Or.inr ⟨rfl, rfl⟩))).trans k1
    · have hi : i < 39 := hi
      rw [k3, if_neg (by omega), am_u_n1 (by omega), g2, if_pos (by omega)]
      exact congrArg (I 105) (by show _ = 68 * (i + 1) + j; omega)
    · have : kuU 40 = 39 := rfl
      rw [this, k3, if_pos (by omega), am_u_n1 (by omega), g1 103 _ (by omega)]
      exact congrArg (I 103) (by omega)
    · rw [k4 j hj, am_u_n1 (by omega), g1 104 j (by omega)]
  · have hne : ¬ nI u = nI 40 := fun z => h40 ((nI_eq (by omega) (by omega)).mp z)
    have eU : kuU u = u := by unfold kuU; rw [if_neg h40]
    have eE : kuE u = 0 := by unfold kuE; rw [if_neg h40]
    simp only [am_lv_of, rX13_keeps_0, rX13_keeps_1, rX13_keeps_4, rX13_keeps_6, ro_69_1 hR, ro_69_3 hR, ro_69_5 hR, ro_69_6 hR, ro_69_7 hR, ro_69_8 hR, ro_69_9 hR, ro_69_21 hR, ro_69_22 hR, ro_69_23 hR, ro_69_24 hR, ro_69_25 hR, ro_69_26 hR, ro_69_27 hR, ro_69_28 hR, ro_69_29 hR, ro_69_30 hR, ro_69_31 hR, ro_69_32 hR, ro_69_33 hR, ro_69_34 hR, ro_69_35 hR, ro_69_36 hR, ro_69_38 hR, ro_69_39 hR, ro_69_40 hR, ro_69_41 hR, ro_69_42 hR, ro_69_44 hR, ro_69_45 hR, ro_69_46 hR, ro_69_48 hR, ro_69_49 hR, ro_69_51 hR, ro_69_52 hR, ro_69_55 hR, ro_69_56 hR, ro_69_57 hR, ro_69_58 hR, ro_69_59 hR, ro_69_61 hR, ro_69_62 hR, ro_69_63 hR, ro_69_64 hR, ro_69_65 hR, ro_69_66 hR, sh_69, sh_70, sh_71, sh_72, sh_73, sh_74, sh_75, sh_76, sh_77, sh_78, sh_79, sh_80, sh_81, sh_82, sh_83, sh_84, sh_85, sh_86, sh_87, sh_88, sh_89, sh_90, sh_91, sh_92, sh_93, sh_94, sh_95, sh_96, sh_97, sh_98, sh_99, sh_100, sh_101, sh_102, sh_103, sh_104, sh_105, sh_106, sh_107, sh_108, sh_109, sh_110, sh_111, sh_112, sh_113, sh_114, sh_115, hl, hvw9, Nat.reduceLT, Nat.reduceAdd, Nat.reduceMul, ne_eq, Nat.reduceEqDiff, not_false_eq_true, or_true, true_or, or_false, false_or, and_true, true_and, and_self, Nat.reduceLeDiff, am_ci, am_cr, am_cn0, Option.toList_some, Option.toList_none, List.cons_append, List.nil_append, am_s0, am_s1, am_s1r, am_s2, am_s2r, am_s3r, nI_add, am_u_ne, am_u_at, am_u_n1, am_u_n2, am_w_ne, ↓reduceIte, hu, hne, not_false_eq_true]
    refine l_keeps hR hN hn hu (by omega) (fun I2 k1 k2 k3 k4 => hQ I2 k1 ⟨by rw [eU]; exact k2, fun i j hi hj => ?_, fun j hj => ?_⟩ k4)
    · rw [eU] at hi
      rw [eE, k3, if_neg (by omega)]
      rfl
    · rw [eU, k3, if_pos (by omega)]
      exact congrArg (I 103) (by omega)
/-- what the class has done: a course remembered, the one that goes on changed -/
def rem (n : Nat) (I : Nat → Nat → Int32) (L : Nat → Nat → Int64) (R : Nat → Nat → Option Nat) (n1 : Nat) (I1 : Nat → Nat → Int32) (L1 : Nat → Nat → Int64) (R1 : Nat → Nat → Option Nat) (c nx u P S : Nat) : Prop := n ≤ n1 ∧ relR n1 R1 ∧ isCo n1 c ∧ R1 40 nx = some c ∧ (∀ j, j ≠ nx → R1 40 j = R 40 j) ∧ (∀ j, R1 41 j = R 41 j) ∧ crs I1 c P S (I 103) ∧ (∀ k j, k < n → ¬ coP c k j → ¬ (k = 39 ∧ (j = 3 ∨ j = 4)) → ¬ ctP k j → I1 k j = I k j) ∧ I1 39 3 = nI ((nx + 1) % 40) ∧ I1 39 4 = nI (min (u + 1) 40) ∧ ∀ k j, k < n → L1 k j = L k j
theorem co_sep {n a b : Nat} (ha : isCo n a) (hb : isCo n b) (h : a ≠ b) : ∀ k j, a ≤ k → k < a + 5 → ¬ coP b k j := fun k j h1 h2 z => by
  have a1 := ha.1
  have a2 := ha.2.1
  have b1 := hb.1
  have b2 := hb.2.1
  unfold coP at z
  omega
/-- what the reference may have changed meanwhile -/
def rfc (k j : Nat) : Prop := sc2 k j ∨ kpP k j
theorem REL_step {n1 : Nat} {I1 I2 : Nat → Nat → Int32} {L1 : Nat → Nat → Int64} {R1 : Nat → Nat → Option Nat} {c nx u : Nat} {r' : Nat → Int32} (H : RELs (n, I, L, R) σ) (hu : I 69 54 = nI u) (hu4 : u ≤ 40) (hx : I 39 3 = nI nx) (hx4 : nx < 40) (hm : rem n I L R n1 I1 L1 R1 c nx u (p_P σ) (p_S σ)) (hnow : crs I1 34 (p_P σ) (p_S σ) r') (g : am_ag rfc I1 I2) (h54 : I2 69 54 = nI (kuU u + 1)) (hh : ∀ i j, i < kuU u → j < 68 → I2 105 (68 * i + j) = I 105 (68 * (i + kuE u) + j)) (hh2 : ∀ j, j < 68 → I2 105 (68 * kuU u + j) = I 103 j) (hr : ∀ j, j < 68 → I2 103 j = r' j) : RELs (n1, I2, L1, R1) σ := by
  have hN := H.1.N
  obtain ⟨m1, m2, m3, m4, m5, m6, m7, m8, m9, m10, m11⟩ := hm
  obtain ⟨h1, h2, h3, h4, h5, h6, h7, h8⟩ := H
  have c116 := m3.1
  have e2 : ∀ k j, ¬ rfc k j → k < n → ¬ coP c k j → ¬ (k = 39 ∧ (j = 3 ∨ j = 4)) → ¬ ctP k j → I2 k j = I k j := fun k j a0 a1 a2 a3 a4 => by rw [g k j a0]; exact m8 k j a1 a2 a3 a4
  have e116 : ∀ k j, k < 116 → ¬ (k = 101 ∨ k = 102 ∨ k = 104 ∨ k = 105 ∨ k = 103 ∨ (k = 69 ∧ (j = 50 ∨ j = 53 ∨ j = 54)) ∨ (34 ≤ k ∧ k < 39) ∨ k = 33 ∨ k = 12 ∨ (k = 39 ∧ (j = 3 ∨ j = 4))) → I2 k j = I k j := fun k j a0 a1 => e2 k j (by unfold rfc sc2 sc1 kpP; omega) (by omega) (by unfold coP; omega) (by omega) (by unfold ctP coP skc; omega)
  have eco : ∀ k j, 116 ≤ k → I2 k j = I1 k j := fun k j hk => g k j (by unfold rfc sc2 sc1 kpP; omega)
  have ecx : ∀ a, isCo n a → a ≠ c → ∀ k j, a ≤ k → k < a + 5 → I2 k j = I k j := fun a ha hac k j k1 k2 => by
    have ha' : isCo n1 a := ⟨ha.1, ha.2.1, by have := ha.2.2; omega⟩
    have a1 := ha.1
    have a2 := ha.2.2
    exact e2 k j (by unfold rfc sc2 sc1 kpP; omega) (by omega) (co_sep ha' m3 hac k j k1 k2) (by omega) (by unfold ctP coP skc; omega)
  refine ⟨m2, ?_, relS.fr h3 (fun k j hk => e116 k j (by omega) (by omega)), relT.fr h4 (fun k j hk => e116 k j (by omega) (by omega)), ?_, ?_, ?_, relJ.fr h8 (fun k j hk => e116 k j (by omega) (by omega))⟩
  · intro k hk
    have hN' : 116 ≤ n := hN
    show L1 16 k = _ ∧ L1 76 k = _
    rw [m11 16 k (by omega), m11 76 k (by omega)]
    exact h2 k hk
  · exact hnow.mv (fun k j k1 k2 => g k j (by unfold rfc sc2 sc1 kpP; omega)) hr
  · obtain ⟨u0, nx0, b1, b2, b3, b4, b5, b6⟩ := h6
    have eu : u0 = u := (nI_eq (by omega) (by omega)).mp (b4.symm.trans hu)
    have ex : nx0 = nx := (nI_eq (by omega) (by omega)).mp (b5.symm.trans hx)
    subst eu
    subst ex
    have hmin : min (u0 + 1) 40 = kuU u0 + 1 := by unfold kuU; split <;> omega
    have hkU : kuU u0 ≤ 39 := by unfold kuU; split <;> omega
    refine ⟨kuU u0 + 1, (nx0 + 1) % 40, by omega, by omega, ?_, h54, ?_, fun i hi => ?_⟩
    · show I2 39 4 = _
      rw [g 39 4 (by unfold rfc sc2 sc1 kpP; omega), m10, hmin]
    · show I2 39 3 = _
      rw [g 39 3 (by unfold rfc sc2 sc1 kpP; omega), m9]
    · show ∃ k, R1 40 _ = some k ∧ crs I2 k _ _ (fun j => I2 105 (68 * i + j))
      by_cases hi2 : i = kuU u0
      · subst hi2
        refine ⟨c, ?_, m7.mv (fun k j k1 k2 => eco k j (by omega)) (fun j hj => hh2 j hj)⟩
        rw [show ((nx0 + 1) % 40 + 40 - (kuU u0 + 1) + kuU u0) % 40 = nx0 by omega]
        exact m4
      · have hi3 : i < kuU u0 := by omega
        have hiu : i + kuE u0 < u0 := by unfold kuU at hi3; unfold kuE; split <;> rename_i hh <;> simp only [hh, if_true, if_false] at hi3 <;> omega
        obtain ⟨k, k1, k2⟩ := b6 (i + kuE u0) hiu
        have ei : ((nx0 + 1) % 40 + 40 - (kuU u0 + 1) + i) % 40 = (nx0 + 40 - u0 + (i + kuE u0)) % 40 := by
          unfold kuU kuE
          by_cases z : u0 = 40
          · rw [if_pos z, if_pos z]; omega
          · rw [if_neg z, if_neg z]; omega
        have ej : (nx0 + 40 - u0 + (i + kuE u0)) % 40 ≠ nx0 := by omega
        have hk := h1.2.2.1 _ k (by omega) k1
        have hkc : k ≠ c := fun z => by
          subst z
          have := m2.2.2.2.2.1 _ nx0 k (by omega) hx4 ((m5 _ ej).trans k1) m4
          exact ej this
        exact ⟨k, by rw [ei, m5 _ ej]; exact k1, k2.mv (ecx k hk hkc) (fun j hj => hh i j hi3 hj)⟩
  · obtain ⟨b, b1, b2, b3⟩ := h7
    refine ⟨b, b1, ?_, fun s hs => ⟨?_, fun hb => ?_⟩⟩
    · show I2 39 2 = _
      rw [e116 39 2 (by omega) (by omega)]; exact b2
    · show I2 114 s = _
      rw [e116 114 s (by omega) (by omega)]; exact (b3 s hs).1
    · obtain ⟨k, k1, k2⟩ := (b3 s hs).2 hb
      have hk := h1.2.2.2.1 s k hs k1
      have hkc : k ≠ c := fun z => by
        subst z
        exact m2.2.2.2.2.2.2.1 nx s k hx4 hs m4 ((m6 s).trans k1)
      exact ⟨k, (m6 s).trans k1, k2.mv (ecx k hk hkc) (fun j hj => e116 115 _ (by omega) (by omega))⟩
end KP
