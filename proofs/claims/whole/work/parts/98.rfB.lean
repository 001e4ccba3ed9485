--! 98
/-! TEXTS: the reference reads an E, its stack -/
def okS (w : Nat) : Prop := w = 6 ∨ w = 8 ∨ w = 9 ∨ w = 10 ∨ w = 15
theorem pops_len {S : List Nat} : (pops S).length = S.length := by unfold pops; simp
theorem nops_app : ∀ (S W : List Nat), nops (S ++ W) = nops S + nops W := by
  intro S
  induction S with
  | nil => intro W; simp [nops]
  | cons a S ih => intro W; rw [List.cons_append, nops, nops, ih]; omega
theorem nopn_app : ∀ (S W : List Nat), nopn (S ++ W) = nopn S + nopn W := by
  intro S
  induction S with
  | nil => intro W; simp [nopn]
  | cons a S ih => intro W; rw [List.cons_append, nopn, nopn, ih]; omega
theorem nops_op : ∀ (S : List Nat), (∀ w, w ∈ S → w ≠ 6) → nops S = S.length ∧ nopn S = 0 := by
  intro S
  induction S with
  | nil => intro _; exact ⟨rfl, rfl⟩
  | cons a S ih =>
    intro h
    obtain ⟨h1, h2⟩ := ih (fun w hw => h w (by simp [hw]))
    have := h a (by simp)
    rw [nops, nopn, if_neg this, if_neg this, List.length_cons]
    omega
theorem nopn_le : ∀ (W : List Nat), nopn W ≤ W.length := by
  intro W
  induction W with
  | nil => exact Nat.le_refl _
  | cons a W ih => rw [nopn, List.length_cons]; split <;> omega
/-- what lies above the last bracket -/
theorem splitW : ∀ (W : List Nat), ∃ S W0, W = S ++ W0 ∧ (∀ w, w ∈ S → w ≠ 6) ∧ (W0 = [] ∨ ∃ W1, W0 = 6 :: W1) := by
  intro W
  induction W with
  | nil => exact ⟨[], [], rfl, (fun w h => by cases h), Or.inl rfl⟩
  | cons a W ih =>
    by_cases ha : a = 6
    · exact ⟨[], a :: W, rfl, (fun w h => by cases h), Or.inr ⟨W, by rw [ha]⟩⟩
    · obtain ⟨S, W0, h1, h2, h3⟩ := ih
      refine ⟨a :: S, W0, by rw [h1]; rfl, fun w hw => ?_, h3⟩
      rcases List.mem_cons.mp hw with rfl | hw
      · exact ha
      · exact h2 w hw
theorem rf_seg_g {I J : Nat → Nat → Int32} {a : Nat} {p : pfx} (h : rf_seg I a p) (g : ∀ k j, k = 98 ∨ k = 99 → a ≤ j → j < a + p.length → J k j = I k j) : rf_seg J a p := fun i q hq => by
  have hi := (List.getElem?_eq_some_iff.mp hq).1
  rw [g 98 _ (by omega) (by omega) (by omega), g 99 _ (by omega) (by omega) (by omega)]; exact h i q hq
theorem rf_seg_app {I : Nat → Nat → Int32} {a : Nat} {p q : pfx} (h1 : rf_seg I a p) (h2 : rf_seg I (a + p.length) q) : rf_seg I a (p ++ q) := fun i e he => by
  by_cases hi : i < p.length
  · rw [List.getElem?_append_left hi] at he; exact h1 i e he
  · rw [List.getElem?_append_right (by omega)] at he
    have := h2 (i - p.length) e he
    rwa [show a + p.length + (i - p.length) = a + i by omega] at this
theorem rf_seg_1 {I : Nat → Nat → Int32} {a : Nat} {q : Nat × Nat} (h1 : I 98 a = nI q.1) (h2 : I 99 a = nI q.2) : rf_seg I a [q] := fun i e he => by
  have hi0 : i = 0 := by
    have := (List.getElem?_eq_some_iff.mp he).1
    simpa using this
  subst hi0
  have : e = q := by simpa using he.symm
  subst this
  exact ⟨h1, h2⟩
def cuO (pt k j : Nat) : Prop := (k = 69 ∧ (j = 43 ∨ j = 47)) ∨ ((k = 98 ∨ k = 99) ∧ 420 * pt ≤ j ∧ j < 420 * pt + 420)
theorem pil_top {I : Nat → Nat → Int32} {w : Nat} {W : List Nat} (h : pil I 100 ((w :: W).map nI)) : I 100 W.length = nI w := by
  have := h 0 (nI w) rfl
  simpa using this
theorem pil_tail {I : Nat → Nat → Int32} {w : Nat} {W : List Nat} (h : pil I 100 ((w :: W).map nI)) : pil I 100 (W.map nI) := fun j y hy => by
  have hj : j < W.length := by
    have := (List.getElem?_eq_some_iff.mp hy).1
    simpa using this
  have := h (j + 1) y (by simpa using hy)
  rw [← this]
  congr 1
  simp
  omega
theorem pil_ag {I J : Nat → Nat → Int32} {l : List Int32} (h : pil I 100 l) (g : ∀ j, J 100 j = I 100 j) : pil J 100 l := fun j y hy => by rw [g]; exact h j y hy
section FB
variable {X : am_X} {d n : Nat} {I : Nat → Nat → Int32} {L : Nat → Nat → Int64} {R : Nat → Nat → Option Nat} {Q : Option Value → am_M → Prop} {x : txt}
theorem l_comesOut {b : Bool} {W0 : List Nat} {pt : Nat} (hpt : pt < 2) (hR : am_OR R) (hN : 116 ≤ n) (hn : n ≤ 1000) (h0 : W0 = [] ∨ ∃ w W1, W0 = w :: W1 ∧ (w = 6 ∨ (b = true ∧ (w = 8 ∨ w = 9)))) : ∀ (S : List Nat) (c : Nat) (I : Nat → Nat → Int32) (l2 : Option Value), (∀ w, w ∈ S → okS w ∧ w ≠ 6 ∧ (b = true → w ≠ 8 ∧ w ≠ 9)) → (S ++ W0).length ≤ 63 → I 69 47 = nI (S ++ W0).length → pil I 100 ((S ++ W0).map nI) → I 69 43 = nI c → (420 * pt ≤ c ∧ c + S.length ≤ 420 * pt + 420) → (∀ I', am_ag (cuO pt) I I' → I' 69 47 = nI W0.length → I' 69 43 = nI (c + S.length) → rf_seg I' c (pops S) → (∀ k j, k = 98 ∨ k = 99 → j < c → I' k j = I k j) → Q none (n, I', L, R)) → am_E X (d + 1) mX13_comesOut 0 [some (.ref 69), some (.int (bI b)), l2] [] (n, I, L, R) Q := by
  have hl := am_lt hN
  have hvw9 := am_lw hN
  intro S
  induction S with
  | nil =>
    intro c I l2 hS hlen h47 hp h43 hc hQ
    have fin : Q none (n, I, L, R) := hQ I am_ag.refl h47 h43 (fun i q hq => by cases hq) (fun _ _ _ _ => rfl)
    rcases h0 with rfl | ⟨w, W1, rfl, hw⟩
    · have z0 : nI ([] ++ ([] : List Nat)).length ≤ 0 := by decide
      simp only [am_lv_of, rX13_comesOut_0, rX13_comesOut_1, rX13_comesOut_4, rX13_comesOut_91, ro_69_1 hR, ro_69_3 hR, ro_69_5 hR, ro_69_6 hR, ro_69_7 hR, ro_69_8 hR, ro_69_9 hR, ro_69_21 hR, ro_69_22 hR, ro_69_23 hR, ro_69_24 hR, ro_69_25 hR, ro_69_26 hR, ro_69_27 hR, ro_69_28 hR, ro_69_29 hR, ro_69_30 hR, ro_69_31 hR, ro_69_32 hR, ro_69_33 hR, ro_69_34 hR, ro_69_35 hR, ro_69_36 hR, ro_69_38 hR, ro_69_39 hR, ro_69_40 hR, ro_69_41 hR, ro_69_42 hR, ro_69_44 hR, ro_69_45 hR, ro_69_46 hR, ro_69_48 hR, ro_69_49 hR, ro_69_51 hR, ro_69_52 hR, ro_69_55 hR, ro_69_56 hR, ro_69_57 hR, ro_69_58 hR, ro_69_59 hR, ro_69_61 hR, ro_69_62 hR, ro_69_63 hR, ro_69_64 hR, ro_69_65 hR, ro_69_66 hR, sh_69, sh_70, sh_71, sh_72, sh_73, sh_74, sh_75, sh_76, sh_77, sh_78, sh_79, sh_80, sh_81, sh_82, sh_83, sh_84, sh_85, sh_86, sh_87, sh_88, sh_89, sh_90, sh_91, sh_92, sh_93, sh_94, sh_95, sh_96, sh_97, sh_98, sh_99, sh_100, sh_101, sh_102, sh_103, sh_104, sh_105, sh_106, sh_107, sh_108, sh_109, sh_110, sh_111, sh_112, sh_113, sh_114, sh_115, hl, hvw9, Nat.reduceLT, Nat.reduceAdd, Nat.reduceMul, ne_eq, Nat.reduceEqDiff, not_false_eq_true, or_true, true_or, or_false, false_or, and_true, true_and, and_self, Nat.reduceLeDiff, am_ci, am_cr, am_cn0, Option.toList_some, Option.toList_none, List.cons_append, List.nil_append, am_s0, am_s1, am_s1r, am_s2, am_s2r, am_s3r, nI_add, am_u_ne, am_u_at, am_u_n1, am_u_n2, am_w_ne, ↓reduceIte, h47, z0]
      exact fin
    · have hlen : W1.length + 1 ≤ 63 := by simpa using hlen
      have e1 : (([] : List Nat) ++ w :: W1).length = W1.length + 1 := by simp
      rw [e1] at h47
      have hp : pil I 100 ((w :: W1).map nI) := hp
      have z0 : ¬ nI (W1.length + 1) ≤ 0 := nI_nle (by omega) (by omega)
      have s1 : nI (W1.length + 1) - nI 1 = nI W1.length := pk_sub (by omega)
      have w64 : W1.length < 64 := by omega
      by_cases h6 : w = 6
      · have c6 : (nI w = nI 6) = True := eq_true (by rw [h6])
        simp only [am_lv_of, rX13_comesOut_0, rX13_comesOut_1, rX13_comesOut_4, rX13_comesOut_7, rX13_comesOut_8, rX13_comesOut_11, rX13_comesOut_12, rX13_comesOut_15, rX13_comesOut_16, rX13_comesOut_17, rX13_comesOut_18, rX13_comesOut_19, rX13_comesOut_20, rX13_comesOut_22, rX13_comesOut_41, ro_69_1 hR, ro_69_3 hR, ro_69_5 hR, ro_69_6 hR, ro_69_7 hR, ro_69_8 hR, ro_69_9 hR, ro_69_21 hR, ro_69_22 hR, ro_69_23 hR, ro_69_24 hR, ro_69_25 hR, ro_69_26 hR, ro_69_27 hR, ro_69_28 hR, ro_69_29 hR, ro_69_30 hR, ro_69_31 hR, ro_69_32 hR, ro_69_33 hR, ro_69_34 hR, ro_69_35 hR, ro_69_36 hR, ro_69_38 hR, ro_69_39 hR, ro_69_40 hR, ro_69_41 hR, ro_69_42 hR, ro_69_44 hR, ro_69_45 hR, ro_69_46 hR, ro_69_48 hR, ro_69_49 hR, ro_69_51 hR, ro_69_52 hR, ro_69_55 hR, ro_69_56 hR, ro_69_57 hR, ro_69_58 hR, ro_69_59 hR, ro_69_61 hR, ro_69_62 hR, ro_69_63 hR, ro_69_64 hR, ro_69_65 hR, ro_69_66 hR, sh_69, sh_70, sh_71, sh_72, sh_73, sh_74, sh_75, sh_76, sh_77, sh_78, sh_79, sh_80, sh_81, sh_82, sh_83, sh_84, sh_85, sh_86, sh_87, sh_88, sh_89, sh_90, sh_91, sh_92, sh_93, sh_94, sh_95, sh_96, sh_97, sh_98, sh_99, sh_100, sh_101, sh_102, sh_103, sh_104, sh_105, sh_106, sh_107, sh_108, sh_109, sh_110, sh_111, sh_112, sh_113, sh_114, sh_115, hl, hvw9, Nat.reduceLT, Nat.reduceAdd, Nat.reduceMul, ne_eq, Nat.reduceEqDiff, not_false_eq_true, or_true, true_or, or_false, false_or, and_true, true_and, and_self, Nat.reduceLeDiff, am_ci, am_cr, am_cn0, Option.toList_some, Option.toList_none, List.cons_append, List.nil_append, am_s0, am_s1, am_s1r, am_s2, am_s2r, am_s3r, nI_add, am_u_ne, am_u_at, am_u_n1, am_u_n2, am_w_ne, ↓reduceIte, h47, z0, s1, w64, pil_top hp, c6]
        exact fin
      · obtain ⟨hb, h89⟩ := hw.resolve_left h6
        subst hb
        have c6 : ¬ nI w = nI 6 := nI_ne (by omega) (by omega) h6
        have zt : ¬ bI true = 0 := by decide
        by_cases h8 : w = 8
        · have c8 : (nI w = nI 8) = True := eq_true (by rw [h8])
          simp only [am_lv_of, rX13_comesOut_0, rX13_comesOut_1, rX13_comesOut_4, rX13_comesOut_7, rX13_comesOut_8, rX13_comesOut_11, rX13_comesOut_12, rX13_comesOut_15, rX13_comesOut_16, rX13_comesOut_17, rX13_comesOut_18, rX13_comesOut_19, rX13_comesOut_20, rX13_comesOut_22, rX13_comesOut_25, rX13_comesOut_26, rX13_comesOut_29, rX13_comesOut_30, rX13_comesOut_32, rX13_comesOut_41, ro_69_1 hR, ro_69_3 hR, ro_69_5 hR, ro_69_6 hR, ro_69_7 hR, ro_69_8 hR, ro_69_9 hR, ro_69_21 hR, ro_69_22 hR, ro_69_23 hR, ro_69_24 hR, ro_69_25 hR, ro_69_26 hR, ro_69_27 hR, ro_69_28 hR, ro_69_29 hR, ro_69_30 hR, ro_69_31 hR, ro_69_32 hR, ro_69_33 hR, ro_69_34 hR, ro_69_35 hR, ro_69_36 hR, ro_69_38 hR, ro_69_39 hR, ro_69_40 hR, ro_69_41 hR, ro_69_42 hR, ro_69_44 hR, ro_69_45 hR, ro_69_46 hR, ro_69_48 hR, ro_69_49 hR, ro_69_51 hR, ro_69_52 hR, ro_69_55 hR, ro_69_56 hR, ro_69_57 hR, ro_69_58 hR, ro_69_59 hR, ro_69_61 hR, ro_69_62 hR, ro_69_63 hR, ro_69_64 hR, ro_69_65 hR, ro_69_66 hR, sh_69, sh_70, sh_71, sh_72, sh_73, sh_74, sh_75, sh_76, sh_77, sh_78, sh_79, sh_80, sh_81, sh_82, sh_83, sh_84, sh_85, sh_86, sh_87, sh_88, sh_89, sh_90, sh_91, sh_92, sh_93, sh_94, sh_95, sh_96, sh_97, sh_98, sh_99, sh_100, sh_101, sh_102, sh_103, sh_104, sh_105, sh_106, sh_107, sh_108, sh_109, sh_110, sh_111, sh_112, sh_113, sh_114, sh_115, hl, hvw9, Nat.reduceLT, Nat.reduceAdd, Nat.reduceMul, ne_eq, Nat.reduceEqDiff, not_false_eq_true, or_true, true_or, or_false, false_or, and_true, true_and, and_self, Nat.reduceLeDiff, am_ci, am_cr, am_cn0, Option.toList_some, Option.toList_none, List.cons_append, List.nil_append, am_s0, am_s1, am_s1r, am_s2, am_s2r, am_s3r, nI_add, am_u_ne, am_u_at, am_u_n1, am_u_n2, am_w_ne, ↓reduceIte, h47, z0, s1, w64, pil_top hp, c6, zt, c8]
          exact fin
        · have c8 : ¬ nI w = nI 8 := nI_ne (by omega) (by omega) h8
          have c9 : (nI w = nI 9) = True := eq_true (by rw [h89.resolve_left h8])
          simp only [am_lv_of, rX13_comesOut_0, rX13_comesOut_1, rX13_comesOut_4, rX13_comesOut_7, rX13_comesOut_8, rX13_comesOut_11, rX13_comesOut_12, rX13_comesOut_15, rX13_comesOut_16, rX13_comesOut_17, rX13_comesOut_18, rX13_comesOut_19, rX13_comesOut_20, rX13_comesOut_22, rX13_comesOut_25, rX13_comesOut_26, rX13_comesOut_29, rX13_comesOut_30, rX13_comesOut_32, rX13_comesOut_35, rX13_comesOut_36, rX13_comesOut_38, rX13_comesOut_41, ro_69_1 hR, ro_69_3 hR, ro_69_5 hR, ro_69_6 hR, ro_69_7 hR, ro_69_8 hR, ro_69_9 hR, ro_69_21 hR, ro_69_22 hR, ro_69_23 hR, ro_69_24 hR, ro_69_25 hR, ro_69_26 hR, ro_69_27 hR, ro_69_28 hR, ro_69_29 hR, ro_69_30 hR, ro_69_31 hR, ro_69_32 hR, ro_69_33 hR, ro_69_34 hR, ro_69_35 hR, ro_69_36 hR, ro_69_38 hR, ro_69_39 hR, ro_69_40 hR, ro_69_41 hR, ro_69_42 hR, ro_69_44 hR, ro_69_45 hR, ro_69_46 hR, ro_69_48 hR, ro_69_49 hR, ro_69_51 hR, ro_69_52 hR, ro_69_55 hR, ro_69_56 hR, ro_69_57 hR, ro_69_58 hR, ro_69_59 hR, ro_69_61 hR, ro_69_62 hR, ro_69_63 hR, ro_69_64 hR, ro_69_65 hR, ro_69_66 hR, sh_69, sh_70, sh_71, sh_72, sh_73, sh_74, sh_75, sh_76, sh_77, sh_78, sh_79, sh_80, sh_81, sh_82, sh_83, sh_84, sh_85, sh_86, sh_87, sh_88, sh_89, sh_90, sh_91, sh_92, sh_93, sh_94, sh_95, sh_96, sh_97, sh_98, sh_99, sh_100, sh_101, sh_102, sh_103, sh_104, sh_105, sh_106, sh_107, sh_108, sh_109, sh_110, sh_111, sh_112, sh_113, sh_114, sh_115, hl, hvw9, Nat.reduceLT, Nat.reduceAdd, Nat.reduceMul, ne_eq, Nat.reduceEqDiff, not_false_eq_true, or_true, true_or, or_false, false_or, and_true, true_and, and_self, Nat.reduceLeDiff, am_ci, am_cr, am_cn0, Option.toList_some, Option.toList_none, List.cons_append, List.nil_append, am_s0, am_s1, am_s1r, am_s2, am_s2r, am_s3r, nI_add, am_u_ne, am_u_at, am_u_n1, am_u_n2, am_w_ne, ↓reduceIte, h47, z0, s1, w64, pil_top hp, c6, zt, c8, c9, not_true_eq_false]
          exact fin
  | cons w S ih =>
    intro c I l2 hS hlen h47 hp h43 hc hQ
    obtain ⟨ok, h6, h89⟩ := hS w (by simp)
    have hlen2 : (S ++ W0).length + 1 ≤ 63 := by simpa using hlen
    have e1 : (w :: S ++ W0).length = (S ++ W0).length + 1 := rfl
    rw [e1] at h47
    have hp : pil I 100 ((w :: (S ++ W0)).map nI) := hp
    rw [List.length_cons] at hc hQ
    have z0 : ¬ nI ((S ++ W0).length + 1) ≤ 0 := nI_nle (by omega) (by omega)
    have s1 : nI ((S ++ W0).length + 1) - nI 1 = nI (S ++ W0).length := pk_sub (by omega)
    have w64 : (S ++ W0).length < 64 := by omega
    have c8' : c < 840 := by omega
    have wl : w < 40 := by unfold okS at ok; omega
    have c6 : ¬ nI w = nI 6 := nI_ne (by omega) (by omega) h6
    have ih' := fun J hJ1 hJ2 hJ3 hJ4 hQ' => ih (c + 1) J (some (.int (nI w))) (fun w' hw' => hS w' (by simp [hw'])) (by omega) hJ1 hJ2 hJ3 hJ4 hQ'
    -- what is emitted, then on
    have go : ∀ o, o = opc w → am_E X (d + 1) mX13_comesOut 84 [some (.ref 69), some (.int (bI b)), some (.int (nI w))] [.int (nI o), .ref 69] (n, am_u I 69 47 (nI (S ++ W0).length), L, R) Q := by
      intro o ho
      have h43' : am_u I 69 47 (nI (S ++ W0).length) 69 43 = nI c := by rw [am_u_n2 (by omega)]; exact h43
      simp only [am_lv_of, rX13_comesOut_84, rX13_comesOut_85, ro_69_1 hR, ro_69_3 hR, ro_69_5 hR, ro_69_6 hR, ro_69_7 hR, ro_69_8 hR, ro_69_9 hR, ro_69_21 hR, ro_69_22 hR, ro_69_23 hR, ro_69_24 hR, ro_69_25 hR, ro_69_26 hR, ro_69_27 hR, ro_69_28 hR, ro_69_29 hR, ro_69_30 hR, ro_69_31 hR, ro_69_32 hR, ro_69_33 hR, ro_69_34 hR, ro_69_35 hR, ro_69_36 hR, ro_69_38 hR, ro_69_39 hR, ro_69_40 hR, ro_69_41 hR, ro_69_42 hR, ro_69_44 hR, ro_69_45 hR, ro_69_46 hR, ro_69_48 hR, ro_69_49 hR, ro_69_51 hR, ro_69_52 hR, ro_69_55 hR, ro_69_56 hR, ro_69_57 hR, ro_69_58 hR, ro_69_59 hR, ro_69_61 hR, ro_69_62 hR, ro_69_63 hR, ro_69_64 hR, ro_69_65 hR, ro_69_66 hR, sh_69, sh_70, sh_71, sh_72, sh_73, sh_74, sh_75, sh_76, sh_77, sh_78, sh_79, sh_80, sh_81, sh_82, sh_83, sh_84, sh_85, sh_86, sh_87, sh_88, sh_89, sh_90, sh_91, sh_92, sh_93, sh_94, sh_95, sh_96, sh_97, sh_98, sh_99, sh_100, sh_101, sh_102, sh_103, sh_104, sh_105, sh_106, sh_107, sh_108, sh_109, sh_110, sh_111, sh_112, sh_113, sh_114, sh_115, hl, hvw9, Nat.reduceLT, Nat.reduceAdd, Nat.reduceMul, ne_eq, Nat.reduceEqDiff, not_false_eq_true, or_true, true_or, or_false, false_or, and_true, true_and, and_self, Nat.reduceLeDiff, am_ci, am_cr, am_cn0, Option.toList_some, Option.toList_none, List.cons_append, List.nil_append, am_s0, am_s1, am_s1r, am_s2, am_s2r, am_s3r, nI_add, am_u_ne, am_u_at, am_u_n1, am_u_n2, am_w_ne, c_emit hR hN hn h43' c8', Option.toList_none, rX13_comesOut_88]
      refine ih' _ ?_ (pil_ag (pil_tail hp) (fun j => by rw [am_u_n1 (by omega), am_u_n1 (by omega), am_u_n1 (by omega), am_u_n1 (by omega)])) am_u_at (by omega) (fun I' g q47 q43 qs qo => ?_)
      · rw [am_u_n2 (by omega), am_u_n1 (by omega), am_u_n1 (by omega), am_u_at]
      · have gI : am_ag (cuO pt) I (am_u (am_u (am_u (am_u I 69 47 (nI (S ++ W0).length)) 98 c (nI o)) 99 c (nI 0)) 69 43 (nI (c + 1))) := by
          refine am_ag.u (am_ag.u (am_ag.u (am_ag.u am_ag.refl ?_) ?_) ?_) ?_
          · unfold cuO; omega
          · unfold cuO; omega
          · unfold cuO; omega
          · unfold cuO; omega
        refine hQ I' (gI.trans g) q47 (by rw [q43]; exact congrArg nI (by omega)) ?_ (fun k j hk hj => ?_)
        · have e98 : I' 98 c = nI o := by rw [qo 98 c (by omega) (by omega), am_u_n1 (by omega), am_u_n1 (by omega), am_u_at]
          have e99 : I' 99 c = nI 0 := by rw [qo 99 c (by omega) (by omega), am_u_n1 (by omega), am_u_at]
          have e : pops (w :: S) = [(opc w, 0)] ++ pops S := rfl
          rw [e]
          refine rf_seg_app (rf_seg_1 (by rw [e98, ho]) e99) ?_
          exact qs
        · rw [qo k j hk (by omega), am_u_n1 (by omega)]
          rcases hk with rfl | rfl
          · rw [am_u_n1 (by omega), am_u_n2 (by omega), am_u_n1 (by omega)]
          · rw [am_u_n2 (by omega), am_u_n1 (by omega), am_u_n1 (by omega)]
    have at42 : am_E X (d + 1) mX13_comesOut 42 [some (.ref 69), some (.int (bI b)), some (.int (nI w))] [] (n, I, L, R) Q := by
      by_cases w8 : w = 8
      · have q8 : (nI w = nI 8) = True := eq_true (by rw [w8])
        simp only [am_lv_of, rX13_comesOut_42, rX13_comesOut_43, rX13_comesOut_44, rX13_comesOut_47, rX13_comesOut_48, rX13_comesOut_49, rX13_comesOut_52, rX13_comesOut_53, rX13_comesOut_54, rX13_comesOut_56, rX13_comesOut_59, rX13_comesOut_60, ro_69_1 hR, ro_69_3 hR, ro_69_5 hR, ro_69_6 hR, ro_69_7 hR, ro_69_8 hR, ro_69_9 hR, ro_69_21 hR, ro_69_22 hR, ro_69_23 hR, ro_69_24 hR, ro_69_25 hR, ro_69_26 hR, ro_69_27 hR, ro_69_28 hR, ro_69_29 hR, ro_69_30 hR, ro_69_31 hR, ro_69_32 hR, ro_69_33 hR, ro_69_34 hR, ro_69_35 hR, ro_69_36 hR, ro_69_38 hR, ro_69_39 hR, ro_69_40 hR, ro_69_41 hR, ro_69_42 hR, ro_69_44 hR, ro_69_45 hR, ro_69_46 hR, ro_69_48 hR, ro_69_49 hR, ro_69_51 hR, ro_69_52 hR, ro_69_55 hR, ro_69_56 hR, ro_69_57 hR, ro_69_58 hR, ro_69_59 hR, ro_69_61 hR, ro_69_62 hR, ro_69_63 hR, ro_69_64 hR, ro_69_65 hR, ro_69_66 hR, sh_69, sh_70, sh_71, sh_72, sh_73, sh_74, sh_75, sh_76, sh_77, sh_78, sh_79, sh_80, sh_81, sh_82, sh_83, sh_84, sh_85, sh_86, sh_87, sh_88, sh_89, sh_90, sh_91, sh_92, sh_93, sh_94, sh_95, sh_96, sh_97, sh_98, sh_99, sh_100, sh_101, sh_102, sh_103, sh_104, sh_105, sh_106, sh_107, sh_108, sh_109, sh_110, sh_111, sh_112, sh_113, sh_114, sh_115, hl, hvw9, Nat.reduceLT, Nat.reduceAdd, Nat.reduceMul, ne_eq, Nat.reduceEqDiff, not_false_eq_true, or_true, true_or, or_false, false_or, and_true, true_and, and_self, Nat.reduceLeDiff, am_ci, am_cr, am_cn0, Option.toList_some, Option.toList_none, List.cons_append, List.nil_append, am_s0, am_s1, am_s1r, am_s2, am_s2r, am_s3r, nI_add, am_u_ne, am_u_at, am_u_n1, am_u_n2, am_w_ne, ↓reduceIte, hn, h47, s1, q8, not_true_eq_false]
        exact go 2 (by unfold opc; rw [if_pos w8])
      · have q8 : ¬ nI w = nI 8 := nI_ne (by omega) (by omega) w8
        by_cases w9 : w = 9
        · have q9 : (nI w = nI 9) = True := eq_true (by rw [w9])
          simp only [am_lv_of, rX13_comesOut_42, rX13_comesOut_43, rX13_comesOut_44, rX13_comesOut_47, rX13_comesOut_48, rX13_comesOut_49, rX13_comesOut_52, rX13_comesOut_53, rX13_comesOut_54, rX13_comesOut_56, rX13_comesOut_59, rX13_comesOut_60, rX13_comesOut_63, rX13_comesOut_64, rX13_comesOut_66, rX13_comesOut_69, rX13_comesOut_70, ro_69_1 hR, ro_69_3 hR, ro_69_5 hR, ro_69_6 hR, ro_69_7 hR, ro_69_8 hR, ro_69_9 hR, ro_69_21 hR, ro_69_22 hR, ro_69_23 hR, ro_69_24 hR, ro_69_25 hR, ro_69_26 hR, ro_69_27 hR, ro_69_28 hR, ro_69_29 hR, ro_69_30 hR, ro_69_31 hR, ro_69_32 hR, ro_69_33 hR, ro_69_34 hR, ro_69_35 hR, ro_69_36 hR, ro_69_38 hR, ro_69_39 hR, ro_69_40 hR, ro_69_41 hR, ro_69_42 hR, ro_69_44 hR, ro_69_45 hR, ro_69_46 hR, ro_69_48 hR, ro_69_49 hR, ro_69_51 hR, ro_69_52 hR, ro_69_55 hR, ro_69_56 hR, ro_69_57 hR, ro_69_58 hR, ro_69_59 hR, ro_69_61 hR, ro_69_62 hR, ro_69_63 hR, ro_69_64 hR, ro_69_65 hR, ro_69_66 hR, sh_69, sh_70, sh_71, sh_72, sh_73, sh_74, sh_75, sh_76, sh_77, sh_78, sh_79, sh_80, sh_81, sh_82, sh_83, sh_84, sh_85, sh_86, sh_87, sh_88, sh_89, sh_90, sh_91, sh_92, sh_93, sh_94, sh_95, sh_96, sh_97, sh_98, sh_99, sh_100, sh_101, sh_102, sh_103, sh_104, sh_105, sh_106, sh_107, sh_108, sh_109, sh_110, sh_111, sh_112, sh_113, sh_114, sh_115, hl, hvw9, Nat.reduceLT, Nat.reduceAdd, Nat.reduceMul, ne_eq, Nat.reduceEqDiff, not_false_eq_true, or_true, true_or, or_false, false_or, and_true, true_and, and_self, Nat.reduceLeDiff, am_ci, am_cr, am_cn0, Option.toList_some, Option.toList_none, List.cons_append, List.nil_append, am_s0, am_s1, am_s1r, am_s2, am_s2r, am_s3r, nI_add, am_u_ne, am_u_at, am_u_n1, am_u_n2, am_w_ne, ↓reduceIte, hn, h47, s1, q8, q9, not_true_eq_false, not_false_eq_true]
          exact go 3 (by unfold opc; rw [if_neg w8, if_pos w9])
        · have q9 : ¬ nI w = nI 9 := nI_ne (by omega) (by omega) w9
          by_cases w10 : w = 10
          · have q10 : (nI w = nI 10) = True := eq_true (by rw [w10])
            simp only [am_lv_of, rX13_comesOut_42, rX13_comesOut_43, rX13_comesOut_44, rX13_comesOut_47, rX13_comesOut_48, rX13_comesOut_49, rX13_comesOut_52, rX13_comesOut_53, rX13_comesOut_54, rX13_comesOut_56, rX13_comesOut_59, rX13_comesOut_60, rX13_comesOut_63, rX13_comesOut_64, rX13_comesOut_66, rX13_comesOut_69, rX13_comesOut_70, rX13_comesOut_73, rX13_comesOut_74, rX13_comesOut_76, rX13_comesOut_79, rX13_comesOut_80, ro_69_1 hR, ro_69_3 hR, ro_69_5 hR, ro_69_6 hR, ro_69_7 hR, ro_69_8 hR, ro_69_9 hR, ro_69_21 hR, ro_69_22 hR, ro_69_23 hR, ro_69_24 hR, ro_69_25 hR, ro_69_26 hR, ro_69_27 hR, ro_69_28 hR, ro_69_29 hR, ro_69_30 hR, ro_69_31 hR, ro_69_32 hR, ro_69_33 hR, ro_69_34 hR, ro_69_35 hR, ro_69_36 hR, ro_69_38 hR, ro_69_39 hR, ro_69_40 hR, ro_69_41 hR, ro_69_42 hR, ro_69_44 hR, ro_69_45 hR, ro_69_46 hR, ro_69_48 hR, ro_69_49 hR, ro_69_51 hR, ro_69_52 hR, ro_69_55 hR, ro_69_56 hR, ro_69_57 hR, ro_69_58 hR, ro_69_59 hR, ro_69_61 hR, ro_69_62 hR, ro_69_63 hR, ro_69_64 hR, ro_69_65 hR, ro_69_66 hR, sh_69, sh_70, sh_71, sh_72, sh_73, sh_74, sh_75, sh_76, sh_77, sh_78, sh_79, sh_80, sh_81, sh_82, sh_83, sh_84, sh_85, sh_86, sh_87, sh_88, sh_89, sh_90, sh_91, sh_92, sh_93, sh_94, sh_95, sh_96, sh_97, sh_98, sh_99, sh_100, sh_101, sh_102, sh_103, sh_104, sh_105, sh_106, sh_107, sh_108, sh_109, sh_110, sh_111, sh_112, sh_113, sh_114, sh_115, hl, hvw9, Nat.reduceLT, Nat.reduceAdd, Nat.reduceMul, ne_eq, Nat.reduceEqDiff, not_false_eq_true, or_true, true_or, or_false, false_or, and_true, true_and, and_self, Nat.reduceLeDiff, am_ci, am_cr, am_cn0, Option.toList_some, Option.toList_none, List.cons_append, List.nil_append, am_s0, am_s1, am_s1r, am_s2, am_s2r, am_s3r, nI_add, am_u_ne, am_u_at, am_u_n1, am_u_n2, am_w_ne, ↓reduceIte, hn, h47, s1, q8, q9, q10, not_true_eq_false, not_false_eq_true]
            exact go 4 (by unfold opc; rw [if_neg w8, if_neg w9, if_pos w10])
          · have q10 : ¬ nI w = nI 10 := nI_ne (by omega) (by omega) w10
            simp only [am_lv_of, rX13_comesOut_42, rX13_comesOut_43, rX13_comesOut_44, rX13_comesOut_47, rX13_comesOut_48, rX13_comesOut_49, rX13_comesOut_52, rX13_comesOut_53, rX13_comesOut_54, rX13_comesOut_56, rX13_comesOut_59, rX13_comesOut_60, rX13_comesOut_63, rX13_comesOut_64, rX13_comesOut_66, rX13_comesOut_69, rX13_comesOut_70, rX13_comesOut_73, rX13_comesOut_74, rX13_comesOut_76, rX13_comesOut_79, rX13_comesOut_80, rX13_comesOut_83, ro_69_1 hR, ro_69_3 hR, ro_69_5 hR, ro_69_6 hR, ro_69_7 hR, ro_69_8 hR, ro_69_9 hR, ro_69_21 hR, ro_69_22 hR, ro_69_23 hR, ro_69_24 hR, ro_69_25 hR, ro_69_26 hR, ro_69_27 hR, ro_69_28 hR, ro_69_29 hR, ro_69_30 hR, ro_69_31 hR, ro_69_32 hR, ro_69_33 hR, ro_69_34 hR, ro_69_35 hR, ro_69_36 hR, ro_69_38 hR, ro_69_39 hR, ro_69_40 hR, ro_69_41 hR, ro_69_42 hR, ro_69_44 hR, ro_69_45 hR, ro_69_46 hR, ro_69_48 hR, ro_69_49 hR, ro_69_51 hR, ro_69_52 hR, ro_69_55 hR, ro_69_56 hR, ro_69_57 hR, ro_69_58 hR, ro_69_59 hR, ro_69_61 hR, ro_69_62 hR, ro_69_63 hR, ro_69_64 hR, ro_69_65 hR, ro_69_66 hR, sh_69, sh_70, sh_71, sh_72, sh_73, sh_74, sh_75, sh_76, sh_77, sh_78, sh_79, sh_80, sh_81, sh_82, sh_83, sh_84, sh_85, sh_86, sh_87, sh_88, sh_89, sh_90, sh_91, sh_92, sh_93, sh_94, sh_95, sh_96, sh_97, sh_98, sh_99, sh_100, sh_101, sh_102, sh_103, sh_104, sh_105, sh_106, sh_107, sh_108, sh_109, sh_110, sh_111, sh_112, sh_113, sh_114, sh_115, hl, hvw9, Nat.reduceLT, Nat.reduceAdd, Nat.reduceMul, ne_eq, Nat.reduceEqDiff, not_false_eq_true, or_true, true_or, or_false, false_or, and_true, true_and, and_self, Nat.reduceLeDiff, am_ci, am_cr, am_cn0, Option.toList_some, Option.toList_none, List.cons_append, List.nil_append, am_s0, am_s1, am_s1r, am_s2, am_s2r, am_s3r, nI_add, am_u_ne, am_u_at, am_u_n1, am_u_n2, am_w_ne, ↓reduceIte, hn, h47, s1, q8, q9, q10, not_false_eq_true]
            exact go 5 (by unfold opc; rw [if_neg w8, if_neg w9, if_neg w10])
    rw [rX13_comesOut_0]
    cases b with
    | true =>
      obtain ⟨n8, n9⟩ := h89 rfl
      have q8 : ¬ nI w = nI 8 := nI_ne (by omega) (by omega) n8
      have q9 : ¬ nI w = nI 9 := nI_ne (by omega) (by omega) n9
      have zt : ¬ bI true = 0 := by decide
      simp only [am_lv_of, rX13_comesOut_1, rX13_comesOut_4, rX13_comesOut_7, rX13_comesOut_8, rX13_comesOut_11, rX13_comesOut_12, rX13_comesOut_15, rX13_comesOut_16, rX13_comesOut_17, rX13_comesOut_18, rX13_comesOut_19, rX13_comesOut_20, rX13_comesOut_22, rX13_comesOut_25, rX13_comesOut_26, rX13_comesOut_29, rX13_comesOut_30, rX13_comesOut_32, rX13_comesOut_35, rX13_comesOut_36, rX13_comesOut_38, ro_69_1 hR, ro_69_3 hR, ro_69_5 hR, ro_69_6 hR, ro_69_7 hR, ro_69_8 hR, ro_69_9 hR, ro_69_21 hR, ro_69_22 hR, ro_69_23 hR, ro_69_24 hR, ro_69_25 hR, ro_69_26 hR, ro_69_27 hR, ro_69_28 hR, ro_69_29 hR, ro_69_30 hR, ro_69_31 hR, ro_69_32 hR, ro_69_33 hR, ro_69_34 hR, ro_69_35 hR, ro_69_36 hR, ro_69_38 hR, ro_69_39 hR, ro_69_40 hR, ro_69_41 hR, ro_69_42 hR, ro_69_44 hR, ro_69_45 hR, ro_69_46 hR, ro_69_48 hR, ro_69_49 hR, ro_69_51 hR, ro_69_52 hR, ro_69_55 hR, ro_69_56 hR, ro_69_57 hR, ro_69_58 hR, ro_69_59 hR, ro_69_61 hR, ro_69_62 hR, ro_69_63 hR, ro_69_64 hR, ro_69_65 hR, ro_69_66 hR, sh_69, sh_70, sh_71, sh_72, sh_73, sh_74, sh_75, sh_76, sh_77, sh_78, sh_79, sh_80, sh_81, sh_82, sh_83, sh_84, sh_85, sh_86, sh_87, sh_88, sh_89, sh_90, sh_91, sh_92, sh_93, sh_94, sh_95, sh_96, sh_97, sh_98, sh_99, sh_100, sh_101, sh_102, sh_103, sh_104, sh_105, sh_106, sh_107, sh_108, sh_109, sh_110, sh_111, sh_112, sh_113, sh_114, sh_115, hl, hvw9, Nat.reduceLT, Nat.reduceAdd, Nat.reduceMul, ne_eq, Nat.reduceEqDiff, not_false_eq_true, or_true, true_or, or_false, false_or, and_true, true_and, and_self, Nat.reduceLeDiff, am_ci, am_cr, am_cn0, Option.toList_some, Option.toList_none, List.cons_append, List.nil_append, am_s0, am_s1, am_s1r, am_s2, am_s2r, am_s3r, nI_add, am_u_ne, am_u_at, am_u_n1, am_u_n2, am_w_ne, ↓reduceIte, h47, z0, s1, w64, pil_top hp, c6, zt, q8, q9, not_false_eq_true]
      exact at42
    | false =>
      have zt : (bI false = 0) = True := eq_true (by decide)
      simp only [am_lv_of, rX13_comesOut_1, rX13_comesOut_4, rX13_comesOut_7, rX13_comesOut_8, rX13_comesOut_11, rX13_comesOut_12, rX13_comesOut_15, rX13_comesOut_16, rX13_comesOut_17, rX13_comesOut_18, rX13_comesOut_19, rX13_comesOut_20, rX13_comesOut_22, rX13_comesOut_25, rX13_comesOut_26, ro_69_1 hR, ro_69_3 hR, ro_69_5 hR, ro_69_6 hR, ro_69_7 hR, ro_69_8 hR, ro_69_9 hR, ro_69_21 hR, ro_69_22 hR, ro_69_23 hR, ro_69_24 hR, ro_69_25 hR, ro_69_26 hR, ro_69_27 hR, ro_69_28 hR, ro_69_29 hR, ro_69_30 hR, ro_69_31 hR, ro_69_32 hR, ro_69_33 hR, ro_69_34 hR, ro_69_35 hR, ro_69_36 hR, ro_69_38 hR, ro_69_39 hR, ro_69_40 hR, ro_69_41 hR, ro_69_42 hR, ro_69_44 hR, ro_69_45 hR, ro_69_46 hR, ro_69_48 hR, ro_69_49 hR, ro_69_51 hR, ro_69_52 hR, ro_69_55 hR, ro_69_56 hR, ro_69_57 hR, ro_69_58 hR, ro_69_59 hR, ro_69_61 hR, ro_69_62 hR, ro_69_63 hR, ro_69_64 hR, ro_69_65 hR, ro_69_66 hR, sh_69, sh_70, sh_71, sh_72, sh_73, sh_74, sh_75, sh_76, sh_77, sh_78, sh_79, sh_80, sh_81, sh_82, sh_83, sh_84, sh_85, sh_86, sh_87, sh_88, sh_89, sh_90, sh_91, sh_92, sh_93, sh_94, sh_95, sh_96, sh_97, sh_98, sh_99, sh_100, sh_101, sh_102, sh_103, sh_104, sh_105, sh_106, sh_107, sh_108, sh_109, sh_110, sh_111, sh_112, sh_113, sh_114, sh_115, hl, hvw9, Nat.reduceLT, Nat.reduceAdd, Nat.reduceMul, ne_eq, Nat.reduceEqDiff, not_false_eq_true, or_true, true_or, or_false, false_or, and_true, true_and, and_self, Nat.reduceLeDiff, am_ci, am_cr, am_cn0, Option.toList_some, Option.toList_none, List.cons_append, List.nil_append, am_s0, am_s1, am_s1r, am_s2, am_s2r, am_s3r, nI_add, am_u_ne, am_u_at, am_u_n1, am_u_n2, am_w_ne, ↓reduceIte, h47, z0, s1, w64, pil_top hp, c6, zt]
      exact at42
theorem co_er {pt : Nat} {J : Nat → Nat → Int32} (h : am_ag (cuO pt) I J) : am_ag (erP pt) I J := h.mono (fun k j z => by unfold cuO at z; unfold erP; omega)
/-- the stack alone -/
def skR (pt : Nat) (J : Nat → Nat → Int32) (W : List Nat) (c : Nat) : Prop := J 69 47 = nI W.length ∧ pil J 100 (W.map nI) ∧ (∀ w, w ∈ W → okS w) ∧ W.length ≤ 63 ∧ J 69 43 = nI c ∧ (420 * pt ≤ c ∧ c + nops W ≤ 420 * pt + 420) ∧ pt < 2
/-- the last pops, from pc 204 on -/
theorem l_out {pt : Nat} {W : List Nat} {c : Nat} {l2 : Option Value} (hR : am_OR R) (hN : 116 ≤ n) (hn : n ≤ 1000) (S : skR pt I W c) (hQ : ∀ S' W0 I', W = S' ++ W0 → (∀ w, w ∈ S' → w ≠ 6) → (W0 = [] ∨ ∃ W1, W0 = 6 :: W1) → am_ag (cuO pt) I I' → I' 69 43 = nI (c + S'.length) → rf_seg I' c (pops S') → (∀ k j, k = 98 ∨ k = 99 → j < c → I' k j = I k j) → Q none (n, I', L, R)) : am_E X (d + 3) mX13_expression 204 [some (.ref 69), some (.int (nI 0)), l2] [] (n, I, L, R) Q := by
  have hl := am_lt hN
  have hvw9 := am_lw hN
  obtain ⟨h1, h2, h3, h4, h5, h6, hpt⟩ := S
  obtain ⟨S', W0, rfl, e2, e3⟩ := splitW W
  have b0 : nI 0 = bI false := by decide
  simp only [am_lv_of, rX13_expression_204, rX13_expression_205, rX13_expression_206, ro_69_1 hR, ro_69_3 hR, ro_69_5 hR, ro_69_6 hR, ro_69_7 hR, ro_69_8 hR, ro_69_9 hR, ro_69_21 hR, ro_69_22 hR, ro_69_23 hR, ro_69_24 hR, ro_69_25 hR, ro_69_26 hR, ro_69_27 hR, ro_69_28 hR, ro_69_29 hR, ro_69_30 hR, ro_69_31 hR, ro_69_32 hR, ro_69_33 hR, ro_69_34 hR, ro_69_35 hR, ro_69_36 hR, ro_69_38 hR, ro_69_39 hR, ro_69_40 hR, ro_69_41 hR, ro_69_42 hR, ro_69_44 hR, ro_69_45 hR, ro_69_46 hR, ro_69_48 hR, ro_69_49 hR, ro_69_51 hR, ro_69_52 hR, ro_69_55 hR, ro_69_56 hR, ro_69_57 hR, ro_69_58 hR, ro_69_59 hR, ro_69_61 hR, ro_69_62 hR, ro_69_63 hR, ro_69_64 hR, ro_69_65 hR, ro_69_66 hR, sh_69, sh_70, sh_71, sh_72, sh_73, sh_74, sh_75, sh_76, sh_77, sh_78, sh_79, sh_80, sh_81, sh_82, sh_83, sh_84, sh_85, sh_86, sh_87, sh_88, sh_89, sh_90, sh_91, sh_92, sh_93, sh_94, sh_95, sh_96, sh_97, sh_98, sh_99, sh_100, sh_101, sh_102, sh_103, sh_104, sh_105, sh_106, sh_107, sh_108, sh_109, sh_110, sh_111, sh_112, sh_113, sh_114, sh_115, hl, hvw9, Nat.reduceLT, Nat.reduceAdd, Nat.reduceMul, ne_eq, Nat.reduceEqDiff, not_false_eq_true, or_true, true_or, or_false, false_or, and_true, true_and, and_self, Nat.reduceLeDiff, am_ci, am_cr, am_cn0, Option.toList_some, Option.toList_none, List.cons_append, List.nil_append, am_s0, am_s1, am_s1r, am_s2, am_s2r, am_s3r, nI_add, am_u_ne, am_u_at, am_u_n1, am_u_n2, am_w_ne]
  rw [nops_app, (nops_op S' e2).1] at h6
  refine l_comesOut (d := d + 1) (b := false) (W0 := W0) hpt hR hN hn ?_ S' c I none (fun w hw => ⟨h3 w (by simp [hw]), e2 w hw, fun z => by cases z⟩) h4 h1 h2 h5 (by omega) (fun I' g q47 q43 qs qo => ?_)
  · rcases e3 with z | ⟨W1, z⟩
    · exact Or.inl z
    · exact Or.inr ⟨6, W1, z, Or.inl rfl⟩
  · simp only [am_lv_of, Option.toList_none, List.nil_append, rX13_expression_209]
    exact hQ S' W0 I' rfl e2 e3 g q43 qs qo
/-- a fault is on, at B: out -/
theorem lB_dead {pt : Nat} {e : Nat × Nat} {W : List Nat} {c o : Nat} (hR : am_OR R) (hN : 116 ≤ n) (hn : n ≤ 1000) (D : ddR I x e) (S : skR pt I W c) (h12 : I 69 12 = nI o) (hQ : ∀ I', am_ag (erP pt) I I' → ddR I' x e → Q none (n, I', L, R)) : am_E X (d + 3) mX13_expression 96 [some (.ref 69), some (.int (nI 0)), some (.int (nI 1))] [] (n, I, L, R) Q := by
  have hl := am_lt hN
  have hvw9 := am_lw hN
  have z0 : (nI 0 = 0) = True := eq_true rfl
  have at204 : ∀ l2, am_E X (d + 3) mX13_expression 204 [some (.ref 69), some (.int (nI 0)), l2] [] (n, I, L, R) Q := fun l2 => l_out (d := d) hR hN hn S (fun S' W0 I' _ _ _ g _ _ _ => hQ I' (co_er g) (D.ag (fun j hj => g 69 j (by unfold cuO; omega))))
  by_cases ho : nI o ≤ nI 0
  · simp only [am_lv_of, rX13_expression_96, rX13_expression_97, rX13_expression_99, rX13_expression_102, rX13_expression_145, rX13_expression_146, rX13_expression_148, rX13_expression_151, rX13_expression_154, rX13_expression_155, rX13_expression_157, rX13_expression_160, rX13_expression_163, rX13_expression_164, rX13_expression_166, rX13_expression_169, rX13_expression_172, rX13_expression_173, rX13_expression_175, rX13_expression_178, rX13_expression_185, rX13_expression_186, rX13_expression_187, rX13_expression_188, rX13_expression_191, rX13_expression_192, rX13_expression_195, rX13_expression_196, ro_69_1 hR, ro_69_3 hR, ro_69_5 hR, ro_69_6 hR, ro_69_7 hR, ro_69_8 hR, ro_69_9 hR, ro_69_21 hR, ro_69_22 hR, ro_69_23 hR, ro_69_24 hR, ro_69_25 hR, ro_69_26 hR, ro_69_27 hR, ro_69_28 hR, ro_69_29 hR, ro_69_30 hR, ro_69_31 hR, ro_69_32 hR, ro_69_33 hR, ro_69_34 hR, ro_69_35 hR, ro_69_36 hR, ro_69_38 hR, ro_69_39 hR, ro_69_40 hR, ro_69_41 hR, ro_69_42 hR, ro_69_44 hR, ro_69_45 hR, ro_69_46 hR, ro_69_48 hR, ro_69_49 hR, ro_69_51 hR, ro_69_52 hR, ro_69_55 hR, ro_69_56 hR, ro_69_57 hR, ro_69_58 hR, ro_69_59 hR, ro_69_61 hR, ro_69_62 hR, ro_69_63 hR, ro_69_64 hR, ro_69_65 hR, ro_69_66 hR, sh_69, sh_70, sh_71, sh_72, sh_73, sh_74, sh_75, sh_76, sh_77, sh_78, sh_79, sh_80, sh_81, sh_82, sh_83, sh_84, sh_85, sh_86, sh_87, sh_88, sh_89, sh_90, sh_91, sh_92, sh_93, sh_94, sh_95, sh_96, sh_97, sh_98, sh_99, sh_100, sh_101, sh_102, sh_103, sh_104, sh_105, sh_106, sh_107, sh_108, sh_109, sh_110, sh_111, sh_112, sh_113, sh_114, sh_115, hl, hvw9, Nat.reduceLT, Nat.reduceAdd, Nat.reduceMul, ne_eq, Nat.reduceEqDiff, not_false_eq_true, or_true, true_or, or_false, false_or, and_true, true_and, and_self, Nat.reduceLeDiff, am_ci, am_cr, am_cn0, Option.toList_some, Option.toList_none, List.cons_append, List.nil_append, am_s0, am_s1, am_s1r, am_s2, am_s2r, am_s3r, nI_add, am_u_ne, am_u_at, am_u_n1, am_u_n2, am_w_ne, ↓reduceIte, c_isD hR hN D, z0, not_true_eq_false, h12, ho]
    exact at204 _
  · simp only [am_lv_of, rX13_expression_96, rX13_expression_97, rX13_expression_99, rX13_expression_102, rX13_expression_145, rX13_expression_146, rX13_expression_148, rX13_expression_151, rX13_expression_154, rX13_expression_155, rX13_expression_157, rX13_expression_160, rX13_expression_163, rX13_expression_164, rX13_expression_166, rX13_expression_169, rX13_expression_172, rX13_expression_173, rX13_expression_175, rX13_expression_178, rX13_expression_185, rX13_expression_186, rX13_expression_187, rX13_expression_188, rX13_expression_191, rX13_expression_192, rX13_expression_195, rX13_expression_196, rX13_expression_199, rX13_expression_200, rX13_expression_201, ro_69_1 hR, ro_69_3 hR, ro_69_5 hR, ro_69_6 hR, ro_69_7 hR, ro_69_8 hR, ro_69_9 hR, ro_69_21 hR, ro_69_22 hR, ro_69_23 hR, ro_69_24 hR, ro_69_25 hR, ro_69_26 hR, ro_69_27 hR, ro_69_28 hR, ro_69_29 hR, ro_69_30 hR, ro_69_31 hR, ro_69_32 hR, ro_69_33 hR, ro_69_34 hR, ro_69_35 hR, ro_69_36 hR, ro_69_38 hR, ro_69_39 hR, ro_69_40 hR, ro_69_41 hR, ro_69_42 hR, ro_69_44 hR, ro_69_45 hR, ro_69_46 hR, ro_69_48 hR, ro_69_49 hR, ro_69_51 hR, ro_69_52 hR, ro_69_55 hR, ro_69_56 hR, ro_69_57 hR, ro_69_58 hR, ro_69_59 hR, ro_69_61 hR, ro_69_62 hR, ro_69_63 hR, ro_69_64 hR, ro_69_65 hR, ro_69_66 hR, sh_69, sh_70, sh_71, sh_72, sh_73, sh_74, sh_75, sh_76, sh_77, sh_78, sh_79, sh_80, sh_81, sh_82, sh_83, sh_84, sh_85, sh_86, sh_87, sh_88, sh_89, sh_90, sh_91, sh_92, sh_93, sh_94, sh_95, sh_96, sh_97, sh_98, sh_99, sh_100, sh_101, sh_102, sh_103, sh_104, sh_105, sh_106, sh_107, sh_108, sh_109, sh_110, sh_111, sh_112, sh_113, sh_114, sh_115, hl, hvw9, Nat.reduceLT, Nat.reduceAdd, Nat.reduceMul, ne_eq, Nat.reduceEqDiff, not_false_eq_true, or_true, true_or, or_false, false_or, and_true, true_and, and_self, Nat.reduceLeDiff, am_ci, am_cr, am_cn0, Option.toList_some, Option.toList_none, List.cons_append, List.nil_append, am_s0, am_s1, am_s1r, am_s2, am_s2r, am_s3r, nI_add, am_u_ne, am_u_at, am_u_n1, am_u_n2, am_w_ne, ↓reduceIte, c_isD hR hN D, z0, not_true_eq_false, h12, ho, c_failD hR hN D, Option.toList_none]
    exact at204 _
/-- an operator at B -/
theorem lB_op {pt t c : Nat} {S W : List Nat} (hR : am_OR R) (hN : 116 ≤ n) (hn : n ≤ 1000) (T : stR I L x pt t (S ++ W) c) (hk : kK x t = 42 ∨ kK x t = 47 ∨ kK x t = 43 ∨ kK x t = 45) (hlen : (S ++ W).length ≤ 62) (hS : ∀ w, w ∈ S → okS w ∧ w ≠ 6 ∧ (decide (kK x t = 42 ∨ kK x t = 47) = true → w ≠ 8 ∧ w ≠ 9)) (h0 : W = [] ∨ ∃ w W1, W = w :: W1 ∧ (w = 6 ∨ (decide (kK x t = 42 ∨ kK x t = 47) = true ∧ (w = 8 ∨ w = 9))))
    (hE : ∀ e, stE t = .inl e → ∀ J', am_ag (erP pt) I J' → ddR J' x e → Q none (n, J', L, R))
    (hA : stE t = .inr (t + 1) → ∀ J', am_ag (erP pt) I J' → stR J' L x pt (t + 1) (rK (kK x t) :: W) (c + S.length) → rf_seg J' c (pops S) → (∀ k j, k = 98 ∨ k = 99 → j < c → J' k j = I k j) → am_E X (d + 3) mX13_expression 23 [some (.ref 69), some (.int (nI 0)), some (.int (nI 1))] [] (n, J', L, R) Q) : am_E X (d + 3) mX13_expression 96 [some (.ref 69), some (.int (nI 0)), some (.int (nI 1))] [] (n, I, L, R) Q := by
  have hl := am_lt hN
  have hvw9 := am_lw hN
  obtain ⟨T1, h12, h47, hp, hw, h43, hc, hpt⟩ := id T
  have t4 := T1.2.2.1
  have z0 : (nI 0 = 0) = True := eq_true rfl
  have z1 : ¬ nI 1 = 0 := by decide
  have i7 : ∀ {Q'}, am_E X (d + 2) mX13_is 0 [some (.ref 69), some (.int (nI 7))] [] (n, I, L, R) Q' ↔ Q' (some (.int (bI (decide (kK x t = 41))))) (n, I, L, R) := c_isR (c := 41) (r := 7) hR hN T1 (by omega) rfl rfl
  have i8 : ∀ {Q'}, am_E X (d + 2) mX13_is 0 [some (.ref 69), some (.int (nI 8))] [] (n, I, L, R) Q' ↔ Q' (some (.int (bI (decide (kK x t = 43))))) (n, I, L, R) := c_isR (c := 43) (r := 8) hR hN T1 (by omega) rfl rfl
  have i9 : ∀ {Q'}, am_E X (d + 2) mX13_is 0 [some (.ref 69), some (.int (nI 9))] [] (n, I, L, R) Q' ↔ Q' (some (.int (bI (decide (kK x t = 45))))) (n, I, L, R) := c_isR (c := 45) (r := 9) hR hN T1 (by omega) rfl rfl
  have i10 : ∀ {Q'}, am_E X (d + 2) mX13_is 0 [some (.ref 69), some (.int (nI 10))] [] (n, I, L, R) Q' ↔ Q' (some (.int (bI (decide (kK x t = 42))))) (n, I, L, R) := c_isR (c := 42) (r := 10) hR hN T1 (by omega) rfl rfl
  have i15 : ∀ {Q'}, am_E X (d + 2) mX13_is 0 [some (.ref 69), some (.int (nI 15))] [] (n, I, L, R) Q' ↔ Q' (some (.int (bI (decide (kK x t = 47))))) (n, I, L, R) := c_isR (c := 47) (r := 15) hR hN T1 (by omega) rfl rfl
  have n41 : ¬ kK x t = 41 := by omega
  have nS := nops_op S (fun w hw => (hS w hw).2.1)
  rw [nops_app, nS.1] at hc
  rw [nopn_app, nS.2, Nat.zero_add] at h12
  -- the pops, the push, the step
  have at234 : ∀ bb, bb = bI (decide (kK x t = 42 ∨ kK x t = 47)) → am_E X (d + 3) mX13_expression 234 [some (.ref 69), some (.int (nI 0)), some (.int (nI 1))] [.int bb, .ref 69] (n, I, L, R) Q := by
    intro bb hbb
    subst hbb
    simp only [am_lv_of, rX13_expression_234, ro_69_1 hR, ro_69_3 hR, ro_69_5 hR, ro_69_6 hR, ro_69_7 hR, ro_69_8 hR, ro_69_9 hR, ro_69_21 hR, ro_69_22 hR, ro_69_23 hR, ro_69_24 hR, ro_69_25 hR, ro_69_26 hR, ro_69_27 hR, ro_69_28 hR, ro_69_29 hR, ro_69_30 hR, ro_69_31 hR, ro_69_32 hR, ro_69_33 hR, ro_69_34 hR, ro_69_35 hR, ro_69_36 hR, ro_69_38 hR, ro_69_39 hR, ro_69_40 hR, ro_69_41 hR, ro_69_42 hR, ro_69_44 hR, ro_69_45 hR, ro_69_46 hR, ro_69_48 hR, ro_69_49 hR, ro_69_51 hR, ro_69_52 hR, ro_69_55 hR, ro_69_56 hR, ro_69_57 hR, ro_69_58 hR, ro_69_59 hR, ro_69_61 hR, ro_69_62 hR, ro_69_63 hR, ro_69_64 hR, ro_69_65 hR, ro_69_66 hR, sh_69, sh_70, sh_71, sh_72, sh_73, sh_74, sh_75, sh_76, sh_77, sh_78, sh_79, sh_80, sh_81, sh_82, sh_83, sh_84, sh_85, sh_86, sh_87, sh_88, sh_89, sh_90, sh_91, sh_92, sh_93, sh_94, sh_95, sh_96, sh_97, sh_98, sh_99, sh_100, sh_101, sh_102, sh_103, sh_104, sh_105, sh_106, sh_107, sh_108, sh_109, sh_110, sh_111, sh_112, sh_113, sh_114, sh_115, hl, hvw9, Nat.reduceLT, Nat.reduceAdd, Nat.reduceMul, ne_eq, Nat.reduceEqDiff, not_false_eq_true, or_true, true_or, or_false, false_or, and_true, true_and, and_self, Nat.reduceLeDiff, am_ci, am_cr, am_cn0, Option.toList_some, Option.toList_none, List.cons_append, List.nil_append, am_s0, am_s1, am_s1r, am_s2, am_s2r, am_s3r, nI_add, am_u_ne, am_u_at, am_u_n1, am_u_n2, am_w_ne]
    refine l_comesOut (d := d + 1) (b := decide (kK x t = 42 ∨ kK x t = 47)) (W0 := W) hpt hR hN hn h0 S c I none hS (by omega) h47 hp h43 (by omega) (fun I1 g1 q47 q43 qs qo => ?_)
    have T2 : rsT I1 L x t := T1.fr (fun k j hk => g1 k j (by unfold cuO; omega))
    have w64 : W.length < 64 := by rw [List.length_append] at hlen; omega
    have t3 : t < 403 := by omega
    have rl := rK_lt (c := kK x t)
    simp only [am_lv_of, Option.toList_none, List.nil_append, rX13_expression_237, rX13_expression_238, rX13_expression_241, rX13_expression_242, rX13_expression_245, rX13_expression_246, rX13_expression_249, rX13_expression_250, rX13_expression_253, rX13_expression_254, rX13_expression_255, rX13_expression_256, rX13_expression_257, rX13_expression_260, rX13_expression_261, rX13_expression_262, rX13_expression_265, rX13_expression_266, ro_69_1 hR, ro_69_3 hR, ro_69_5 hR, ro_69_6 hR, ro_69_7 hR, ro_69_8 hR, ro_69_9 hR, ro_69_21 hR, ro_69_22 hR, ro_69_23 hR, ro_69_24 hR, ro_69_25 hR, ro_69_26 hR, ro_69_27 hR, ro_69_28 hR, ro_69_29 hR, ro_69_30 hR, ro_69_31 hR, ro_69_32 hR, ro_69_33 hR, ro_69_34 hR, ro_69_35 hR, ro_69_36 hR, ro_69_38 hR, ro_69_39 hR, ro_69_40 hR, ro_69_41 hR, ro_69_42 hR, ro_69_44 hR, ro_69_45 hR, ro_69_46 hR, ro_69_48 hR, ro_69_49 hR, ro_69_51 hR, ro_69_52 hR, ro_69_55 hR, ro_69_56 hR, ro_69_57 hR, ro_69_58 hR, ro_69_59 hR, ro_69_61 hR, ro_69_62 hR, ro_69_63 hR, ro_69_64 hR, ro_69_65 hR, ro_69_66 hR, sh_69, sh_70, sh_71, sh_72, sh_73, sh_74, sh_75, sh_76, sh_77, sh_78, sh_79, sh_80, sh_81, sh_82, sh_83, sh_84, sh_85, sh_86, sh_87, sh_88, sh_89, sh_90, sh_91, sh_92, sh_93, sh_94, sh_95, sh_96, sh_97, sh_98, sh_99, sh_100, sh_101, sh_102, sh_103, sh_104, sh_105, sh_106, sh_107, sh_108, sh_109, sh_110, sh_111, sh_112, sh_113, sh_114, sh_115, hl, hvw9, Nat.reduceLT, Nat.reduceAdd, Nat.reduceMul, ne_eq, Nat.reduceEqDiff, not_false_eq_true, or_true, true_or, or_false, false_or, and_true, true_and, and_self, Nat.reduceLeDiff, am_ci, am_cr, am_cn0, Option.toList_some, Option.toList_none, List.cons_append, List.nil_append, am_s0, am_s1, am_s1r, am_s2, am_s2r, am_s3r, nI_add, am_u_ne, am_u_at, am_u_n1, am_u_n2, am_w_ne, hn, q47, w64, T2.2.1, t3, T2.k]
    have gA : am_ag (erP pt) I (am_u (am_u I1 100 W.length (nI (rK (kK x t)))) 69 47 (nI (W.length + 1))) := by
      refine am_ag.u (am_ag.u (co_er g1) ?_) ?_
      · unfold erP; omega
      · unfold erP; omega
    have T3 : rsT (am_u (am_u I1 100 W.length (nI (rK (kK x t)))) 69 47 (nI (W.length + 1))) L x t := T2.fr (fun k j hk => by
      by_cases e : k = 69
      · subst e; rw [am_u_n2 (by omega), am_u_n1 (by omega)]
      · rw [am_u_n1 e, am_u_n1 (by omega)])
    have z0f : (nI 0 = 0) = True := eq_true rfl
    refine c_goesOnR (d := d + 1) hR hN hn T3 (by omega) (fun e he I2 g2 D => ?_) (fun t' ht I2 g2 T4 => ?_)
    · have zf : ¬ nI e.1 = 0 := nI_ne0 (by have := D.1; omega) (by have := D.1; omega)
      simp only [am_lv_of, Option.toList_none, List.nil_append, rX13_expression_269, rX13_expression_12, rX13_expression_13, rX13_expression_16, rX13_expression_17, rX13_expression_20, rX13_expression_272, ro_69_1 hR, ro_69_3 hR, ro_69_5 hR, ro_69_6 hR, ro_69_7 hR, ro_69_8 hR, ro_69_9 hR, ro_69_21 hR, ro_69_22 hR, ro_69_23 hR, ro_69_24 hR, ro_69_25 hR, ro_69_26 hR, ro_69_27 hR, ro_69_28 hR, ro_69_29 hR, ro_69_30 hR, ro_69_31 hR, ro_69_32 hR, ro_69_33 hR, ro_69_34 hR, ro_69_35 hR, ro_69_36 hR, ro_69_38 hR, ro_69_39 hR, ro_69_40 hR, ro_69_41 hR, ro_69_42 hR, ro_69_44 hR, ro_69_45 hR, ro_69_46 hR, ro_69_48 hR, ro_69_49 hR, ro_69_51 hR, ro_69_52 hR, ro_69_55 hR, ro_69_56 hR, ro_69_57 hR, ro_69_58 hR, ro_69_59 hR, ro_69_61 hR, ro_69_62 hR, ro_69_63 hR, ro_69_64 hR, ro_69_65 hR, ro_69_66 hR, sh_69, sh_70, sh_71, sh_72, sh_73, sh_74, sh_75, sh_76, sh_77, sh_78, sh_79, sh_80, sh_81, sh_82, sh_83, sh_84, sh_85, sh_86, sh_87, sh_88, sh_89, sh_90, sh_91, sh_92, sh_93, sh_94, sh_95, sh_96, sh_97, sh_98, sh_99, sh_100, sh_101, sh_102, sh_103, sh_104, sh_105, sh_106, sh_107, sh_108, sh_109, sh_110, sh_111, sh_112, sh_113, sh_114, sh_115, hl, hvw9, Nat.reduceLT, Nat.reduceAdd, Nat.reduceMul, ne_eq, Nat.reduceEqDiff, not_false_eq_true, or_true, true_or, or_false, false_or, and_true, true_and, and_self, Nat.reduceLeDiff, am_ci, am_cr, am_cn0, Option.toList_some, Option.toList_none, List.cons_append, List.nil_append, am_s0, am_s1, am_s1r, am_s2, am_s2r, am_s3r, nI_add, am_u_ne, am_u_at, am_u_n1, am_u_n2, am_w_ne, ↓reduceIte, z1, D.2.1, zf, not_false_eq_true]
      exact hE e he I2 (gA.trans (g2.mono (fun k j z => by unfold erP; omega))) D
    · obtain ⟨q1, rfl⟩ := stE_inr ht
      simp only [am_lv_of, Option.toList_none, List.nil_append, rX13_expression_269, rX13_expression_12, rX13_expression_13, rX13_expression_16, rX13_expression_17, rX13_expression_20, ro_69_1 hR, ro_69_3 hR, ro_69_5 hR, ro_69_6 hR, ro_69_7 hR, ro_69_8 hR, ro_69_9 hR, ro_69_21 hR, ro_69_22 hR, ro_69_23 hR, ro_69_24 hR, ro_69_25 hR, ro_69_26 hR, ro_69_27 hR, ro_69_28 hR, ro_69_29 hR, ro_69_30 hR, ro_69_31 hR, ro_69_32 hR, ro_69_33 hR, ro_69_34 hR, ro_69_35 hR, ro_69_36 hR, ro_69_38 hR, ro_69_39 hR, ro_69_40 hR, ro_69_41 hR, ro_69_42 hR, ro_69_44 hR, ro_69_45 hR, ro_69_46 hR, ro_69_48 hR, ro_69_49 hR, ro_69_51 hR, ro_69_52 hR, ro_69_55 hR, ro_69_56 hR, ro_69_57 hR, ro_69_58 hR, ro_69_59 hR, ro_69_61 hR, ro_69_62 hR, ro_69_63 hR, ro_69_64 hR, ro_69_65 hR, ro_69_66 hR, sh_69, sh_70, sh_71, sh_72, sh_73, sh_74, sh_75, sh_76, sh_77, sh_78, sh_79, sh_80, sh_81, sh_82, sh_83, sh_84, sh_85, sh_86, sh_87, sh_88, sh_89, sh_90, sh_91, sh_92, sh_93, sh_94, sh_95, sh_96, sh_97, sh_98, sh_99, sh_100, sh_101, sh_102, sh_103, sh_104, sh_105, sh_106, sh_107, sh_108, sh_109, sh_110, sh_111, sh_112, sh_113, sh_114, sh_115, hl, hvw9, Nat.reduceLT, Nat.reduceAdd, Nat.reduceMul, ne_eq, Nat.reduceEqDiff, not_false_eq_true, or_true, true_or, or_false, false_or, and_true, true_and, and_self, Nat.reduceLeDiff, am_ci, am_cr, am_cn0, Option.toList_some, Option.toList_none, List.cons_append, List.nil_append, am_s0, am_s1, am_s1r, am_s2, am_s2r, am_s3r, nI_add, am_u_ne, am_u_at, am_u_n1, am_u_n2, am_w_ne, ↓reduceIte, z1, T4.2.2.2.2, z0f, not_true_eq_false]
      have hne6 : rK (kK x t) ≠ 6 := by rcases hk with h | h | h | h <;> rw [h] <;> decide
      have ok : okS (rK (kK x t)) := by
        unfold okS
        rcases hk with h | h | h | h <;> rw [h] <;> decide
      refine hA ht I2 (gA.trans (g2.mono (fun k j z => by unfold erP; omega))) ⟨T4, ?_, ?_, ?_, fun w hw' => ?_, ?_, ?_, hpt⟩ ?_ (fun k j hk hj => ?_)
      · rw [nopn, if_neg hne6, Nat.zero_add, g2 69 12 (by omega), am_u_n2 (by omega), am_u_n1 (by omega), g1 69 12 (by unfold cuO; omega)]
        exact h12
      · rw [g2 69 47 (by omega), am_u_at]; rfl
      · have hpW : pil I1 100 (W.map nI) := by
          have : ∀ (S : List Nat), pil I 100 ((S ++ W).map nI) → pil I 100 (W.map nI) := by
            intro S
            induction S with
            | nil => intro h; exact h
            | cons a S ih => intro h; exact ih (pil_tail h)
          exact pil_ag (this S hp) (fun j => g1 100 j (by unfold cuO; omega))
        have := hpW.push (x := nI (rK (kK x t)))
        rw [List.length_map] at this
        exact pil_ag this (fun j => by rw [g2 100 j (by omega), am_u_n1 (by omega)])
      · rcases List.mem_cons.mp hw' with rfl | hw'
        · exact ok
        · exact hw w (by simp [hw'])
      · rw [g2 69 43 (by omega), am_u_n2 (by omega), am_u_n1 (by omega)]; exact q43
      · rw [nops, if_neg hne6]; omega
      · exact rf_seg_g qs (fun k j hk _ _ => by rw [g2 k j (by omega), am_u_n1 (by omega), am_u_n1 (by omega)])
      · rw [g2 k j (by omega), am_u_n1 (by omega), am_u_n1 (by omega)]; exact qo k j hk hj
  have zt : ¬ bI true = 0 := by decide
  have zf : (bI false = 0) = True := eq_true (by decide)
  rcases hk with h | h | h | h
  · have k42' : (kK x t = 42) = True := eq_true h
    simp only [am_lv_of, rX13_expression_96, rX13_expression_97, rX13_expression_99, rX13_expression_102, rX13_expression_145, rX13_expression_146, rX13_expression_148, rX13_expression_151, rX13_expression_154, rX13_expression_155, rX13_expression_157, rX13_expression_160, rX13_expression_163, rX13_expression_164, rX13_expression_166, rX13_expression_169, rX13_expression_172, rX13_expression_173, rX13_expression_175, rX13_expression_178, rX13_expression_181, rX13_expression_182, rX13_expression_185, rX13_expression_186, rX13_expression_187, rX13_expression_188, rX13_expression_210, rX13_expression_211, rX13_expression_212, rX13_expression_214, rX13_expression_217, rX13_expression_220, rX13_expression_221, rX13_expression_223, rX13_expression_226, rX13_expression_229, rX13_expression_230, ro_69_1 hR, ro_69_3 hR, ro_69_5 hR, ro_69_6 hR, ro_69_7 hR, ro_69_8 hR, ro_69_9 hR, ro_69_21 hR, ro_69_22 hR, ro_69_23 hR, ro_69_24 hR, ro_69_25 hR, ro_69_26 hR, ro_69_27 hR, ro_69_28 hR, ro_69_29 hR, ro_69_30 hR, ro_69_31 hR, ro_69_32 hR, ro_69_33 hR, ro_69_34 hR, ro_69_35 hR, ro_69_36 hR, ro_69_38 hR, ro_69_39 hR, ro_69_40 hR, ro_69_41 hR, ro_69_42 hR, ro_69_44 hR, ro_69_45 hR, ro_69_46 hR, ro_69_48 hR, ro_69_49 hR, ro_69_51 hR, ro_69_52 hR, ro_69_55 hR, ro_69_56 hR, ro_69_57 hR, ro_69_58 hR, ro_69_59 hR, ro_69_61 hR, ro_69_62 hR, ro_69_63 hR, ro_69_64 hR, ro_69_65 hR, ro_69_66 hR, sh_69, sh_70, sh_71, sh_72, sh_73, sh_74, sh_75, sh_76, sh_77, sh_78, sh_79, sh_80, sh_81, sh_82, sh_83, sh_84, sh_85, sh_86, sh_87, sh_88, sh_89, sh_90, sh_91, sh_92, sh_93, sh_94, sh_95, sh_96, sh_97, sh_98, sh_99, sh_100, sh_101, sh_102, sh_103, sh_104, sh_105, sh_106, sh_107, sh_108, sh_109, sh_110, sh_111, sh_112, sh_113, sh_114, sh_115, hl, hvw9, Nat.reduceLT, Nat.reduceAdd, Nat.reduceMul, ne_eq, Nat.reduceEqDiff, not_false_eq_true, or_true, true_or, or_false, false_or, and_true, true_and, and_self, Nat.reduceLeDiff, am_ci, am_cr, am_cn0, Option.toList_some, Option.toList_none, List.cons_append, List.nil_append, am_s0, am_s1, am_s1r, am_s2, am_s2r, am_s3r, nI_add, am_u_ne, am_u_at, am_u_n1, am_u_n2, am_w_ne, ↓reduceIte, i7, i8, i9, i10, i15, decide_eq_false n41, decide_eq_false (show ¬ kK x t = 43 by omega), decide_eq_false (show ¬ kK x t = 45 by omega), decide_eq_true h, zf, zt, not_true_eq_false, not_false_eq_true, z1]
    exact at234 _ (by rw [decide_eq_true (Or.inl h)]; rfl)
  · simp only [am_lv_of, rX13_expression_96, rX13_expression_97, rX13_expression_99, rX13_expression_102, rX13_expression_145, rX13_expression_146, rX13_expression_148, rX13_expression_151, rX13_expression_154, rX13_expression_155, rX13_expression_157, rX13_expression_160, rX13_expression_163, rX13_expression_164, rX13_expression_166, rX13_expression_169, rX13_expression_172, rX13_expression_173, rX13_expression_175, rX13_expression_178, rX13_expression_181, rX13_expression_182, rX13_expression_185, rX13_expression_186, rX13_expression_187, rX13_expression_188, rX13_expression_210, rX13_expression_211, rX13_expression_212, rX13_expression_214, rX13_expression_217, rX13_expression_220, rX13_expression_221, rX13_expression_223, rX13_expression_226, rX13_expression_229, rX13_expression_230, ro_69_1 hR, ro_69_3 hR, ro_69_5 hR, ro_69_6 hR, ro_69_7 hR, ro_69_8 hR, ro_69_9 hR, ro_69_21 hR, ro_69_22 hR, ro_69_23 hR, ro_69_24 hR, ro_69_25 hR, ro_69_26 hR, ro_69_27 hR, ro_69_28 hR, ro_69_29 hR, ro_69_30 hR, ro_69_31 hR, ro_69_32 hR, ro_69_33 hR, ro_69_34 hR, ro_69_35 hR, ro_69_36 hR, ro_69_38 hR, ro_69_39 hR, ro_69_40 hR, ro_69_41 hR, ro_69_42 hR, ro_69_44 hR, ro_69_45 hR, ro_69_46 hR, ro_69_48 hR, ro_69_49 hR, ro_69_51 hR, ro_69_52 hR, ro_69_55 hR, ro_69_56 hR, ro_69_57 hR, ro_69_58 hR, ro_69_59 hR, ro_69_61 hR, ro_69_62 hR, ro_69_63 hR, ro_69_64 hR, ro_69_65 hR, ro_69_66 hR, sh_69, sh_70, sh_71, sh_72, sh_73, sh_74, sh_75, sh_76, sh_77, sh_78, sh_79, sh_80, sh_81, sh_82, sh_83, sh_84, sh_85, sh_86, sh_87, sh_88, sh_89, sh_90, sh_91, sh_92, sh_93, sh_94, sh_95, sh_96, sh_97, sh_98, sh_99, sh_100, sh_101, sh_102, sh_103, sh_104, sh_105, sh_106, sh_107, sh_108, sh_109, sh_110, sh_111, sh_112, sh_113, sh_114, sh_115, hl, hvw9, Nat.reduceLT, Nat.reduceAdd, Nat.reduceMul, ne_eq, Nat.reduceEqDiff, not_false_eq_true, or_true, true_or, or_false, false_or, and_true, true_and, and_self, Nat.reduceLeDiff, am_ci, am_cr, am_cn0, Option.toList_some, Option.toList_none, List.cons_append, List.nil_append, am_s0, am_s1, am_s1r, am_s2, am_s2r, am_s3r, nI_add, am_u_ne, am_u_at, am_u_n1, am_u_n2, am_w_ne, ↓reduceIte, i7, i8, i9, i10, i15, decide_eq_false n41, decide_eq_false (show ¬ kK x t = 43 by omega), decide_eq_false (show ¬ kK x t = 45 by omega), decide_eq_false (show ¬ kK x t = 42 by omega), decide_eq_true h, zf, zt, not_true_eq_false, not_false_eq_true, z1]
    exact at234 _ (by rw [decide_eq_true (Or.inr h)]; rfl)
  · simp only [am_lv_of, rX13_expression_96, rX13_expression_97, rX13_expression_99, rX13_expression_102, rX13_expression_145, rX13_expression_146, rX13_expression_148, rX13_expression_151, rX13_expression_154, rX13_expression_155, rX13_expression_157, rX13_expression_160, rX13_expression_163, rX13_expression_164, rX13_expression_166, rX13_expression_169, rX13_expression_172, rX13_expression_173, rX13_expression_175, rX13_expression_178, rX13_expression_181, rX13_expression_182, rX13_expression_185, rX13_expression_186, rX13_expression_187, rX13_expression_188, rX13_expression_210, rX13_expression_211, rX13_expression_212, rX13_expression_214, rX13_expression_217, rX13_expression_220, rX13_expression_221, rX13_expression_223, rX13_expression_226, rX13_expression_229, rX13_expression_230, rX13_expression_233, ro_69_1 hR, ro_69_3 hR, ro_69_5 hR, ro_69_6 hR, ro_69_7 hR, ro_69_8 hR, ro_69_9 hR, ro_69_21 hR, ro_69_22 hR, ro_69_23 hR, ro_69_24 hR, ro_69_25 hR, ro_69_26 hR, ro_69_27 hR, ro_69_28 hR, ro_69_29 hR, ro_69_30 hR, ro_69_31 hR, ro_69_32 hR, ro_69_33 hR, ro_69_34 hR, ro_69_35 hR, ro_69_36 hR, ro_69_38 hR, ro_69_39 hR, ro_69_40 hR, ro_69_41 hR, ro_69_42 hR, ro_69_44 hR, ro_69_45 hR, ro_69_46 hR, ro_69_48 hR, ro_69_49 hR, ro_69_51 hR, ro_69_52 hR, ro_69_55 hR, ro_69_56 hR, ro_69_57 hR, ro_69_58 hR, ro_69_59 hR, ro_69_61 hR, ro_69_62 hR, ro_69_63 hR, ro_69_64 hR, ro_69_65 hR, ro_69_66 hR, sh_69, sh_70, sh_71, sh_72, sh_73, sh_74, sh_75, sh_76, sh_77, sh_78, sh_79, sh_80, sh_81, sh_82, sh_83, sh_84, sh_85, sh_86, sh_87, sh_88, sh_89, sh_90, sh_91, sh_92, sh_93, sh_94, sh_95, sh_96, sh_97, sh_98, sh_99, sh_100, sh_101, sh_102, sh_103, sh_104, sh_105, sh_106, sh_107, sh_108, sh_109, sh_110, sh_111, sh_112, sh_113, sh_114, sh_115, hl, hvw9, Nat.reduceLT, Nat.reduceAdd, Nat.reduceMul, ne_eq, Nat.reduceEqDiff, not_false_eq_true, or_true, true_or, or_false, false_or, and_true, true_and, and_self, Nat.reduceLeDiff, am_ci, am_cr, am_cn0, Option.toList_some, Option.toList_none, List.cons_append, List.nil_append, am_s0, am_s1, am_s1r, am_s2, am_s2r, am_s3r, nI_add, am_u_ne, am_u_at, am_u_n1, am_u_n2, am_w_ne, ↓reduceIte, i7, i8, i9, i10, i15, decide_eq_false n41, decide_eq_true h, decide_eq_false (show ¬ kK x t = 47 by omega), decide_eq_false (show ¬ kK x t = 42 by omega), zf, zt, not_true_eq_false, not_false_eq_true, z1]
    exact at234 _ (by rw [decide_eq_false (by omega)]; rfl)
  · simp only [am_lv_of, rX13_expression_96, rX13_expression_97, rX13_expression_99, rX13_expression_102, rX13_expression_145, rX13_expression_146, rX13_expression_148, rX13_expression_151, rX13_expression_154, rX13_expression_155, rX13_expression_157, rX13_expression_160, rX13_expression_163, rX13_expression_164, rX13_expression_166, rX13_expression_169, rX13_expression_172, rX13_expression_173, rX13_expression_175, rX13_expression_178, rX13_expression_181, rX13_expression_182, rX13_expression_185, rX13_expression_186, rX13_expression_187, rX13_expression_188, rX13_expression_210, rX13_expression_211, rX13_expression_212, rX13_expression_214, rX13_expression_217, rX13_expression_220, rX13_expression_221, rX13_expression_223, rX13_expression_226, rX13_expression_229, rX13_expression_230, rX13_expression_233, ro_69_1 hR, ro_69_3 hR, ro_69_5 hR, ro_69_6 hR, ro_69_7 hR, ro_69_8 hR, ro_69_9 hR, ro_69_21 hR, ro_69_22 hR, ro_69_23 hR, ro_69_24 hR, ro_69_25 hR, ro_69_26 hR, ro_69_27 hR, ro_69_28 hR, ro_69_29 hR, ro_69_30 hR, ro_69_31 hR, ro_69_32 hR, ro_69_33 hR, ro_69_34 hR, ro_69_35 hR, ro_69_36 hR, ro_69_38 hR, ro_69_39 hR, ro_69_40 hR, ro_69_41 hR, ro_69_42 hR, ro_69_44 hR, ro_69_45 hR, ro_69_46 hR, ro_69_48 hR, ro_69_49 hR, ro_69_51 hR, ro_69_52 hR, ro_69_55 hR, ro_69_56 hR, ro_69_57 hR, ro_69_58 hR, ro_69_59 hR, ro_69_61 hR, ro_69_62 hR, ro_69_63 hR, ro_69_64 hR, ro_69_65 hR, ro_69_66 hR, sh_69, sh_70, sh_71, sh_72, sh_73, sh_74, sh_75, sh_76, sh_77, sh_78, sh_79, sh_80, sh_81, sh_82, sh_83, sh_84, sh_85, sh_86, sh_87, sh_88, sh_89, sh_90, sh_91, sh_92, sh_93, sh_94, sh_95, sh_96, sh_97, sh_98, sh_99, sh_100, sh_101, sh_102, sh_103, sh_104, sh_105, sh_106, sh_107, sh_108, sh_109, sh_110, sh_111, sh_112, sh_113, sh_114, sh_115, hl, hvw9, Nat.reduceLT, Nat.reduceAdd, Nat.reduceMul, ne_eq, Nat.reduceEqDiff, not_false_eq_true, or_true, true_or, or_false, false_or, and_true, true_and, and_self, Nat.reduceLeDiff, am_ci, am_cr, am_cn0, Option.toList_some, Option.toList_none, List.cons_append, List.nil_append, am_s0, am_s1, am_s1r, am_s2, am_s2r, am_s3r, nI_add, am_u_ne, am_u_at, am_u_n1, am_u_n2, am_w_ne, ↓reduceIte, i7, i8, i9, i10, i15, decide_eq_false n41, decide_eq_false (show ¬ kK x t = 43 by omega), decide_eq_true h, decide_eq_false (show ¬ kK x t = 47 by omega), decide_eq_false (show ¬ kK x t = 42 by omega), zf, zt, not_true_eq_false, not_false_eq_true, z1]
    exact at234 _ (by rw [decide_eq_false (by omega)]; rfl)
end FB
