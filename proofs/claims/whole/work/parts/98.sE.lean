--! 98
/-! PROMISE 4: read -/
section SE
variable {X : am_X} {d n : Nat} {I : Nat → Nat → Int32} {L : Nat → Nat → Int64} {R : Nat → Nat → Option Nat}
theorem s_read (H : REL (n, I, L, R)) : sim X (d + 32) mX12_read mX13_read [some (.ref 0), none] [some (.ref 69), none] (n, I, L, R) := by
  obtain ⟨σ, H⟩ := H
  have hR : am_OR R := H.1.1
  have hN : 116 ≤ n := H.1.N
  have hn : n ≤ 1000 := H.1.n
  have hl := am_lt hN
  have hvw9 := am_lw hN
  obtain ⟨T, t1, t2, t3, t4, t5⟩ := id (show relT I from H.2.2.2.1)
  obtain ⟨x, x1, x2⟩ : ∃ x : txt, x.1 = T ∧ x.2 = (fun j => cdB (I 1 j)) := ⟨(T, fun j => cdB (I 1 j)), rfl, rfl⟩
  subst x1
  have tx : txI I 1 x := ⟨t1, fun j hj => ⟨(t4 j hj).2, by rw [x2]⟩⟩
  have tx7 : txI I 70 x := ⟨t1, fun j hj => by rw [← (t4 j hj).1]; exact tx.2 j hj⟩
  have hLL : relL L := H.2.1
  have hW : relW L := fun k hk => (hLL k hk).1
  unfold sim
  simp only [am_lv_of, rX12_read_0, rX12_read_1, rX12_read_4, rX12_read_5, rX12_read_8, rX12_read_9, rX12_read_12, ro_0_0 hR, ro_0_3 hR, ro_0_4 hR, ro_0_5 hR, ro_0_6 hR, ro_0_7 hR, ro_0_8 hR, ro_0_9 hR, ro_0_10 hR, ro_0_11 hR, ro_2_6 hR, ro_2_7 hR, ro_2_8 hR, ro_2_9 hR, ro_2_10 hR, ro_2_11 hR, ro_2_12 hR, ro_2_13 hR, ro_9_0 hR, ro_9_1 hR, ro_9_2 hR, ro_14_0 hR, ro_14_1 hR, ro_14_2 hR, ro_14_7 hR, ro_15_0 hR, ro_15_1 hR, ro_15_2 hR, ro_15_3 hR, ro_20_6 hR, ro_20_7 hR, ro_20_8 hR, ro_20_9 hR, ro_20_10 hR, ro_20_11 hR, ro_20_12 hR, ro_20_13 hR, ro_27_0 hR, ro_27_1 hR, ro_27_2 hR, ro_32_0 hR, ro_32_1 hR, ro_34_10 hR, ro_34_11 hR, ro_34_12 hR, ro_34_13 hR, ro_39_0 hR, ro_39_1 hR, ro_42_0 hR, ro_42_1 hR, ro_47_0 hR, ro_47_1 hR, ro_47_2 hR, ro_47_3 hR, ro_55_0 hR, ro_55_1 hR, ro_55_2 hR, ro_57_0 hR, ro_57_1 hR, ro_57_2 hR, ro_57_3 hR, ro_57_4 hR, ro_57_5 hR, ro_57_8 hR, sh_0, sh_1, sh_2, sh_3, sh_4, sh_5, sh_6, sh_7, sh_8, sh_9, sh_10, sh_11, sh_12, sh_13, sh_14, sh_15, sh_16, sh_17, sh_18, sh_19, sh_20, sh_21, sh_22, sh_23, sh_24, sh_25, sh_26, sh_27, sh_28, sh_29, sh_30, sh_31, sh_32, sh_33, sh_34, sh_35, sh_36, sh_37, sh_38, sh_39, sh_40, sh_41, sh_42, sh_43, sh_44, sh_45, sh_46, sh_47, sh_48, sh_49, sh_50, sh_51, sh_52, sh_53, sh_54, sh_55, sh_56, sh_57, sh_58, sh_59, sh_60, sh_61, sh_62, sh_63, sh_64, sh_65, sh_66, sh_67, sh_68, hl, hvw9, Nat.reduceLT, Nat.reduceAdd, Nat.reduceMul, ne_eq, Nat.reduceEqDiff, not_false_eq_true, or_true, true_or, or_false, false_or, and_true, true_and, and_self, Nat.reduceLeDiff, am_ci, am_cr, am_cn0, Option.toList_some, Option.toList_none, List.cons_append, List.nil_append, am_s0, am_s1, am_s1r, am_s2, am_s2r, am_s3r, nI_add, am_u_ne, am_u_at, am_u_n1, am_u_n2, am_w_ne, t2]
  refine c_faultOf (D := d) hR hN hn hW tx (fun e he I1 L1 g1 l1 f1 => ?_) (fun s hs I1 L1 g1 l1 C1 => ?_)
  · have hR' := OR_15 hR
    have eo : otc x = (e.1, kP x e.2) := by unfold otc; rw [he]
    have b := e12_all 401 s0 e he
    have c1 : ¬ nI e.1 = 0 := nI_ne0 (by omega) (by omega)
    simp only [am_lv_of, Option.toList_some, List.cons_append, List.nil_append, rX12_read_15, rX12_read_16, rX12_read_17, rX12_read_18, rX12_read_21, rX12_read_22, rX12_read_23, rX12_read_26, rX12_read_29, rX12_read_32, rX12_read_33, rX12_read_79, rX12_read_80, ro_0_0 hR, ro_0_3 hR, ro_0_4 hR, ro_0_5 hR, ro_0_6 hR, ro_0_7 hR, ro_0_8 hR, ro_0_9 hR, ro_0_10 hR, ro_0_11 hR, ro_2_6 hR, ro_2_7 hR, ro_2_8 hR, ro_2_9 hR, ro_2_10 hR, ro_2_11 hR, ro_2_12 hR, ro_2_13 hR, ro_9_0 hR, ro_9_1 hR, ro_9_2 hR, ro_14_0 hR, ro_14_1 hR, ro_14_2 hR, ro_14_7 hR, ro_15_0 hR, ro_15_1 hR, ro_15_2 hR, ro_15_3 hR, ro_20_6 hR, ro_20_7 hR, ro_20_8 hR, ro_20_9 hR, ro_20_10 hR, ro_20_11 hR, ro_20_12 hR, ro_20_13 hR, ro_27_0 hR, ro_27_1 hR, ro_27_2 hR, ro_32_0 hR, ro_32_1 hR, ro_34_10 hR, ro_34_11 hR, ro_34_12 hR, ro_34_13 hR, ro_39_0 hR, ro_39_1 hR, ro_42_0 hR, ro_42_1 hR, ro_47_0 hR, ro_47_1 hR, ro_47_2 hR, ro_47_3 hR, ro_55_0 hR, ro_55_1 hR, ro_55_2 hR, ro_57_0 hR, ro_57_1 hR, ro_57_2 hR, ro_57_3 hR, ro_57_4 hR, ro_57_5 hR, ro_57_8 hR, sh_0, sh_1, sh_2, sh_3, sh_4, sh_5, sh_6, sh_7, sh_8, sh_9, sh_10, sh_11, sh_12, sh_13, sh_14, sh_15, sh_16, sh_17, sh_18, sh_19, sh_20, sh_21, sh_22, sh_23, sh_24, sh_25, sh_26, sh_27, sh_28, sh_29, sh_30, sh_31, sh_32, sh_33, sh_34, sh_35, sh_36, sh_37, sh_38, sh_39, sh_40, sh_41, sh_42, sh_43, sh_44, sh_45, sh_46, sh_47, sh_48, sh_49, sh_50, sh_51, sh_52, sh_53, sh_54, sh_55, sh_56, sh_57, sh_58, sh_59, sh_60, sh_61, sh_62, sh_63, sh_64, sh_65, sh_66, sh_67, sh_68, hl, hvw9, Nat.reduceLT, Nat.reduceAdd, Nat.reduceMul, ne_eq, Nat.reduceEqDiff, not_false_eq_true, or_true, true_or, or_false, false_or, and_true, true_and, and_self, Nat.reduceLeDiff, am_ci, am_cr, am_cn0, Option.toList_some, Option.toList_none, List.cons_append, List.nil_append, am_s0, am_s1, am_s1r, am_s2, am_s2r, am_s3r, nI_add, am_u_ne, am_u_at, am_u_n1, am_u_n2, am_w_ne, hn, ↓reduceIte, c1, not_false_eq_true, f1.2]
    have q := rd_bad (X := X) (d := d + 25) (I2 := am_u (am_u I1 0 1 (nI 0)) 0 2 (nI (kP x e.2))) (K := L1) H tx7 t3 (fun k j h1 h2 => by
      rw [← g1 k j h1]
      by_cases h0 : k = 0
      · rw [am_u_n2 (by omega), am_u_n2 (by omega)]
      · rw [am_u_n1 h0, am_u_n1 h0]) l1 (by rw [am_u_n2 (by omega), am_u_at]) (by rw [am_u_at, eo]) (by rw [eo]; show e.1 ≠ 0; omega)
    rw [eo] at q
    exact q
  · have hR' := OR_15 hR
    have eo : otc x = s_f s := by unfold otc; rw [hs]
    have F := C1.2.1
    by_cases hf : (s_f s).1 = 0
    · have z0 : (nI (s_f s).1 = 0) = True := eq_true (by rw [hf]; rfl)
      have f8 : I1 14 8 = -1 := by have := F.2.2; rwa [if_pos hf] at this
      simp only [am_lv_of, Option.toList_some, List.cons_append, List.nil_append, rX12_read_15, rX12_read_16, rX12_read_17, rX12_read_18, rX12_read_21, rX12_read_22, rX12_read_23, rX12_read_26, rX12_read_29, rX12_read_32, rX12_read_33, rX12_read_36, rX12_read_37, rX12_read_40, rX12_read_41, rX12_read_44, rX12_read_47, ro_0_0 hR, ro_0_3 hR, ro_0_4 hR, ro_0_5 hR, ro_0_6 hR, ro_0_7 hR, ro_0_8 hR, ro_0_9 hR, ro_0_10 hR, ro_0_11 hR, ro_2_6 hR, ro_2_7 hR, ro_2_8 hR, ro_2_9 hR, ro_2_10 hR, ro_2_11 hR, ro_2_12 hR, ro_2_13 hR, ro_9_0 hR, ro_9_1 hR, ro_9_2 hR, ro_14_0 hR, ro_14_1 hR, ro_14_2 hR, ro_14_7 hR, ro_15_0 hR, ro_15_1 hR, ro_15_2 hR, ro_15_3 hR, ro_20_6 hR, ro_20_7 hR, ro_20_8 hR, ro_20_9 hR, ro_20_10 hR, ro_20_11 hR, ro_20_12 hR, ro_20_13 hR, ro_27_0 hR, ro_27_1 hR, ro_27_2 hR, ro_32_0 hR, ro_32_1 hR, ro_34_10 hR, ro_34_11 hR, ro_34_12 hR, ro_34_13 hR, ro_39_0 hR, ro_39_1 hR, ro_42_0 hR, ro_42_1 hR, ro_47_0 hR, ro_47_1 hR, ro_47_2 hR, ro_47_3 hR, ro_55_0 hR, ro_55_1 hR, ro_55_2 hR, ro_57_0 hR, ro_57_1 hR, ro_57_2 hR, ro_57_3 hR, ro_57_4 hR, ro_57_5 hR, ro_57_8 hR, sh_0, sh_1, sh_2, sh_3, sh_4, sh_5, sh_6, sh_7, sh_8, sh_9, sh_10, sh_11, sh_12, sh_13, sh_14, sh_15, sh_16, sh_17, sh_18, sh_19, sh_20, sh_21, sh_22, sh_23, sh_24, sh_25, sh_26, sh_27, sh_28, sh_29, sh_30, sh_31, sh_32, sh_33, sh_34, sh_35, sh_36, sh_37, sh_38, sh_39, sh_40, sh_41, sh_42, sh_43, sh_44, sh_45, sh_46, sh_47, sh_48, sh_49, sh_50, sh_51, sh_52, sh_53, sh_54, sh_55, sh_56, sh_57, sh_58, sh_59, sh_60, sh_61, sh_62, sh_63, sh_64, sh_65, sh_66, sh_67, sh_68, hl, hvw9, Nat.reduceLT, Nat.reduceAdd, Nat.reduceMul, ne_eq, Nat.reduceEqDiff, not_false_eq_true, or_true, true_or, or_false, false_or, and_true, true_and, and_self, Nat.reduceLeDiff, am_ci, am_cr, am_cn0, Option.toList_some, Option.toList_none, List.cons_append, List.nil_append, am_s0, am_s1, am_s1r, am_s2, am_s2r, am_s3r, nI_add, am_u_ne, am_u_at, am_u_n1, am_u_n2, am_w_ne, hn, ↓reduceIte, z0, not_true_eq_false, f8]
      have e2 : ∀ k j, 1 ≤ k → am_u (am_u I1 0 1 (nI 0)) 0 2 (-1) k j = I1 k j := fun k j hk => by rw [am_u_n1 (by omega), am_u_n1 (by omega)]
      have e01 : am_u (am_u I1 0 1 (nI 0)) 0 2 (-1) 0 1 = nI 0 := by rw [am_u_n2 (by omega), am_u_at]
      have e02 : am_u (am_u I1 0 1 (nI 0)) 0 2 (-1) 0 2 = -1 := am_u_at
      generalize am_u (am_u I1 0 1 (nI 0)) 0 2 (-1) = I2 at e2 e01 e02 ⊢
      refine c_scriptCopy (d := d + 30) hR' hN hn (fun I3 g3 c3 => ?_)
      have DD := C1.2.2.2.2
      obtain ⟨d1, d2, d3, d4, d5, d6, d7, d8, d9, d10, d11, d12, d13⟩ := id DD
      have e25 : I3 2 5 = nI (pkS (s_P s) 0) := by rw [c3.1 5 (by omega), e2 20 5 (by omega)]; exact d9
      simp only [am_lv_of, Option.toList_none, List.nil_append, rX12_read_50, rX12_read_51, rX12_read_54, rX12_read_55, rX12_read_58, rX12_read_61, ro_0_0 hR, ro_0_3 hR, ro_0_4 hR, ro_0_5 hR, ro_0_6 hR, ro_0_7 hR, ro_0_8 hR, ro_0_9 hR, ro_0_10 hR, ro_0_11 hR, ro_2_6 hR, ro_2_7 hR, ro_2_8 hR, ro_2_9 hR, ro_2_10 hR, ro_2_11 hR, ro_2_12 hR, ro_2_13 hR, ro_9_0 hR, ro_9_1 hR, ro_9_2 hR, ro_14_0 hR, ro_14_1 hR, ro_14_2 hR, ro_14_7 hR, ro_15_0 hR, ro_15_1 hR, ro_15_2 hR, ro_15_3 hR, ro_20_6 hR, ro_20_7 hR, ro_20_8 hR, ro_20_9 hR, ro_20_10 hR, ro_20_11 hR, ro_20_12 hR, ro_20_13 hR, ro_27_0 hR, ro_27_1 hR, ro_27_2 hR, ro_32_0 hR, ro_32_1 hR, ro_34_10 hR, ro_34_11 hR, ro_34_12 hR, ro_34_13 hR, ro_39_0 hR, ro_39_1 hR, ro_42_0 hR, ro_42_1 hR, ro_47_0 hR, ro_47_1 hR, ro_47_2 hR, ro_47_3 hR, ro_55_0 hR, ro_55_1 hR, ro_55_2 hR, ro_57_0 hR, ro_57_1 hR, ro_57_2 hR, ro_57_3 hR, ro_57_4 hR, ro_57_5 hR, ro_57_8 hR, sh_0, sh_1, sh_2, sh_3, sh_4, sh_5, sh_6, sh_7, sh_8, sh_9, sh_10, sh_11, sh_12, sh_13, sh_14, sh_15, sh_16, sh_17, sh_18, sh_19, sh_20, sh_21, sh_22, sh_23, sh_24, sh_25, sh_26, sh_27, sh_28, sh_29, sh_30, sh_31, sh_32, sh_33, sh_34, sh_35, sh_36, sh_37, sh_38, sh_39, sh_40, sh_41, sh_42, sh_43, sh_44, sh_45, sh_46, sh_47, sh_48, sh_49, sh_50, sh_51, sh_52, sh_53, sh_54, sh_55, sh_56, sh_57, sh_58, sh_59, sh_60, sh_61, sh_62, sh_63, sh_64, sh_65, sh_66, sh_67, sh_68, hl, hvw9, Nat.reduceLT, Nat.reduceAdd, Nat.reduceMul, ne_eq, Nat.reduceEqDiff, not_false_eq_true, or_true, true_or, or_false, false_or, and_true, true_and, and_self, Nat.reduceLeDiff, am_ci, am_cr, am_cn0, Option.toList_some, Option.toList_none, List.cons_append, List.nil_append, am_s0, am_s1, am_s1r, am_s2, am_s2r, am_s3r, nI_add, am_u_ne, am_u_at, am_u_n1, am_u_n2, am_w_ne, hn, e25]
      refine c_beginC (d := d + 30) hR' hN hn (fun I4 g4 c4 => ?_)
      simp only [am_lv_of, Option.toList_none, List.nil_append, rX12_read_64, rX12_read_65, rX12_read_68, rX12_read_71, rX12_read_72, rX12_read_75, rX12_read_76, rX12_read_79, rX12_read_80, rX6_clear_0, rX6_clear_1, rX6_clear_2, rX6_clear_5, rX6_clear_6, rX6_clear_7, rX6_clear_10, ro_0_0 hR, ro_0_3 hR, ro_0_4 hR, ro_0_5 hR, ro_0_6 hR, ro_0_7 hR, ro_0_8 hR, ro_0_9 hR, ro_0_10 hR, ro_0_11 hR, ro_2_6 hR, ro_2_7 hR, ro_2_8 hR, ro_2_9 hR, ro_2_10 hR, ro_2_11 hR, ro_2_12 hR, ro_2_13 hR, ro_9_0 hR, ro_9_1 hR, ro_9_2 hR, ro_14_0 hR, ro_14_1 hR, ro_14_2 hR, ro_14_7 hR, ro_15_0 hR, ro_15_1 hR, ro_15_2 hR, ro_15_3 hR, ro_20_6 hR, ro_20_7 hR, ro_20_8 hR, ro_20_9 hR, ro_20_10 hR, ro_20_11 hR, ro_20_12 hR, ro_20_13 hR, ro_27_0 hR, ro_27_1 hR, ro_27_2 hR, ro_32_0 hR, ro_32_1 hR, ro_34_10 hR, ro_34_11 hR, ro_34_12 hR, ro_34_13 hR, ro_39_0 hR, ro_39_1 hR, ro_42_0 hR, ro_42_1 hR, ro_47_0 hR, ro_47_1 hR, ro_47_2 hR, ro_47_3 hR, ro_55_0 hR, ro_55_1 hR, ro_55_2 hR, ro_57_0 hR, ro_57_1 hR, ro_57_2 hR, ro_57_3 hR, ro_57_4 hR, ro_57_5 hR, ro_57_8 hR, sh_0, sh_1, sh_2, sh_3, sh_4, sh_5, sh_6, sh_7, sh_8, sh_9, sh_10, sh_11, sh_12, sh_13, sh_14, sh_15, sh_16, sh_17, sh_18, sh_19, sh_20, sh_21, sh_22, sh_23, sh_24, sh_25, sh_26, sh_27, sh_28, sh_29, sh_30, sh_31, sh_32, sh_33, sh_34, sh_35, sh_36, sh_37, sh_38, sh_39, sh_40, sh_41, sh_42, sh_43, sh_44, sh_45, sh_46, sh_47, sh_48, sh_49, sh_50, sh_51, sh_52, sh_53, sh_54, sh_55, sh_56, sh_57, sh_58, sh_59, sh_60, sh_61, sh_62, sh_63, sh_64, sh_65, sh_66, sh_67, sh_68, hl, hvw9, Nat.reduceLT, Nat.reduceAdd, Nat.reduceMul, ne_eq, Nat.reduceEqDiff, not_false_eq_true, or_true, true_or, or_false, false_or, and_true, true_and, and_self, Nat.reduceLeDiff, am_ci, am_cr, am_cn0, Option.toList_some, Option.toList_none, List.cons_append, List.nil_append, am_s0, am_s1, am_s1r, am_s2, am_s2r, am_s3r, nI_add, am_u_ne, am_u_at, am_u_n1, am_u_n2, am_w_ne, hn]
      have e5 : ∀ k j, k ≠ 39 → k ≠ 57 → am_u (am_u (am_u I4 39 4 (nI 0)) 39 2 (nI 0)) 57 10 (nI 0) k j = I4 k j := fun k j h h' => by rw [am_u_n1 h', am_u_n1 h, am_u_n1 h]
      have e394 : am_u (am_u (am_u I4 39 4 (nI 0)) 39 2 (nI 0)) 57 10 (nI 0) 39 4 = nI 0 := by simp [am_u]
      have e392 : am_u (am_u (am_u I4 39 4 (nI 0)) 39 2 (nI 0)) 57 10 (nI 0) 39 2 = nI 0 := by simp [am_u]
      have e393 : am_u (am_u (am_u I4 39 4 (nI 0)) 39 2 (nI 0)) 57 10 (nI 0) 39 3 = I4 39 3 := by simp [am_u]
      have e571 : am_u (am_u (am_u I4 39 4 (nI 0)) 39 2 (nI 0)) 57 10 (nI 0) 57 10 = nI 0 := am_u_at
      generalize am_u (am_u (am_u I4 39 4 (nI 0)) 39 2 (nI 0)) 57 10 (nI 0) = I5 at e5 e394 e392 e393 e571 ⊢
      have low : ∀ k j, 69 ≤ k → k < 2000 → I5 k j = I k j := fun k j hk hk2 => by rw [e5 k j (by omega) (by omega), g4 k j (by omega), g3 k j (by omega), e2 k j (by omega), g1 k j (by unfold rdP; omega)]
      have hV : relV L1 := fun k hk => by rw [l1 76 k (by omega) (by omega)]; exact (hLL k hk).2
      have lv2 : p_lv σ < 2 := H.rf.2.1
      have B := bd_all 401 s0 s bd_s0 hs
      have hpt : 1 - p_lv σ < 2 := by omega
      refine c_readR (d := d + 25) (x := x) (lv := p_lv σ) (pt := 1 - p_lv σ) hR' hN hn (by rw [low 69 2 (by omega) (by omega)]; exact t3) (tx7.ag (fun j => low 70 j (by omega) (by omega))) hV (by rw [low 69 18 (by omega) (by omega)]; exact H.rf.1) lv2 rfl (fun e he => by rw [hs] at he; cases he) (fun s' hs' hf' => ?_) (fun s' hs' hf' J1 L2 gJ lJ b2 b17 S => ?_)
      · rw [hs] at hs'
        cases hs'
        exact absurd hf hf'
      · rw [hs] at hs'
        cases hs'
        generalize hpe : 1 - p_lv σ = pt at *
        have h19 : J1 69 19 = nI pt := S.2.2.2.2.2.1
        have RF : rf_S (am_u J1 69 18 (nI pt)) (sgm pt s) := rf_sgm S hpt (fun k j k1 k2 => am_u_n1 (by omega)) am_u_at hf B
        refine c_goodR (d := d + 30) (σ := sgm pt s) hR' hN hn h19 RF (fun J6 g6 r6 q18 q54 q60 q114 => ?_)
        have lo : ∀ k j, k < 69 → J6 k j = I5 k j := fun k j hk => by
          rw [g6 k j (by unfold gdP; omega), gJ k j (by rw [← hpe]; exact kp_n lv2 (Or.inl hk))]
        have hi : ∀ k j, 79 ≤ k → k ≤ 99 → J6 k j = J1 k j := fun k j k1 k2 => g6 k j (by unfold gdP; omega)
        have CP : cpS I1 J6 := c3.mv (fun k j k1 k2 => e2 k j (by omega)) (fun k j k1 k2 => by rw [lo k j (by omega), e5 k j (by omega) (by omega), g4 k j (by omega)])
        have RS6 := rel_good (x := x) (K1 := L2) (R1 := R) hpt B hf DD CP S hi q18
        have CR : cr0 J6 (nI (pkS (s_P s) 0)) := by
          obtain ⟨r1, r2, r3, r4⟩ := c4
          exact ⟨by rw [lo 34 0 (by omega), e5 34 0 (by omega) (by omega)]; exact r1, fun j j1 j2 j3 => by rw [lo 34 j (by omega), e5 34 j (by omega) (by omega)]; exact r2 j j1 j2 j3, by rw [lo 34 4 (by omega), e5 34 4 (by omega) (by omega)]; exact r3, fun j hj => by rw [lo 35 j (by omega), e5 35 j (by omega) (by omega)]; exact r4 j hj⟩
        obtain ⟨-, -, -, -, -, -, -, w, w1, w2⟩ := id RS6
        have ww : psr (pkS (s_P s) 0) (s_P s).length (opR J6 (sgm pt s)) := ps_sgm (tpR.ag S.2.2.2.2.2.2.2.1 (fun k j k1 k2 => hi k j (by omega) (by omega))) (fun v hv => ((B.2 hf).1 v hv).1)
        have P5 : (s_P s).length ≤ 5 := d1
        have cr : crs J6 34 (s_P s).length (s_S s).length (J6 103) := by
          refine crs_new CR (psr_cg ww (fun j hj => ?_)) (fun j j1 j2 j3 => ?_) ?_
          · rw [r6 j (by omega)]
            show (if j < (s_P s).length then J1 80 (5 * pt + j) else if j < 18 then nI 0 else _) = if j < (s_P s).length then J6 80 (5 * pt + j) else nI 0
            rw [hi 80 _ (by omega) (by omega)]
            by_cases h : j < (s_P s).length
            · rw [if_pos h, if_pos h]
            · rw [if_neg h, if_neg h, if_pos (by omega)]
          · rw [r6 j j2]
            show (if j < (s_P s).length then J1 80 (5 * pt + j) else if j < 18 then nI 0 else if j = 18 then _ else _) = nI 0
            rw [if_neg (by omega)]
            by_cases h : j < 18
            · rw [if_pos h]
            · rw [if_neg h, if_neg j3]
          · rw [r6 18 (by omega)]
            show (if 18 < (s_P s).length then J1 80 (5 * pt + 18) else if 18 < 18 then nI 0 else if 18 = 18 then nI 0 + nI 1 else _) = nI 1
            rw [if_neg (by omega), if_neg (by omega), if_pos rfl]
            rfl
        obtain ⟨u, nx, u1, u2, u3, u4, u5, u6⟩ := id (show relU I R (p_P σ) (p_S σ) from H.2.2.2.2.2.1)
        refine ⟨by rw [hf], sgm pt s, relR_15 H.1, ?_, RS6, ⟨0, by omega, ?_, ?_, fun j hj => absurd hj (by omega), ?_⟩, cr, ⟨0, nx, by omega, u2, ?_, q54, ?_, fun i hi => absurd hi (by omega)⟩, ⟨0, by omega, ?_, fun i hi => ⟨?_, fun hb => ?_⟩⟩, ⟨0, by omega, ?_, q60, fun i hi => absurd hi (by omega)⟩⟩
        · show relL L2
          intro k hk
          rw [lJ 16 k (by omega) (by omega), lJ 76 k (by omega) (by omega), l1 16 k (by omega) (by omega), l1 76 k (by omega) (by omega)]
          exact hLL k hk
        · show J6 0 1 = nI 0
          rw [lo 0 1 (by omega), e5 0 1 (by omega) (by omega), g4 0 1 (by omega), g3 0 1 (by omega)]; exact e01
        · show J6 69 2 = nI 0
          rw [g6 69 2 (by unfold gdP; omega)]; exact b2
        · show J6 0 2 = J6 69 17
          rw [lo 0 2 (by omega), e5 0 2 (by omega) (by omega), g4 0 2 (by omega), g3 0 2 (by omega), g6 69 17 (by unfold gdP; omega), b17]; exact e02
        · show J6 39 4 = nI 0
          rw [lo 39 4 (by omega)]; exact e394
        · show J6 39 3 = nI nx
          rw [lo 39 3 (by omega), e393, g4 39 3 (by omega), g3 39 3 (by omega), e2 39 3 (by omega), g1 39 3 (by unfold rdP; omega)]; exact u5
        · show J6 39 2 = nI 0
          rw [lo 39 2 (by omega)]; exact e392
        · show J6 114 i = nI (0 / 2 ^ i % 2)
          rw [q114 i hi, Nat.zero_div]
        · rw [Nat.zero_div] at hb
          exact absurd hb (by decide)
        · show J6 57 10 = nI 0
          rw [lo 57 10 (by omega)]; exact e571
    · have f5 := F.1
      have c1 : ¬ nI (s_f s).1 = 0 := nI_ne0 (by omega) (by omega)
      have f8 : I1 14 8 = nI (s_f s).2 := by have := F.2.2; rwa [if_neg hf] at this
      simp only [am_lv_of, Option.toList_some, List.cons_append, List.nil_append, rX12_read_15, rX12_read_16, rX12_read_17, rX12_read_18, rX12_read_21, rX12_read_22, rX12_read_23, rX12_read_26, rX12_read_29, rX12_read_32, rX12_read_33, rX12_read_79, rX12_read_80, ro_0_0 hR, ro_0_3 hR, ro_0_4 hR, ro_0_5 hR, ro_0_6 hR, ro_0_7 hR, ro_0_8 hR, ro_0_9 hR, ro_0_10 hR, ro_0_11 hR, ro_2_6 hR, ro_2_7 hR, ro_2_8 hR, ro_2_9 hR, ro_2_10 hR, ro_2_11 hR, ro_2_12 hR, ro_2_13 hR, ro_9_0 hR, ro_9_1 hR, ro_9_2 hR, ro_14_0 hR, ro_14_1 hR, ro_14_2 hR, ro_14_7 hR, ro_15_0 hR, ro_15_1 hR, ro_15_2 hR, ro_15_3 hR, ro_20_6 hR, ro_20_7 hR, ro_20_8 hR, ro_20_9 hR, ro_20_10 hR, ro_20_11 hR, ro_20_12 hR, ro_20_13 hR, ro_27_0 hR, ro_27_1 hR, ro_27_2 hR, ro_32_0 hR, ro_32_1 hR, ro_34_10 hR, ro_34_11 hR, ro_34_12 hR, ro_34_13 hR, ro_39_0 hR, ro_39_1 hR, ro_42_0 hR, ro_42_1 hR, ro_47_0 hR, ro_47_1 hR, ro_47_2 hR, ro_47_3 hR, ro_55_0 hR, ro_55_1 hR, ro_55_2 hR, ro_57_0 hR, ro_57_1 hR, ro_57_2 hR, ro_57_3 hR, ro_57_4 hR, ro_57_5 hR, ro_57_8 hR, sh_0, sh_1, sh_2, sh_3, sh_4, sh_5, sh_6, sh_7, sh_8, sh_9, sh_10, sh_11, sh_12, sh_13, sh_14, sh_15, sh_16, sh_17, sh_18, sh_19, sh_20, sh_21, sh_22, sh_23, sh_24, sh_25, sh_26, sh_27, sh_28, sh_29, sh_30, sh_31, sh_32, sh_33, sh_34, sh_35, sh_36, sh_37, sh_38, sh_39, sh_40, sh_41, sh_42, sh_43, sh_44, sh_45, sh_46, sh_47, sh_48, sh_49, sh_50, sh_51, sh_52, sh_53, sh_54, sh_55, sh_56, sh_57, sh_58, sh_59, sh_60, sh_61, sh_62, sh_63, sh_64, sh_65, sh_66, sh_67, sh_68, hl, hvw9, Nat.reduceLT, Nat.reduceAdd, Nat.reduceMul, ne_eq, Nat.reduceEqDiff, not_false_eq_true, or_true, true_or, or_false, false_or, and_true, true_and, and_self, Nat.reduceLeDiff, am_ci, am_cr, am_cn0, Option.toList_some, Option.toList_none, List.cons_append, List.nil_append, am_s0, am_s1, am_s1r, am_s2, am_s2r, am_s3r, nI_add, am_u_ne, am_u_at, am_u_n1, am_u_n2, am_w_ne, hn, ↓reduceIte, c1, not_false_eq_true, f8]
      have q := rd_bad (X := X) (d := d + 25) (I2 := am_u (am_u I1 0 1 (nI 0)) 0 2 (nI (s_f s).2)) (K := L1) H tx7 t3 (fun k j h1 h2 => by
        rw [← g1 k j h1]
        by_cases h0 : k = 0
        · rw [am_u_n2 (by omega), am_u_n2 (by omega)]
        · rw [am_u_n1 h0, am_u_n1 h0]) l1 (by rw [am_u_n2 (by omega), am_u_at]) (by rw [am_u_at, eo]) (by rw [eo]; exact hf)
      rw [eo] at q
      exact q
end SE
