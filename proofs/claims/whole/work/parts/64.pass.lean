--! 63
/-! PROMISES 11, 12: pass, open -/
section PS
variable {X : am_X} {d n : Nat} {I : Nat → Nat → Int32} {L : Nat → Nat → Int64} {R : Nat → Nat → Option Nat} {Q : Option Value → am_M → Prop} {σ : rfP}
theorem upd_c {r r' : Nat → Int32} {k : Nat} {x x' : Int32} (hx : x' = x) (g : ∀ j, j < 68 → r' j = r j) : ∀ j, j < 68 → upd r' k x' j = upd r k x j := fun j hj => by
  unfold upd
  by_cases e : j = k
  · rw [if_pos e, if_pos e, hx]
  · rw [if_neg e, if_neg e, g j hj]
theorem rEn0_c {r r' : Nat → Int32} (g : ∀ j, j < 68 → r' j = r j) : ∀ j, j < 68 → rEn0 r' j = rEn0 r j := upd_c (by rw [g 16 (by omega)]) (upd_c (by rw [g 15 (by omega)]) g)
theorem rEnd_c {r r' : Nat → Int32} (ho : ok_S σ) (g : ∀ j, j < 68 → r' j = r j) : ∀ j, j < 68 → rEnd σ r' j = rEnd σ r j := upd_c (rVerd_c ho (fun j hj => rEn0_c g j (by omega))) (rEn0_c g)
theorem rMv_c {r r' : Nat → Int32} {s : Nat} (ho : ok_S σ) (hs : s < p_S σ) (g : ∀ j, j < 68 → r' j = r j) : ∀ j, j < 68 → rMv σ r' s j = rMv σ r s j := by
  have h5 : p_ow σ s < 5 := by have := (ho.2.2.2 s hs).1; have := ho.1; omega
  exact upd_c (by rw [g _ (by omega)]) (upd_c (by rw [g _ (by omega)]) (upd_c (by unfold rGo; rw [g _ (by omega)]) g))
theorem rK2_c {r r' : Nat → Int32} {v : Nat} (hv : v ≤ 2) (g : ∀ j, j < 68 → r' j = r j) : ∀ j, j < 68 → rK2 r' v j = rK2 r v j := upd_c (by rw [g _ (by omega)]) (upd_c (by rw [g _ (by omega)]) g)
theorem rSh_c {r r' : Nat → Int32} (g : ∀ j, j < 68 → r' j = r j) : ∀ j, j < 68 → rSh r' j = rSh r j := fun j hj => by
  unfold rSh
  split
  · exact g _ (by omega)
  · exact g _ hj
theorem rKp_c {r r' : Nat → Int32} {P v K : Nat} (hP : P ≤ 5) (hv : v ≤ 2) (g : ∀ j, j < 68 → r' j = r j) : ∀ j, j < 68 → rKp P r' v K j = rKp P r v K j := by
  have ea : rAp r' P = rAp r P := rAp_c (fun j hj => g j (by omega))
  have et : tg r' P = tg r P := tg_c hP (fun j hj => g j (by omega))
  unfold rKp
  rw [ea, et]
  split
  · exact upd_c (by rw [g 19 (by omega)]) g
  · split
    · exact upd_c rfl (upd_c rfl (upd_c rfl (upd_c rfl (upd_c rfl (rSh_c (rK2_c hv g))))))
    · exact upd_c rfl (upd_c rfl (upd_c rfl (upd_c rfl (rK2_c hv g))))
/-- remembered, then the course that goes on changed -/
theorem rem_ct {n1 : Nat} {I1 I2 : Nat → Nat → Int32} {L1 : Nat → Nat → Int64} {R1 : Nat → Nat → Option Nat} {c nx u P S : Nat} (m1 : n ≤ n1) (m2 : relR n1 R1) (m3 : isCo n1 c) (m4 : R1 40 nx = some c) (m5 : ∀ j, j ≠ nx → R1 40 j = R 40 j) (m6 : ∀ j, R1 41 j = R 41 j) (m7 : cpy I I1 34 c) (m8 : ∀ k j, k < n → ¬ coP c k j → ¬ (k = 39 ∧ (j = 3 ∨ j = 4)) → I1 k j = I k j) (m9 : I1 39 3 = nI ((nx + 1) % 40)) (m10 : I1 39 4 = nI (min (u + 1) 40)) (m11 : ∀ k j, k < n → L1 k j = L k j) (hco : crs I 34 P S (I 103)) (g : am_ag ctP I1 I2) : rem n I L R n1 I2 L1 R1 c nx u P S := by
  have c116 := m3.1
  have q : ∀ k j, 39 ≤ k → I2 k j = I1 k j := fun k j hk => g k j (by unfold ctP coP skc; omega)
  refine ⟨m1, m2, m3, m4, m5, m6, (hco.cpy m7 (fun j _ => rfl)).mv (fun k j k1 k2 => q k j (by omega)) (fun j _ => rfl), fun k j a1 a2 a3 a4 => ?_, by rw [q 39 3 (by omega)]; exact m9, by rw [q 39 4 (by omega)]; exact m10, m11⟩
  rw [g k j a4]
  exact m8 k j a1 a2 a3
theorem rem.low {n1 : Nat} {I1 : Nat → Nat → Int32} {L1 : Nat → Nat → Int64} {R1 : Nat → Nat → Option Nat} {c nx u P S : Nat} (h : rem n I L R n1 I1 L1 R1 c nx u P S) (hN : 116 ≤ n) : ∀ k j, k < 116 → ¬ (34 ≤ k ∧ k < 39) → k ≠ 33 → k ≠ 12 → ¬ (k = 39 ∧ (j = 3 ∨ j = 4)) → I1 k j = I k j := fun k j h1 h2 h3 h4 h5 => by
  have c116 := h.2.2.1.1
  exact h.2.2.2.2.2.2.2.1 k j (by omega) (by unfold coP; omega) h5 (by unfold ctP coP skc; omega)
theorem s_pass (H : REL (n, I, L, R)) : sim X (d + 30) mX12_pass mX13_pass [some (.ref 0)] [some (.ref 69)] (n, I, L, R) := by
  obtain ⟨σ, H⟩ := H
  have hR := H.1.1
  have hN := H.1.N
  have hn := H.1.n
  have hl := am_lt hN
  have hvw9 := am_lw hN
  obtain ⟨S1, S2, S3, S4, S5, S6, S7, ws, S8, S9⟩ := id (show relS I σ from H.2.2.1)
  obtain ⟨o1, o2, o3, o4⟩ := id S3
  obtain ⟨b1, b2, b3, b4, bz, b5, b6, b7⟩ := id S2
  obtain ⟨f1, f2, f3, f4, f5, f6, f7, f8, f9, f10⟩ := id S1
  obtain ⟨w, K, cw, cp, c16, c15, c17, c18, c19, c20, c28, c29, cK, c30, cK12, cpl, cpr, cs, cv⟩ := id (show crs I 34 (p_P σ) (p_S σ) (I 103) from H.2.2.2.2.1)
  unfold sim
  obtain ⟨u, nx, u1, u2, u3, u4, u5, u6⟩ : relU I R (p_P σ) (p_S σ) := H.2.2.2.2.2.1
  by_cases h0 : I 103 17 = 0
  · simp only [am_lv_of, rX12_pass_0, rX12_pass_1, rX12_pass_4, rX12_pass_7, rX12_pass_10, rX12_pass_12, rX12_pass_13, rX12_pass_14, rX12_pass_17, rX12_pass_18, rX12_pass_21, ro_0_0 hR, ro_0_3 hR, ro_0_4 hR, ro_0_5 hR, ro_0_6 hR, ro_0_7 hR, ro_0_8 hR, ro_0_9 hR, ro_0_10 hR, ro_0_11 hR, ro_2_6 hR, ro_2_7 hR, ro_2_8 hR, ro_2_9 hR, ro_2_10 hR, ro_2_11 hR, ro_2_12 hR, ro_2_13 hR, ro_9_0 hR, ro_9_1 hR, ro_9_2 hR, ro_14_0 hR, ro_14_1 hR, ro_14_2 hR, ro_14_7 hR, ro_15_0 hR, ro_15_1 hR, ro_15_2 hR, ro_15_3 hR, ro_20_6 hR, ro_20_7 hR, ro_20_8 hR, ro_20_9 hR, ro_20_10 hR, ro_20_11 hR, ro_20_12 hR, ro_20_13 hR, ro_27_0 hR, ro_27_1 hR, ro_27_2 hR, ro_32_0 hR, ro_32_1 hR, ro_34_10 hR, ro_34_11 hR, ro_34_12 hR, ro_34_13 hR, ro_39_0 hR, ro_39_1 hR, ro_42_0 hR, ro_42_1 hR, ro_47_0 hR, ro_47_1 hR, ro_47_2 hR, ro_47_3 hR, ro_55_0 hR, ro_55_1 hR, ro_55_2 hR, ro_57_0 hR, ro_57_1 hR, ro_57_2 hR, ro_57_3 hR, ro_57_4 hR, ro_57_5 hR, ro_57_8 hR, sh_0, sh_1, sh_2, sh_3, sh_4, sh_5, sh_6, sh_7, sh_8, sh_9, sh_10, sh_11, sh_12, sh_13, sh_14, sh_15, sh_16, sh_17, sh_18, sh_19, sh_20, sh_21, sh_22, sh_23, sh_24, sh_25, sh_26, sh_27, sh_28, sh_29, sh_30, sh_31, sh_32, sh_33, sh_34, sh_35, sh_36, sh_37, sh_38, sh_39, sh_40, sh_41, sh_42, sh_43, sh_44, sh_45, sh_46, sh_47, sh_48, sh_49, sh_50, sh_51, sh_52, sh_53, sh_54, sh_55, sh_56, sh_57, sh_58, sh_59, sh_60, sh_61, sh_62, sh_63, sh_64, sh_65, sh_66, sh_67, sh_68, hl, hvw9, Nat.reduceLT, Nat.reduceAdd, Nat.reduceMul, ne_eq, Nat.reduceEqDiff, not_false_eq_true, or_true, true_or, or_false, false_or, and_true, true_and, and_self, Nat.reduceLeDiff, am_ci, am_cr, am_cn0, Option.toList_some, Option.toList_none, List.cons_append, List.nil_append, am_s0, am_s1, am_s1r, am_s2, am_s2r, am_s3r, nI_add, am_u_ne, am_u_at, am_u_n1, am_u_n2, am_w_ne, ↓reduceIte, c17, h0]
    refine c_remember H.1 u3 u1 u5 u2 (fun n1 I1 L1 R1 c m1 m2 m3 m4 m5 m6 m7 m8 m9 m10 m11 => ?_)
    have hR1 := m2.1
    have hN1 := m2.N
    have hn1 := m2.n
    have hl1 := am_lt hN1
    have hvw91 := am_lw hN1
    have c116 := m3.1
    have low1 : ∀ k j, k < 116 → ¬ (k = 39 ∧ (j = 3 ∨ j = 4)) → I1 k j = I k j := fun k j k1 k2 => m8 k j (by omega) (by unfold coP; omega) k2
    have C1 : cl_S I1 σ := S2.ag (fun k j hk => low1 k j (by omega) (by omega))
    have co1 : crs I1 34 (p_P σ) (p_S σ) (I 103) := H.co.mv (fun k j k1 k2 => low1 k j (by omega) (by omega)) (fun _ _ => rfl)
    clear hl
    have hl := hl1
    have hvw9 := hvw91
    simp only [am_lv_of, Option.toList_none, List.nil_append, rX12_pass_24, rX12_pass_25, sh_0, hl, hvw9, Nat.reduceLT, Nat.reduceAdd, Nat.reduceMul, ne_eq, Nat.reduceEqDiff, not_false_eq_true, or_true, true_or, or_false, false_or, and_true, true_and, and_self, Nat.reduceLeDiff, am_ci, am_cr, am_cn0, Option.toList_some, Option.toList_none, List.cons_append, List.nil_append, am_s0, am_s1, am_s1r, am_s2, am_s2r, am_s3r, nI_add, am_u_ne, am_u_at, am_u_n1, am_u_n2, am_w_ne]
    refine c_endTurn hR1 hN1 hn1 S3 C1 co1 h0 (fun I2 v K v1 v2 v3 v4 g2 co2 => ?_)
    have M := rem_ct m1 m2 m3 m4 m5 m6 m7 m8 m9 m10 m11 H.co g2
    have low2 := M.low hN
    obtain ⟨w2, K2, y1, y2, y16, -⟩ := id co2
    have r34 := ro_0_6 hR1
    simp only [am_lv_of, Option.toList_none, List.nil_append, rX12_pass_28, rX12_pass_29, rX12_pass_32, rX12_pass_35, r34, sh_0, sh_34, hl, hvw9, Nat.reduceLT, Nat.reduceAdd, Nat.reduceMul, ne_eq, Nat.reduceEqDiff, not_false_eq_true, or_true, true_or, or_false, false_or, and_true, true_and, and_self, Nat.reduceLeDiff, am_ci, am_cr, am_cn0, Option.toList_some, Option.toList_none, List.cons_append, List.nil_append, am_s0, am_s1, am_s1r, am_s2, am_s2r, am_s3r, nI_add, am_u_ne, am_u_at, am_u_n1, am_u_n2, am_w_ne, y16]
    have T2 : relS I2 σ := relS.fr H.2.2.1 (fun k j hk => low2 k j (by omega) (by omega) (by omega) (by omega) (by omega))
    have h0' : I2 103 17 = 0 := by rw [low2 103 17 (by omega) (by omega) (by omega) (by omega) (by omega)]; exact h0
    have r103 := ro_69_51 hR1
    simp only [am_lv_of, rX13_pass_0, rX13_pass_1, rX13_pass_4, rX13_pass_6, rX13_pass_7, rX13_pass_10, rX13_pass_12, rX13_pass_13, rX13_pass_14, r103, sh_69, sh_103, hl, hvw9, Nat.reduceLT, Nat.reduceAdd, Nat.reduceMul, ne_eq, Nat.reduceEqDiff, not_false_eq_true, or_true, true_or, or_false, false_or, and_true, true_and, and_self, Nat.reduceLeDiff, am_ci, am_cr, am_cn0, Option.toList_some, Option.toList_none, List.cons_append, List.nil_append, am_s0, am_s1, am_s1r, am_s2, am_s2r, am_s3r, nI_add, am_u_ne, am_u_at, am_u_n1, am_u_n2, am_w_ne, ↓reduceIte, h0']
    refine c_copies hR1 hN1 hn1 T2.1 (fun I3 g3 e3 e3' => ?_)
    have e3 : ∀ j, j < 68 → I3 104 j = I 103 j := fun j hj => by rw [e3 j hj, low2 103 j (by omega) (by omega) (by omega) (by omega) (by omega)]
    have s3 : am_ag sc2 I2 I3 := g3.mono (fun k j z => by unfold sc2; omega)
    have T3 := T2.1.ag s3
    simp only [am_lv_of, Option.toList_none, List.nil_append, rX13_pass_17, rX13_pass_18, sh_69, hl, hvw9, Nat.reduceLT, Nat.reduceAdd, Nat.reduceMul, ne_eq, Nat.reduceEqDiff, not_false_eq_true, or_true, true_or, or_false, false_or, and_true, true_and, and_self, Nat.reduceLeDiff, am_ci, am_cr, am_cn0, Option.toList_some, Option.toList_none, List.cons_append, List.nil_append, am_s0, am_s1, am_s1r, am_s2, am_s2r, am_s3r, nI_add, am_u_ne, am_u_at, am_u_n1, am_u_n2, am_w_ne]
    refine c_turnEnds hR1 hN1 hn1 T3 (fun I4 g4 e4 e4' => ?_)
    have T4 := T3.ag g4
    have x4 : ∀ j, j < 68 → I4 104 j = rEnd σ (I 103) j := fun j hj => by rw [e4]; exact rEnd_c S3 e3 j hj
    simp only [am_lv_of, Option.toList_none, List.nil_append, rX13_pass_21, rX13_pass_22, sh_69, hl, hvw9, Nat.reduceLT, Nat.reduceAdd, Nat.reduceMul, ne_eq, Nat.reduceEqDiff, not_false_eq_true, or_true, true_or, or_false, false_or, and_true, true_and, and_self, Nat.reduceLeDiff, am_ci, am_cr, am_cn0, Option.toList_some, Option.toList_none, List.cons_append, List.nil_append, am_s0, am_s1, am_s1r, am_s2, am_s2r, am_s3r, nI_add, am_u_ne, am_u_at, am_u_n1, am_u_n2, am_w_ne]
    refine c_keepsCase hR1 hN1 hn1 T4 v4 v1 (by rw [x4 30 (by omega), rEnd_n (by omega) (by omega) (by omega)]; exact v3) (by rw [x4 17 (by omega), rEnd_17]; exact v2) (fun I5 g5 e5 => ?_)
    have x5 : ∀ j, j < 68 → I5 104 j = rKp (p_P σ) (rEnd σ (I 103)) v K j := fun j hj => by rw [e5]; exact rKp_c o1 v1 x4 j hj
    have s5 : am_ag sc2 I2 I5 := (s3.trans g4).trans (g5.mono (fun k j z => by unfold sc2; omega))
    have u5' : I5 69 54 = nI u := by rw [s5 69 54 (by unfold sc2 sc1; omega), low2 69 54 (by omega) (by omega) (by omega) (by omega) (by omega)]; exact u4
    simp only [am_lv_of, Option.toList_none, List.nil_append, rX13_pass_25, rX13_pass_26, sh_69, hl, hvw9, Nat.reduceLT, Nat.reduceAdd, Nat.reduceMul, ne_eq, Nat.reduceEqDiff, not_false_eq_true, or_true, true_or, or_false, false_or, and_true, true_and, and_self, Nat.reduceLeDiff, am_ci, am_cr, am_cn0, Option.toList_some, Option.toList_none, List.cons_append, List.nil_append, am_s0, am_s1, am_s1r, am_s2, am_s2r, am_s3r, nI_add, am_u_ne, am_u_at, am_u_n1, am_u_n2, am_w_ne]
    refine c_keeps hR1 hN1 hn1 u5' u1 (fun I6 g6 h6 e6 => ?_)
    have x6 : ∀ j, j < 68 → I6 103 j = rKp (p_P σ) (rEnd σ (I 103)) v K j := fun j hj => by rw [e6 j hj]; exact x5 j hj
    simp only [am_lv_of, Option.toList_none, List.nil_append, rX13_pass_29, rX13_pass_30, rX13_pass_33, rX13_pass_35, rX13_pass_36, r103, sh_69, sh_103, hl, hvw9, Nat.reduceLT, Nat.reduceAdd, Nat.reduceMul, ne_eq, Nat.reduceEqDiff, not_false_eq_true, or_true, true_or, or_false, false_or, and_true, true_and, and_self, Nat.reduceLeDiff, am_ci, am_cr, am_cn0, Option.toList_some, Option.toList_none, List.cons_append, List.nil_append, am_s0, am_s1, am_s1r, am_s2, am_s2r, am_s3r, nI_add, am_u_ne, am_u_at, am_u_n1, am_u_n2, am_w_ne, x6 16 (by omega)]
    have q5 : ∀ k j, k = 105 ∨ k = 103 → I5 k j = I k j := fun k j hk => by
      rw [s5 k j (by unfold sc2 sc1; omega)]
      exact low2 k j (by omega) (by omega) (by omega) (by omega) (by omega)
    refine ⟨σ, REL_step H u4 u1 u5 u2 M co2 ((s5.mono (fun k j z => Or.inl z)).trans (g6.mono (fun k j z => Or.inr z))) h6.1 (fun i j hi hj => ?_) (fun j hj => ?_) x6⟩
    · rw [h6.2.1 i j hi hj]; exact q5 105 _ (Or.inl rfl)
    · rw [h6.2.2 j hj]; exact q5 103 _ (Or.inr rfl)
  · simp only [am_lv_of, rX12_pass_0, rX12_pass_1, rX12_pass_4, rX12_pass_7, rX12_pass_10, rX12_pass_12, ro_0_0 hR, ro_0_3 hR, ro_0_4 hR, ro_0_5 hR, ro_0_6 hR, ro_0_7 hR, ro_0_8 hR, ro_0_9 hR, ro_0_10 hR, ro_0_11 hR, ro_2_6 hR, ro_2_7 hR, ro_2_8 hR, ro_2_9 hR, ro_2_10 hR, ro_2_11 hR, ro_2_12 hR, ro_2_13 hR, ro_9_0 hR, ro_9_1 hR, ro_9_2 hR, ro_14_0 hR, ro_14_1 hR, ro_14_2 hR, ro_14_7 hR, ro_15_0 hR, ro_15_1 hR, ro_15_2 hR, ro_15_3 hR, ro_20_6 hR, ro_20_7 hR, ro_20_8 hR, ro_20_9 hR, ro_20_10 hR, ro_20_11 hR, ro_20_12 hR, ro_20_13 hR, ro_27_0 hR, ro_27_1 hR, ro_27_2 hR, ro_32_0 hR, ro_32_1 hR, ro_34_10 hR, ro_34_11 hR, ro_34_12 hR, ro_34_13 hR, ro_39_0 hR, ro_39_1 hR, ro_42_0 hR, ro_42_1 hR, ro_47_0 hR, ro_47_1 hR, ro_47_2 hR, ro_47_3 hR, ro_55_0 hR, ro_55_1 hR, ro_55_2 hR, ro_57_0 hR, ro_57_1 hR, ro_57_2 hR, ro_57_3 hR, ro_57_4 hR, ro_57_5 hR, ro_57_8 hR, sh_0, sh_1, sh_2, sh_3, sh_4, sh_5, sh_6, sh_7, sh_8, sh_9, sh_10, sh_11, sh_12, sh_13, sh_14, sh_15, sh_16, sh_17, sh_18, sh_19, sh_20, sh_21, sh_22, sh_23, sh_24, sh_25, sh_26, sh_27, sh_28, sh_29, sh_30, sh_31, sh_32, sh_33, sh_34, sh_35, sh_36, sh_37, sh_38, sh_39, sh_40, sh_41, sh_42, sh_43, sh_44, sh_45, sh_46, sh_47, sh_48, sh_49, sh_50, sh_51, sh_52, sh_53, sh_54, sh_55, sh_56, sh_57, sh_58, sh_59, sh_60, sh_61, sh_62, sh_63, sh_64, sh_65, sh_66, sh_67, sh_68, hl, hvw9, Nat.reduceLT, Nat.reduceAdd, Nat.reduceMul, ne_eq, Nat.reduceEqDiff, not_false_eq_true, or_true, true_or, or_false, false_or, and_true, true_and, and_self, Nat.reduceLeDiff, am_ci, am_cr, am_cn0, Option.toList_some, Option.toList_none, List.cons_append, List.nil_append, am_s0, am_s1, am_s1r, am_s2, am_s2r, am_s3r, nI_add, am_u_ne, am_u_at, am_u_n1, am_u_n2, am_w_ne, ↓reduceIte, c17, h0]
    simp only [am_lv_of, rX13_pass_0, rX13_pass_1, rX13_pass_4, rX13_pass_6, rX13_pass_7, rX13_pass_10, rX13_pass_12, ro_69_1 hR, ro_69_3 hR, ro_69_5 hR, ro_69_6 hR, ro_69_7 hR, ro_69_8 hR, ro_69_9 hR, ro_69_21 hR, ro_69_22 hR, ro_69_23 hR, ro_69_24 hR, ro_69_25 hR, ro_69_26 hR, ro_69_27 hR, ro_69_28 hR, ro_69_29 hR, ro_69_30 hR, ro_69_31 hR, ro_69_32 hR, ro_69_33 hR, ro_69_34 hR, ro_69_35 hR, ro_69_36 hR, ro_69_38 hR, ro_69_39 hR, ro_69_40 hR, ro_69_41 hR, ro_69_42 hR, ro_69_44 hR, ro_69_45 hR, ro_69_46 hR, ro_69_48 hR, ro_69_49 hR, ro_69_51 hR, ro_69_52 hR, ro_69_55 hR, ro_69_56 hR, ro_69_57 hR, ro_69_58 hR, ro_69_59 hR, ro_69_61 hR, ro_69_62 hR, ro_69_63 hR, ro_69_64 hR, ro_69_65 hR, ro_69_66 hR, sh_69, sh_70, sh_71, sh_72, sh_73, sh_74, sh_75, sh_76, sh_77, sh_78, sh_79, sh_80, sh_81, sh_82, sh_83, sh_84, sh_85, sh_86, sh_87, sh_88, sh_89, sh_90, sh_91, sh_92, sh_93, sh_94, sh_95, sh_96, sh_97, sh_98, sh_99, sh_100, sh_101, sh_102, sh_103, sh_104, sh_105, sh_106, sh_107, sh_108, sh_109, sh_110, sh_111, sh_112, sh_113, sh_114, sh_115, hl, hvw9, Nat.reduceLT, Nat.reduceAdd, Nat.reduceMul, ne_eq, Nat.reduceEqDiff, not_false_eq_true, or_true, true_or, or_false, false_or, and_true, true_and, and_self, Nat.reduceLeDiff, am_ci, am_cr, am_cn0, Option.toList_some, Option.toList_none, List.cons_append, List.nil_append, am_s0, am_s1, am_s1r, am_s2, am_s2r, am_s3r, nI_add, am_u_ne, am_u_at, am_u_n1, am_u_n2, am_w_ne, ↓reduceIte, h0]
    exact ⟨σ, H⟩
end PS
