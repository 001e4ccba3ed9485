--! 61
/-! THE CLASS: remember, takeBack, slots -/
section PB
variable {X : am_X} {d n : Nat} {I : Nat → Nat → Int32} {L : Nat → Nat → Int64} {R : Nat → Nat → Option Nat} {Q : Option Value → am_M → Prop} {σ : rfP}
theorem l_remember {u nx c : Nat} (hR : am_OR R) (hN : 116 ≤ n) (hn : n ≤ 1000) (hc : isCr n R c) (hc2 : 116 ≤ c) (hu : I 39 4 = nI u) (hu4 : u ≤ 40) (hx : I 39 3 = nI nx) (hx4 : nx < 40) (hr : R 40 nx = some c) (hQ : ∀ I', cpy I I' 34 c → (∀ k j, ¬ coP c k j → ¬ (k = 39 ∧ (j = 3 ∨ j = 4)) → I' k j = I k j) → I' 39 3 = nI ((nx + 1) % 40) → I' 39 4 = nI (min (u + 1) 40) → Q none (n, I', L, R)) : am_E X (d + 1) mX6_remember 52 [some (.ref 39), some (.ref 34)] [] (n, I, L, R) Q := by
  have hl := am_lt hN
  have hvw9 := am_lw hN
  have er : va_rf (R 40 nx) = .ref c := by rw [hr]; rfl
  have lc : c < n := by have := hc.1; omega
  have sc : (am_SV c).1 = 3 := by rw [hc.2.1]
  simp only [am_lv_of, rX6_remember_52, rX6_remember_53, rX6_remember_56, rX6_remember_57, rX6_remember_60, rX6_remember_61, rX6_remember_62, ro_0_0 hR, ro_0_3 hR, ro_0_4 hR, ro_0_5 hR, ro_0_6 hR, ro_0_7 hR, ro_0_8 hR, ro_0_9 hR, ro_0_10 hR, ro_0_11 hR, ro_2_6 hR, ro_2_7 hR, ro_2_8 hR, ro_2_9 hR, ro_2_10 hR, ro_2_11 hR, ro_2_12 hR, ro_2_13 hR, ro_9_0 hR, ro_9_1 hR, ro_9_2 hR, ro_14_0 hR, ro_14_1 hR, ro_14_2 hR, ro_14_7 hR, ro_15_0 hR, ro_15_1 hR, ro_15_2 hR, ro_15_3 hR, ro_20_6 hR, ro_20_7 hR, ro_20_8 hR, ro_20_9 hR, ro_20_10 hR, ro_20_11 hR, ro_20_12 hR, ro_20_13 hR, ro_27_0 hR, ro_27_1 hR, ro_27_2 hR, ro_32_0 hR, ro_32_1 hR, ro_34_10 hR, ro_34_11 hR, ro_34_12 hR, ro_34_13 hR, ro_39_0 hR, ro_39_1 hR, ro_42_0 hR, ro_42_1 hR, ro_47_0 hR, ro_47_1 hR, ro_47_2 hR, ro_47_3 hR, ro_55_0 hR, ro_55_1 hR, ro_55_2 hR, ro_57_0 hR, ro_57_1 hR, ro_57_2 hR, ro_57_3 hR, ro_57_4 hR, ro_57_5 hR, ro_57_8 hR, sh_0, sh_1, sh_2, sh_3, sh_4, sh_5, sh_6, sh_7, sh_8, sh_9, sh_10, sh_11, sh_12, sh_13, sh_14, sh_15, sh_16, sh_17, sh_18, sh_19, sh_20, sh_21, sh_22, sh_23, sh_24, sh_25, sh_26, sh_27, sh_28, sh_29, sh_30, sh_31, sh_32, sh_33, sh_34, sh_35, sh_36, sh_37, sh_38, sh_39, sh_40, sh_41, sh_42, sh_43, sh_44, sh_45, sh_46, sh_47, sh_48, sh_49, sh_50, sh_51, sh_52, sh_53, sh_54, sh_55, sh_56, sh_57, sh_58, sh_59, sh_60, sh_61, sh_62, sh_63, sh_64, sh_65, sh_66, sh_67, sh_68, hl, hvw9, Nat.reduceLT, Nat.reduceAdd, Nat.reduceMul, ne_eq, Nat.reduceEqDiff, not_false_eq_true, or_true, true_or, or_false, false_or, and_true, true_and, and_self, Nat.reduceLeDiff, am_ci, am_cr, am_cn0, Option.toList_some, Option.toList_none, List.cons_append, List.nil_append, am_s0, am_s1, am_s1r, am_s2, am_s2r, am_s3r, nI_add, am_u_ne, am_u_at, am_u_n1, am_u_n2, am_w_ne, hx, hx4, er, lc, sc]
  refine c_copyFrom hn hc (isCr_34 hR hN) (by omega) (fun I1 g1 g2 => ?_)
  have e3 : I1 39 3 = nI nx := by rw [g1 39 3 (by unfold coP; omega)]; exact hx
  have e4 : I1 39 4 = nI u := by rw [g1 39 4 (by unfold coP; omega)]; exact hu
  have z40 : ¬ nI 40 = 0 := by decide
  have em : nI (nx + 1) - nI (nx + 1) / nI 40 * nI 40 = nI ((nx + 1) % 40) := pk_rem (by omega) (by omega) (by omega)
  have en : (if nI 40 < nI (u + 1) then nI 40 else nI (u + 1)) = nI (min (u + 1) 40) := by
    by_cases h : 40 < u + 1
    · rw [if_pos (nI_lt h (by omega)), Nat.min_eq_right (by omega)]
    · rw [if_neg (nI_nlt (by omega) (by omega)), Nat.min_eq_left (by omega)]
  simp only [am_lv_of, Option.toList_none, rX6_remember_65, rX6_remember_66, rX6_remember_67, rX6_remember_70, rX6_remember_71, rX6_remember_72, rX6_remember_74, rX6_remember_75, rX6_remember_78, rX6_remember_79, rX6_remember_80, rX6_remember_83, rX6_remember_84, rX6_remember_85, rX6_remember_87, rX6_remember_90, rX6_remember_93, ro_0_0 hR, ro_0_3 hR, ro_0_4 hR, ro_0_5 hR, ro_0_6 hR, ro_0_7 hR, ro_0_8 hR, ro_0_9 hR, ro_0_10 hR, ro_0_11 hR, ro_2_6 hR, ro_2_7 hR, ro_2_8 hR, ro_2_9 hR, ro_2_10 hR, ro_2_11 hR, ro_2_12 hR, ro_2_13 hR, ro_9_0 hR, ro_9_1 hR, ro_9_2 hR, ro_14_0 hR, ro_14_1 hR, ro_14_2 hR, ro_14_7 hR, ro_15_0 hR, ro_15_1 hR, ro_15_2 hR, ro_15_3 hR, ro_20_6 hR, ro_20_7 hR, ro_20_8 hR, ro_20_9 hR, ro_20_10 hR, ro_20_11 hR, ro_20_12 hR, ro_20_13 hR, ro_27_0 hR, ro_27_1 hR, ro_27_2 hR, ro_32_0 hR, ro_32_1 hR, ro_34_10 hR, ro_34_11 hR, ro_34_12 hR, ro_34_13 hR, ro_39_0 hR, ro_39_1 hR, ro_42_0 hR, ro_42_1 hR, ro_47_0 hR, ro_47_1 hR, ro_47_2 hR, ro_47_3 hR, ro_55_0 hR, ro_55_1 hR, ro_55_2 hR, ro_57_0 hR, ro_57_1 hR, ro_57_2 hR, ro_57_3 hR, ro_57_4 hR, ro_57_5 hR, ro_57_8 hR, sh_0, sh_1, sh_2, sh_3, sh_4, sh_5, sh_6, sh_7, sh_8, sh_9, sh_10, sh_11, sh_12, sh_13, sh_14, sh_15, sh_16, sh_17, sh_18, sh_19, sh_20, sh_21, sh_22, sh_23, sh_24, sh_25, sh_26, sh_27, sh_28, sh_29, sh_30, sh_31, sh_32, sh_33, sh_34, sh_35, sh_36, sh_37, sh_38, sh_39, sh_40, sh_41, sh_42, sh_43, sh_44, sh_45, sh_46, sh_47, sh_48, sh_49, sh_50, sh_51, sh_52, sh_53, sh_54, sh_55, sh_56, sh_57, sh_58, sh_59, sh_60, sh_61, sh_62, sh_63, sh_64, sh_65, sh_66, sh_67, sh_68, hl, hvw9, Nat.reduceLT, Nat.reduceAdd, Nat.reduceMul, ne_eq, Nat.reduceEqDiff, not_false_eq_true, or_true, true_or, or_false, false_or, and_true, true_and, and_self, Nat.reduceLeDiff, am_ci, am_cr, am_cn0, Option.toList_some, Option.toList_none, List.cons_append, List.nil_append, am_s0, am_s1, am_s1r, am_s2, am_s2r, am_s3r, nI_add, am_u_ne, am_u_at, am_u_n1, am_u_n2, am_w_ne, hn, e3, e4, z40, em, en]
  refine hQ _ ?_ (fun k j h1 h2 => ?_) ?_ ?_
  · obtain ⟨x1, x2, x3, x4, x5⟩ := g2
    refine ⟨fun j hj => ?_, fun j hj => ?_, fun j hj => ?_, fun j hj => ?_, fun j hj => ?_⟩
    · rw [am_u_n1 (by omega), am_u_n1 (by omega)]; exact x1 j hj
    · rw [am_u_n1 (by omega), am_u_n1 (by omega)]; exact x2 j hj
    · rw [am_u_n1 (by omega), am_u_n1 (by omega)]; exact x3 j hj
    · rw [am_u_n1 (by omega), am_u_n1 (by omega)]; exact x4 j hj
    · rw [am_u_n1 (by omega), am_u_n1 (by omega)]; exact x5 j hj
  · rw [← g1 k j h1]
    by_cases hk : k = 39
    · subst hk
      rw [am_u_n2 (by omega), am_u_n2 (by omega)]
    · rw [am_u_n1 hk, am_u_n1 hk]
  · rw [am_u_n2 (by omega), am_u_at]
  · rw [am_u_at]
theorem c_remember {u nx : Nat} (H : relR n R) (hu : I 39 4 = nI u) (hu4 : u ≤ 40) (hx : I 39 3 = nI nx) (hx4 : nx < 40) (hQ : ∀ n' I' L' R' c, n ≤ n' → relR n' R' → isCo n' c → R' 40 nx = some c → (∀ j, j ≠ nx → R' 40 j = R 40 j) → (∀ j, R' 41 j = R 41 j) → cpy I I' 34 c → (∀ k j, k < n → ¬ coP c k j → ¬ (k = 39 ∧ (j = 3 ∨ j = 4)) → I' k j = I k j) → I' 39 3 = nI ((nx + 1) % 40) → I' 39 4 = nI (min (u + 1) 40) → (∀ k j, k < n → L' k j = L k j) → Q none (n', I', L', R')) : am_E X (d + 1) mX6_remember 0 [some (.ref 39), some (.ref 34)] [] (n, I, L, R) Q := by
  have hR := H.1
  have hN := H.N
  have hn := H.n
  have hl := am_lt hN
  have hvw9 := am_lw hN
  have z0 : ¬ nI nx < 0 := nI_pos (by omega)
  have z1 : nI nx < nI 40 := nI_lt hx4 (by omega)
  simp only [am_lv_of, rX6_remember_0, rX6_remember_1, rX6_remember_4, rX6_remember_7, rX6_remember_8, rX6_remember_11, rX6_remember_12, rX6_remember_15, rX6_remember_16, rX6_remember_19, rX6_remember_20, rX6_remember_21, rX6_remember_24, rX6_remember_25, rX6_remember_28, rX6_remember_29, rX6_remember_32, ro_0_0 hR, ro_0_3 hR, ro_0_4 hR, ro_0_5 hR, ro_0_6 hR, ro_0_7 hR, ro_0_8 hR, ro_0_9 hR, ro_0_10 hR, ro_0_11 hR, ro_2_6 hR, ro_2_7 hR, ro_2_8 hR, ro_2_9 hR, ro_2_10 hR, ro_2_11 hR, ro_2_12 hR, ro_2_13 hR, ro_9_0 hR, ro_9_1 hR, ro_9_2 hR, ro_14_0 hR, ro_14_1 hR, ro_14_2 hR, ro_14_7 hR, ro_15_0 hR, ro_15_1 hR, ro_15_2 hR, ro_15_3 hR, ro_20_6 hR, ro_20_7 hR, ro_20_8 hR, ro_20_9 hR, ro_20_10 hR, ro_20_11 hR, ro_20_12 hR, ro_20_13 hR, ro_27_0 hR, ro_27_1 hR, ro_27_2 hR, ro_32_0 hR, ro_32_1 hR, ro_34_10 hR, ro_34_11 hR, ro_34_12 hR, ro_34_13 hR, ro_39_0 hR, ro_39_1 hR, ro_42_0 hR, ro_42_1 hR, ro_47_0 hR, ro_47_1 hR, ro_47_2 hR, ro_47_3 hR, ro_55_0 hR, ro_55_1 hR, ro_55_2 hR, ro_57_0 hR, ro_57_1 hR, ro_57_2 hR, ro_57_3 hR, ro_57_4 hR, ro_57_5 hR, ro_57_8 hR, sh_0, sh_1, sh_2, sh_3, sh_4, sh_5, sh_6, sh_7, sh_8, sh_9, sh_10, sh_11, sh_12, sh_13, sh_14, sh_15, sh_16, sh_17, sh_18, sh_19, sh_20, sh_21, sh_22, sh_23, sh_24, sh_25, sh_26, sh_27, sh_28, sh_29, sh_30, sh_31, sh_32, sh_33, sh_34, sh_35, sh_36, sh_37, sh_38, sh_39, sh_40, sh_41, sh_42, sh_43, sh_44, sh_45, sh_46, sh_47, sh_48, sh_49, sh_50, sh_51, sh_52, sh_53, sh_54, sh_55, sh_56, sh_57, sh_58, sh_59, sh_60, sh_61, sh_62, sh_63, sh_64, sh_65, sh_66, sh_67, sh_68, hl, hvw9, Nat.reduceLT, Nat.reduceAdd, Nat.reduceMul, ne_eq, Nat.reduceEqDiff, not_false_eq_true, or_true, true_or, or_false, false_or, and_true, true_and, and_self, Nat.reduceLeDiff, am_ci, am_cr, am_cn0, Option.toList_some, Option.toList_none, List.cons_append, List.nil_append, am_s0, am_s1, am_s1r, am_s2, am_s2r, am_s3r, nI_add, am_u_ne, am_u_at, am_u_n1, am_u_n2, am_w_ne, ↓reduceIte, hx, z0, z1, hx4]
  cases hr : R 40 nx with
  | some c =>
    have hc := H.2.2.1 nx c hx4 hr
    have er : va_rf (some c) = .ref c := rfl
    simp only [am_lv_of, er, rX6_remember_33]
    exact l_remember hR hN hn (isCr_co H hc) hc.1 hu hu4 hx hx4 hr (fun I' g1 g2 g3 g4 => hQ n I' L R c (Nat.le_refl _) H hc hr (fun _ _ => rfl) (fun _ => rfl) g1 (fun k j _ h1 h2 => g2 k j h1 h2) g3 g4 (fun _ _ _ => rfl))
  | none =>
    have er : va_rf none = .null := rfl
    have hcn : n + 5 ≤ 1000 := by have := cnt_le R; have := H.2.1; omega
    have h5 : (n - 116) % 5 = 0 := by have := H.2.1; omega
    have sn : (am_SV n).1 = 3 := by rw [(sh_co n hN h5 hcn).1]
    have n1 : n + 1 ≤ 1000 := by omega
    have l39 : 39 < n := hl 39 (by omega)
    have i39 : ¬ 39 = n := by omega
    simp only [am_lv_of, er, rX6_remember_33n, rX6_remember_36, rX6_remember_37, rX6_remember_40, rX6_remember_41, rX6_remember_44, rX6_remember_47, ro_0_0 hR, ro_0_3 hR, ro_0_4 hR, ro_0_5 hR, ro_0_6 hR, ro_0_7 hR, ro_0_8 hR, ro_0_9 hR, ro_0_10 hR, ro_0_11 hR, ro_2_6 hR, ro_2_7 hR, ro_2_8 hR, ro_2_9 hR, ro_2_10 hR, ro_2_11 hR, ro_2_12 hR, ro_2_13 hR, ro_9_0 hR, ro_9_1 hR, ro_9_2 hR, ro_14_0 hR, ro_14_1 hR, ro_14_2 hR, ro_14_7 hR, ro_15_0 hR, ro_15_1 hR, ro_15_2 hR, ro_15_3 hR, ro_20_6 hR, ro_20_7 hR, ro_20_8 hR, ro_20_9 hR, ro_20_10 hR, ro_20_11 hR, ro_20_12 hR, ro_20_13 hR, ro_27_0 hR, ro_27_1 hR, ro_27_2 hR, ro_32_0 hR, ro_32_1 hR, ro_34_10 hR, ro_34_11 hR, ro_34_12 hR, ro_34_13 hR, ro_39_0 hR, ro_39_1 hR, ro_42_0 hR, ro_42_1 hR, ro_47_0 hR, ro_47_1 hR, ro_47_2 hR, ro_47_3 hR, ro_55_0 hR, ro_55_1 hR, ro_55_2 hR, ro_57_0 hR, ro_57_1 hR, ro_57_2 hR, ro_57_3 hR, ro_57_4 hR, ro_57_5 hR, ro_57_8 hR, sh_0, sh_1, sh_2, sh_3, sh_4, sh_5, sh_6, sh_7, sh_8, sh_9, sh_10, sh_11, sh_12, sh_13, sh_14, sh_15, sh_16, sh_17, sh_18, sh_19, sh_20, sh_21, sh_22, sh_23, sh_24, sh_25, sh_26, sh_27, sh_28, sh_29, sh_30, sh_31, sh_32, sh_33, sh_34, sh_35, sh_36, sh_37, sh_38, sh_39, sh_40, sh_41, sh_42, sh_43, sh_44, sh_45, sh_46, sh_47, sh_48, sh_49, sh_50, sh_51, sh_52, sh_53, sh_54, sh_55, sh_56, sh_57, sh_58, sh_59, sh_60, sh_61, sh_62, sh_63, sh_64, sh_65, sh_66, sh_67, sh_68, hl, hvw9, Nat.reduceLT, Nat.reduceAdd, Nat.reduceMul, ne_eq, Nat.reduceEqDiff, not_false_eq_true, or_true, true_or, or_false, false_or, and_true, true_and, and_self, Nat.reduceLeDiff, am_ci, am_cr, am_cn0, Option.toList_some, Option.toList_none, List.cons_append, List.nil_append, am_s0, am_s1, am_s1r, am_s2, am_s2r, am_s3r, nI_add, am_u_ne, am_u_at, am_u_n1, am_u_n2, am_w_ne, am_make_eq, hx, sn, n1, (show 17 ≤ n by omega)]
    rw [rX6_remember_48 (Nat.le_of_ble_eq_true rfl)]
    refine c_X3init hcn hN h5 (fun I' L' R' f1 f2 f3 r10 r11 r12 r13 => ?_)
    have s40 : (am_SV 40).1 = 24 := by rw [sh_40]
    have s40' : nx < (am_SV 40).2 := by rw [sh_40]; exact hx4
    simp only [Option.toList_none, List.nil_append]
    rw [rX6_remember_51 hcn (am_lv_of (by omega)) s40 s40' (am_lv_of (by omega)) sn]
    have g0 : ∀ k j, k < n → I' k j = I k j := fun k j hk => by rw [f1 k j hk]; unfold am_w; rw [if_neg (by omega)]
    have gL : ∀ k j, k < n → L' k j = L k j := fun k j hk => by rw [f2 k j hk]; unfold am_w; rw [if_neg (by omega)]
    have gR : ∀ k j, k < n → R' k j = R k j := fun k j hk => by rw [f3 k j hk]; unfold am_w; rw [if_neg (by omega)]
    have HR : relR (n + 5) (am_u R' 40 nx (some n)) := H.hang (t := 40) (i := nx) (Or.inl ⟨rfl, hx4⟩) hr am_u_at (fun k j hk h => by
        unfold am_u
        by_cases e1 : k = 40
        · by_cases e2 : j = nx
          · exact absurd ⟨e1, e2⟩ h
          · rw [if_pos e1, if_neg e2]; exact gR k j hk
        · rw [if_neg e1]; exact gR k j hk) (by rw [am_u_n1 (by omega)]; exact r10) (by rw [am_u_n1 (by omega)]; exact r11) (by rw [am_u_n1 (by omega)]; exact r12) (by rw [am_u_n1 (by omega)]; exact r13)
    have hco : isCo (n + 5) n := ⟨hN, h5, by omega⟩
    refine l_remember HR.1 HR.N HR.n (isCr_co HR hco) hN (by rw [g0 39 4 l39]; exact hu) hu4 (by rw [g0 39 3 l39]; exact hx) hx4 am_u_at (fun I'' g1 g2 g3 g4 => hQ (n + 5) I'' L' _ n (by omega) HR hco am_u_at (fun j hj => by rw [am_u_n2 hj]; exact gR 40 j (by omega)) (fun j => by rw [am_u_n1 (by omega)]; exact gR 41 j (by omega)) ?_ (fun k j hk h1 h2 => by rw [g2 k j h1 h2]; exact g0 k j hk) g3 g4 gL)
    obtain ⟨x1, x2, x3, x4, x5⟩ := g1
    exact ⟨fun j hj => by rw [x1 j hj]; exact g0 _ _ (by omega), fun j hj => by rw [x2 j hj]; exact g0 _ _ (by omega), fun j hj => by rw [x3 j hj]; exact g0 _ _ (by omega), fun j hj => by rw [x4 j hj]; exact g0 _ _ (by omega), fun j hj => by rw [x5 j hj]; exact g0 _ _ (by omega)⟩
end PB
