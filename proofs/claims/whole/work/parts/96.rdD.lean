--! 95
/-! TEXTS: the class reads what is told -/
def rdP (k _j : Nat) : Prop := (14 ≤ k ∧ k ≤ 31) ∨ k = 2000 ∨ k = 2001
def pkS : List (Nat × Nat) → Nat → Nat
  | [], _ => 0
  | q :: r, i => q.1 * 16 ^ i + pkS r (i + 1)
theorem pkS_s {q : Nat × Nat} : ∀ (P : List (Nat × Nat)) (i : Nat), pkS (P ++ [q]) i = pkS P i + q.1 * 16 ^ (i + P.length) := by
  intro P
  induction P with
  | nil => intro i; simp [pkS]
  | cons a P ih =>
    intro i
    rw [List.cons_append, pkS, pkS, ih, List.length_cons, show i + 1 + P.length = i + (P.length + 1) by omega]
    omega
def BK (I : Nat → Nat → Int32) (t : Nat) (l : Nat → Option (lawB × pfx)) : Prop := ∃ z, z ≤ 6 + t ∧ I 27 3 = nI z ∧ ∀ k, k < 3 → ∃ fk, I 29 k = nI fk ∧ cl_brs (m28 I) z (lwOf k (l k)).2 fk (lwOf k (l k)).1
theorem cl_brs_sz {M N : Nat → Nat → Int32} {sz sz' : Nat} {e : pfx} (hs : sz ≤ sz') (g : ∀ j, j < sz → N 10 j = M 10 j) : ∀ {r : lawB} {f : Nat}, cl_brs M sz e f r → cl_brs N sz' e f r := by
  intro r
  induction r with
  | nil =>
    rintro f ⟨h1, h2, h3, h4⟩
    exact ⟨cl_seg_g h1 (fun j _ hj => g j (by omega)), by rw [g _ h3]; exact h2, by omega, h4⟩
  | cons q r ih =>
    obtain ⟨t1, t2, e1⟩ := q
    rintro f ⟨h1, h2, h3, h4, h5, h6, h7, h8, h9, h10⟩
    exact ⟨cl_seg_g h1 (fun j _ hj => g j (by omega)), h2, cl_seg_g h3 (fun j _ hj => g j (by omega)), h4, by rw [g _ (by omega)]; exact h5, cl_seg_g h6 (fun j _ hj => g j (by omega)), h7, by rw [g _ h9]; exact h8, by omega, ih h10⟩
theorem BK.ag {I J : Nat → Nat → Int32} {t t' : Nat} {l : Nat → Option (lawB × pfx)} (h : BK I t l) (ht : t ≤ t') (g : ∀ k j, 27 ≤ k → k ≤ 29 → J k j = I k j) : BK J t' l := by
  obtain ⟨z, h1, h2, h3⟩ := h
  refine ⟨z, by omega, by rw [g 27 3 (by omega) (by omega)]; exact h2, fun k hk => ?_⟩
  obtain ⟨fk, a1, a2⟩ := h3 k hk
  exact ⟨fk, by rw [g 29 k (by omega) (by omega)]; exact a1, cl_brs_sz (Nat.le_refl _) (fun j _ => g 28 j (by omega) (by omega)) a2⟩
def DR (I : Nat → Nat → Int32) (s : pst) : Prop := (s_P s).length ≤ 5 ∧ (s_S s).length ≤ 7 ∧ (s_C s).length ≤ 7 ∧ I 20 0 = nI (s_P s).length ∧ I 20 1 = nI (s_S s).length ∧ I 20 2 = nI (s_C s).length ∧ I 20 3 = nI (s_m s) ∧ I 20 4 = nI (s_d s) ∧ I 20 5 = nI (pkS (s_P s) 0) ∧ (∀ i q, (s_P s)[i]? = some q → I 21 i = nI q.2) ∧ (∀ i q, (s_S s)[i]? = some q → ((s_f s).1 = 0 → I 22 i = nI q.1) ∧ I 23 i = nI q.2.1 ∧ I 24 i = q.2.2.1 ∧ I 25 i = nI q.2.2.2) ∧ (∀ i c, (s_C s)[i]? = some c → I 26 i = nI c) ∧ BK I (s_t s) (s_l s)
def CS (I : Nat → Nat → Int32) (L : Nat → Nat → Int64) (R : Nat → Nat → Option Nat) (x : txt) (s : pst) : Prop := rdT I L R x (s_t s) ∧ sfC I (s_f s) ∧ nmC I L (s_n s) (s_P s).length ∧ (s_n s).length = (s_P s).length + (s_S s).length ∧ DR I s
theorem getE_s {α : Type} {l : List α} {a b : α} {i : Nat} (h : (l ++ [a])[i]? = some b) : (i < l.length ∧ l[i]? = some b) ∨ (i = l.length ∧ b = a) := by
  by_cases hi : i < l.length
  · rw [List.getElem?_append_left hi] at h
    exact Or.inl ⟨hi, h⟩
  · have hl := (List.getElem?_eq_some_iff.mp h).1
    rw [List.length_append, List.length_singleton] at hl
    have : i = l.length := by omega
    subst this
    rw [List.getElem?_append_right (Nat.le_refl _), Nat.sub_self] at h
    exact Or.inr ⟨rfl, by simpa using h.symm⟩
theorem nt_0 {x : txt} {f : Nat × Nat} {b : Bool} {k t : Nat} (hk : 1 ≤ k) (h : (nt x f b k t).1 = 0) : f.1 = 0 ∧ b = false := by
  unfold nt at h
  by_cases c : f.1 = 0 ∧ b = true
  · rw [if_pos c] at h
    have : k = 0 := h
    omega
  · rw [if_neg c] at h
    refine ⟨h, ?_⟩
    cases b with
    | false => rfl
    | true => exact absurd ⟨h, rfl⟩ c
theorem shl4_s : ∀ p, p < 5 → (((nI 4 * nI p) &&& 31).toBitVec.smod 32).toNat = 4 * p := by decide
theorem shl4 {v p : Nat} (hv : v ≤ 9999) (hp : p < 5) : nI v <<< (nI 4 * nI p &&& 31) = nI (v * 16 ^ p) := by
  have e : 2 ^ (4 * p) = 16 ^ p := by rw [Nat.pow_mul]
  have h16 : 16 ^ p ≤ 16 ^ 4 := Nat.pow_le_pow_right (by omega) (by omega)
  have : v * 16 ^ p ≤ 9999 * 16 ^ 4 := Nat.mul_le_mul hv h16
  rw [pk_shlN _ (4 * p) (shl4_s p hp) (by rw [e]; omega), e]
section RD
variable {X : am_X} {d n : Nat} {I : Nat → Nat → Int32} {L : Nat → Nat → Int64} {R : Nat → Nat → Option Nat} {Q : Option Value → am_M → Prop} {x : txt} {s : pst}
theorem inF_P {J : Nat → Nat → Int32} (h : am_ag inF I J) : am_ag rdP I J := h.mono (fun k j z => by unfold inF at z; unfold rdP; omega)
theorem nwF_P {J : Nat → Nat → Int32} (h : am_ag nwF I J) : am_ag rdP I J := h.mono (fun k j z => by unfold nwF inF at z; unfold rdP; omega)
theorem st_P {J : Nat → Nat → Int32} (h : am_ag (fun k j => (k = 15 ∧ 7 ≤ j ∧ j ≤ 9) ∨ (k = 14 ∧ j = 4)) I J) : am_ag rdP I J := h.mono (fun k j z => by unfold rdP; omega)
theorem fl_P {J : Nat → Nat → Int32} (h : am_ag (fun k j => k = 14 ∧ (j = 6 ∨ j = 8)) I J) : am_ag rdP I J := h.mono (fun k j z => by unfold rdP; omega)
theorem ntE {f : Nat × Nat} {b : Bool} {k t : Nat} {J : Nat → Nat → Int32} (h : sfC J (nt x f b k t)) : sfC J (nt x f b k t) := h
theorem c_puppetTold (hR : am_OR R) (hN : 116 ≤ n) (hn : n ≤ 1000) (H : CS I L R x s) (hk : kK x (s_t s) = 0) (hE : ∀ e, puppetP x s = .inl e → ∀ I' L', am_ag rdP I I' → agN L L' → flt I' x e → Q (some (.int (nI 0))) (n, I', L', R)) (hS : ∀ s', puppetP x s = .inr s' → ∀ I' L', am_ag rdP I I' → agN L L' → CS I' L' R x s' → Q (some (.int (nI 1))) (n, I', L', R)) : am_E X (d + 8) mX9_puppetTold 0 [some (.ref 14), none] [] (n, I, L, R) Q := by
  have hl := am_lt hN
  have hvw9 := am_lw hN
  have z1 : ¬ nI 1 = 0 := by decide
  have z0' : (nI 0 = 0) = True := eq_true rfl
  obtain ⟨T, F, H3, H4, P5, S7, C7, d0, d1, d2, d3, d4, d5, dP, dS, dC, dB⟩ := id H
  unfold puppetP at hE hS
  by_cases h5 : 5 ≤ (s_P s).length
  · have c1 : ¬ nI (s_P s).length < nI 5 := nI_nlt h5 (by omega)
    rw [if_pos h5] at hE
    simp only [am_lv_of, rX9_puppetTold_0, rX9_puppetTold_1, rX9_puppetTold_4, rX9_puppetTold_7, rX9_puppetTold_8, rX9_puppetTold_9, rX9_puppetTold_10, rX9_puppetTold_13, rX9_puppetTold_14, rX9_puppetTold_15, ro_0_0 hR, ro_0_3 hR, ro_0_4 hR, ro_0_5 hR, ro_0_6 hR, ro_0_7 hR, ro_0_8 hR, ro_0_9 hR, ro_0_10 hR, ro_0_11 hR, ro_2_6 hR, ro_2_7 hR, ro_2_8 hR, ro_2_9 hR, ro_2_10 hR, ro_2_11 hR, ro_2_12 hR, ro_2_13 hR, ro_9_0 hR, ro_9_1 hR, ro_9_2 hR, ro_14_0 hR, ro_14_1 hR, ro_14_2 hR, ro_14_7 hR, ro_15_0 hR, ro_15_1 hR, ro_15_2 hR, ro_15_3 hR, ro_20_6 hR, ro_20_7 hR, ro_20_8 hR, ro_20_9 hR, ro_20_10 hR, ro_20_11 hR, ro_20_12 hR, ro_20_13 hR, ro_27_0 hR, ro_27_1 hR, ro_27_2 hR, ro_32_0 hR, ro_32_1 hR, ro_34_10 hR, ro_34_11 hR, ro_34_12 hR, ro_34_13 hR, ro_39_0 hR, ro_39_1 hR, ro_42_0 hR, ro_42_1 hR, ro_47_0 hR, ro_47_1 hR, ro_47_2 hR, ro_47_3 hR, ro_55_0 hR, ro_55_1 hR, ro_55_2 hR, ro_57_0 hR, ro_57_1 hR, ro_57_2 hR, ro_57_3 hR, ro_57_4 hR, ro_57_5 hR, ro_57_8 hR, sh_0, sh_1, sh_2, sh_3, sh_4, sh_5, sh_6, sh_7, sh_8, sh_9, sh_10, sh_11, sh_12, sh_13, sh_14, sh_15, sh_16, sh_17, sh_18, sh_19, sh_20, sh_21, sh_22, sh_23, sh_24, sh_25, sh_26, sh_27, sh_28, sh_29, sh_30, sh_31, sh_32, sh_33, sh_34, sh_35, sh_36, sh_37, sh_38, sh_39, sh_40, sh_41, sh_42, sh_43, sh_44, sh_45, sh_46, sh_47, sh_48, sh_49, sh_50, sh_51, sh_52, sh_53, sh_54, sh_55, sh_56, sh_57, sh_58, sh_59, sh_60, sh_61, sh_62, sh_63, sh_64, sh_65, sh_66, sh_67, sh_68, hl, hvw9, Nat.reduceLT, Nat.reduceAdd, Nat.reduceMul, ne_eq, Nat.reduceEqDiff, not_false_eq_true, or_true, true_or, or_false, false_or, and_true, true_and, and_self, Nat.reduceLeDiff, am_ci, am_cr, am_cn0, Option.toList_some, Option.toList_none, List.cons_append, List.nil_append, am_s0, am_s1, am_s1r, am_s2, am_s2r, am_s3r, nI_add, am_u_ne, am_u_at, am_u_n1, am_u_n2, am_w_ne, ↓reduceIte, d0, c1, c_fail hR hN hn, Option.toList_some, rX9_puppetTold_18_0]
    exact hE _ rfl _ L ((fail_G T).1.mono (fun k j z => by unfold exG exF at z; unfold rdP; omega)) agN.refl (fail_G T).2
  · have c1 : nI (s_P s).length < nI 5 := nI_lt (by omega) (by omega)
    rw [if_neg h5] at hE hS
    have hk0 : tkE x 0 (s_t s) = stE (s_t s) := tkE_y hk
    simp only [chk] at hE hS
    simp only [am_lv_of, rX9_puppetTold_0, rX9_puppetTold_1, rX9_puppetTold_4, rX9_puppetTold_7, rX9_puppetTold_8, rX9_puppetTold_9, rX9_puppetTold_10, rX9_puppetTold_19, rX9_puppetTold_20, ro_0_0 hR, ro_0_3 hR, ro_0_4 hR, ro_0_5 hR, ro_0_6 hR, ro_0_7 hR, ro_0_8 hR, ro_0_9 hR, ro_0_10 hR, ro_0_11 hR, ro_2_6 hR, ro_2_7 hR, ro_2_8 hR, ro_2_9 hR, ro_2_10 hR, ro_2_11 hR, ro_2_12 hR, ro_2_13 hR, ro_9_0 hR, ro_9_1 hR, ro_9_2 hR, ro_14_0 hR, ro_14_1 hR, ro_14_2 hR, ro_14_7 hR, ro_15_0 hR, ro_15_1 hR, ro_15_2 hR, ro_15_3 hR, ro_20_6 hR, ro_20_7 hR, ro_20_8 hR, ro_20_9 hR, ro_20_10 hR, ro_20_11 hR, ro_20_12 hR, ro_20_13 hR, ro_27_0 hR, ro_27_1 hR, ro_27_2 hR, ro_32_0 hR, ro_32_1 hR, ro_34_10 hR, ro_34_11 hR, ro_34_12 hR, ro_34_13 hR, ro_39_0 hR, ro_39_1 hR, ro_42_0 hR, ro_42_1 hR, ro_47_0 hR, ro_47_1 hR, ro_47_2 hR, ro_47_3 hR, ro_55_0 hR, ro_55_1 hR, ro_55_2 hR, ro_57_0 hR, ro_57_1 hR, ro_57_2 hR, ro_57_3 hR, ro_57_4 hR, ro_57_5 hR, ro_57_8 hR, sh_0, sh_1, sh_2, sh_3, sh_4, sh_5, sh_6, sh_7, sh_8, sh_9, sh_10, sh_11, sh_12, sh_13, sh_14, sh_15, sh_16, sh_17, sh_18, sh_19, sh_20, sh_21, sh_22, sh_23, sh_24, sh_25, sh_26, sh_27, sh_28, sh_29, sh_30, sh_31, sh_32, sh_33, sh_34, sh_35, sh_36, sh_37, sh_38, sh_39, sh_40, sh_41, sh_42, sh_43, sh_44, sh_45, sh_46, sh_47, sh_48, sh_49, sh_50, sh_51, sh_52, sh_53, sh_54, sh_55, sh_56, sh_57, sh_58, sh_59, sh_60, sh_61, sh_62, sh_63, sh_64, sh_65, sh_66, sh_67, sh_68, hl, hvw9, Nat.reduceLT, Nat.reduceAdd, Nat.reduceMul, ne_eq, Nat.reduceEqDiff, not_false_eq_true, or_true, true_or, or_false, false_or, and_true, true_and, and_self, Nat.reduceLeDiff, am_ci, am_cr, am_cn0, Option.toList_some, Option.toList_none, List.cons_append, List.nil_append, am_s0, am_s1, am_s1r, am_s2, am_s2r, am_s3r, nI_add, am_u_ne, am_u_at, am_u_n1, am_u_n2, am_w_ne, ↓reduceIte, d0, c1]
    refine c_stepC (d := d + 1) hR hN hn T (fun e hh I1 g1 f1 => ?_) (fun t1 hh I1 L1 g1 l1 T1 => ?_)
    · rw [hk0, hh] at hE
      simp only [am_lv_of, Option.toList_some, List.cons_append, List.nil_append, rX9_puppetTold_23, z0', ↓reduceIte, rX9_puppetTold_43, rX9_puppetTold_44_0]
      exact hE e rfl I1 L (fl_P g1) agN.refl f1
    · obtain ⟨ht, rfl⟩ := stE_inr hh
      rw [hk0, hh, erB_inr] at hE hS
      have F1 : sfC I1 (s_f s) := F.ag (fun j hj => g1 14 j (by omega))
      have N1 : nmC I1 L1 (s_n s) (s_P s).length := H3.ag (fun k j hk => g1 k j (by omega)) (fun j => l1 18 j (by omega)) (Nat.le_refl _)
      have eo : nI (s_P s).length = oI (some (s_P s).length) := rfl
      simp only [am_lv_of, Option.toList_some, List.cons_append, List.nil_append, rX9_puppetTold_23, z1, ↓reduceIte, rX9_puppetTold_26, rX9_puppetTold_27, rX9_puppetTold_28, ro_0_0 hR, ro_0_3 hR, ro_0_4 hR, ro_0_5 hR, ro_0_6 hR, ro_0_7 hR, ro_0_8 hR, ro_0_9 hR, ro_0_10 hR, ro_0_11 hR, ro_2_6 hR, ro_2_7 hR, ro_2_8 hR, ro_2_9 hR, ro_2_10 hR, ro_2_11 hR, ro_2_12 hR, ro_2_13 hR, ro_9_0 hR, ro_9_1 hR, ro_9_2 hR, ro_14_0 hR, ro_14_1 hR, ro_14_2 hR, ro_14_7 hR, ro_15_0 hR, ro_15_1 hR, ro_15_2 hR, ro_15_3 hR, ro_20_6 hR, ro_20_7 hR, ro_20_8 hR, ro_20_9 hR, ro_20_10 hR, ro_20_11 hR, ro_20_12 hR, ro_20_13 hR, ro_27_0 hR, ro_27_1 hR, ro_27_2 hR, ro_32_0 hR, ro_32_1 hR, ro_34_10 hR, ro_34_11 hR, ro_34_12 hR, ro_34_13 hR, ro_39_0 hR, ro_39_1 hR, ro_42_0 hR, ro_42_1 hR, ro_47_0 hR, ro_47_1 hR, ro_47_2 hR, ro_47_3 hR, ro_55_0 hR, ro_55_1 hR, ro_55_2 hR, ro_57_0 hR, ro_57_1 hR, ro_57_2 hR, ro_57_3 hR, ro_57_4 hR, ro_57_5 hR, ro_57_8 hR, sh_0, sh_1, sh_2, sh_3, sh_4, sh_5, sh_6, sh_7, sh_8, sh_9, sh_10, sh_11, sh_12, sh_13, sh_14, sh_15, sh_16, sh_17, sh_18, sh_19, sh_20, sh_21, sh_22, sh_23, sh_24, sh_25, sh_26, sh_27, sh_28, sh_29, sh_30, sh_31, sh_32, sh_33, sh_34, sh_35, sh_36, sh_37, sh_38, sh_39, sh_40, sh_41, sh_42, sh_43, sh_44, sh_45, sh_46, sh_47, sh_48, sh_49, sh_50, sh_51, sh_52, sh_53, sh_54, sh_55, sh_56, sh_57, sh_58, sh_59, sh_60, sh_61, sh_62, sh_63, sh_64, sh_65, sh_66, sh_67, sh_68, hl, hvw9, Nat.reduceLT, Nat.reduceAdd, Nat.reduceMul, ne_eq, Nat.reduceEqDiff, not_false_eq_true, or_true, true_or, or_false, false_or, and_true, true_and, and_self, Nat.reduceLeDiff, am_ci, am_cr, am_cn0, Option.toList_some, Option.toList_none, List.cons_append, List.nil_append, am_s0, am_s1, am_s1r, am_s2, am_s2r, am_s3r, nI_add, am_u_ne, am_u_at, am_u_n1, am_u_n2, am_w_ne]
      rw [eo]
      refine c_takeNewC (d := d) (pp := some (s_P s).length) hR hN hn T1 F1 N1 (by omega) (fun e hh I2 L2 g2 l2 f2 => ?_) (fun t2 hh I2 L2 g2 l2 T2 F2 N2 => ?_)
      · rw [hh] at hE
        simp only [am_lv_of, Option.toList_some, List.cons_append, List.nil_append, rX9_puppetTold_31, z0', ↓reduceIte, rX9_puppetTold_43, rX9_puppetTold_44_0]
        exact hE e rfl I2 L2 ((st_P g1).trans (nwF_P g2)) (l1.N.trans l2) f2
      · obtain ⟨q1, q2, rfl⟩ := tkE_inr hh
        rw [hh, erB_inr] at hE hS
        simp only [am_lv_of, Option.toList_some, List.cons_append, List.nil_append, rX9_puppetTold_31, z1, ↓reduceIte, rX9_puppetTold_34, rX9_puppetTold_35, rX9_puppetTold_37, ro_0_0 hR, ro_0_3 hR, ro_0_4 hR, ro_0_5 hR, ro_0_6 hR, ro_0_7 hR, ro_0_8 hR, ro_0_9 hR, ro_0_10 hR, ro_0_11 hR, ro_2_6 hR, ro_2_7 hR, ro_2_8 hR, ro_2_9 hR, ro_2_10 hR, ro_2_11 hR, ro_2_12 hR, ro_2_13 hR, ro_9_0 hR, ro_9_1 hR, ro_9_2 hR, ro_14_0 hR, ro_14_1 hR, ro_14_2 hR, ro_14_7 hR, ro_15_0 hR, ro_15_1 hR, ro_15_2 hR, ro_15_3 hR, ro_20_6 hR, ro_20_7 hR, ro_20_8 hR, ro_20_9 hR, ro_20_10 hR, ro_20_11 hR, ro_20_12 hR, ro_20_13 hR, ro_27_0 hR, ro_27_1 hR, ro_27_2 hR, ro_32_0 hR, ro_32_1 hR, ro_34_10 hR, ro_34_11 hR, ro_34_12 hR, ro_34_13 hR, ro_39_0 hR, ro_39_1 hR, ro_42_0 hR, ro_42_1 hR, ro_47_0 hR, ro_47_1 hR, ro_47_2 hR, ro_47_3 hR, ro_55_0 hR, ro_55_1 hR, ro_55_2 hR, ro_57_0 hR, ro_57_1 hR, ro_57_2 hR, ro_57_3 hR, ro_57_4 hR, ro_57_5 hR, ro_57_8 hR, sh_0, sh_1, sh_2, sh_3, sh_4, sh_5, sh_6, sh_7, sh_8, sh_9, sh_10, sh_11, sh_12, sh_13, sh_14, sh_15, sh_16, sh_17, sh_18, sh_19, sh_20, sh_21, sh_22, sh_23, sh_24, sh_25, sh_26, sh_27, sh_28, sh_29, sh_30, sh_31, sh_32, sh_33, sh_34, sh_35, sh_36, sh_37, sh_38, sh_39, sh_40, sh_41, sh_42, sh_43, sh_44, sh_45, sh_46, sh_47, sh_48, sh_49, sh_50, sh_51, sh_52, sh_53, sh_54, sh_55, sh_56, sh_57, sh_58, sh_59, sh_60, sh_61, sh_62, sh_63, sh_64, sh_65, sh_66, sh_67, sh_68, hl, hvw9, Nat.reduceLT, Nat.reduceAdd, Nat.reduceMul, ne_eq, Nat.reduceEqDiff, not_false_eq_true, or_true, true_or, or_false, false_or, and_true, true_and, and_self, Nat.reduceLeDiff, am_ci, am_cr, am_cn0, Option.toList_some, Option.toList_none, List.cons_append, List.nil_append, am_s0, am_s1, am_s1r, am_s2, am_s2r, am_s3r, nI_add, am_u_ne, am_u_at, am_u_n1, am_u_n2, am_w_ne]
        refine c_takeIntC (d := d) (most := 9) hR hN hn (by omega) T2 F2 (fun e hh I3 g3 f3 => ?_) (fun t3 hh I3 L3 g3 l3 T3 F3 v3 => ?_)
        · rw [hh] at hE
          simp only [am_lv_of, Option.toList_some, List.cons_append, List.nil_append, rX9_puppetTold_40, z0', not_true_eq_false, ↓reduceIte, rX9_puppetTold_43, rX9_puppetTold_44_0]
          exact hE e rfl I3 L2 (((st_P g1).trans (nwF_P g2)).trans (inF_P g3)) (l1.N.trans l2) f3
        · obtain ⟨q3, q4, rfl⟩ := tkE_inr hh
          rw [hh, erB_inr] at hE hS
          have kv3 := kV_le q3
          have G3 : am_ag rdP I I3 := ((st_P g1).trans (nwF_P g2)).trans (inF_P g3)
          have dr3 : ∀ k j, 20 ≤ k → k ≤ 31 → I3 k j = I k j := fun k j h1 h2 => by rw [g3 k j (by unfold inF; omega), g2 k j (by unfold nwF inF; omega), g1 k j (by omega)]
          have e5 : I3 20 5 = nI (pkS (s_P s) 0) := by rw [dr3 20 5 (by omega) (by omega)]; exact d5
          have es : nI (pkS (s_P s) 0) + (nI (kV x (s_t s + 1 + 1)) <<< (nI 4 * nI (s_P s).length &&& 31)) = nI (pkS (s_P s ++ [(kV x (s_t s + 2), kV x (s_t s + 3))]) 0) := by
            rw [shl4 kv3 (by omega), nI_add, pkS_s, Nat.zero_add]
          simp only [am_lv_of, Option.toList_some, List.cons_append, List.nil_append, rX9_puppetTold_40, z1, not_false_eq_true, ↓reduceIte, rX9_puppetTold_45, rX9_puppetTold_46, rX9_puppetTold_49, rX9_puppetTold_50, rX9_puppetTold_53, rX9_puppetTold_56, rX9_puppetTold_57, rX9_puppetTold_58, rX9_puppetTold_61, rX8_shifted_0, rX8_shifted_1, rX8_shifted_2, rX8_shifted_3, rX8_shifted_4, rX8_shifted_5, rX8_shifted_6, rX8_shifted_7, ro_0_0 hR, ro_0_3 hR, ro_0_4 hR, ro_0_5 hR, ro_0_6 hR, ro_0_7 hR, ro_0_8 hR, ro_0_9 hR, ro_0_10 hR, ro_0_11 hR, ro_2_6 hR, ro_2_7 hR, ro_2_8 hR, ro_2_9 hR, ro_2_10 hR, ro_2_11 hR, ro_2_12 hR, ro_2_13 hR, ro_9_0 hR, ro_9_1 hR, ro_9_2 hR, ro_14_0 hR, ro_14_1 hR, ro_14_2 hR, ro_14_7 hR, ro_15_0 hR, ro_15_1 hR, ro_15_2 hR, ro_15_3 hR, ro_20_6 hR, ro_20_7 hR, ro_20_8 hR, ro_20_9 hR, ro_20_10 hR, ro_20_11 hR, ro_20_12 hR, ro_20_13 hR, ro_27_0 hR, ro_27_1 hR, ro_27_2 hR, ro_32_0 hR, ro_32_1 hR, ro_34_10 hR, ro_34_11 hR, ro_34_12 hR, ro_34_13 hR, ro_39_0 hR, ro_39_1 hR, ro_42_0 hR, ro_42_1 hR, ro_47_0 hR, ro_47_1 hR, ro_47_2 hR, ro_47_3 hR, ro_55_0 hR, ro_55_1 hR, ro_55_2 hR, ro_57_0 hR, ro_57_1 hR, ro_57_2 hR, ro_57_3 hR, ro_57_4 hR, ro_57_5 hR, ro_57_8 hR, sh_0, sh_1, sh_2, sh_3, sh_4, sh_5, sh_6, sh_7, sh_8, sh_9, sh_10, sh_11, sh_12, sh_13, sh_14, sh_15, sh_16, sh_17, sh_18, sh_19, sh_20, sh_21, sh_22, sh_23, sh_24, sh_25, sh_26, sh_27, sh_28, sh_29, sh_30, sh_31, sh_32, sh_33, sh_34, sh_35, sh_36, sh_37, sh_38, sh_39, sh_40, sh_41, sh_42, sh_43, sh_44, sh_45, sh_46, sh_47, sh_48, sh_49, sh_50, sh_51, sh_52, sh_53, sh_54, sh_55, sh_56, sh_57, sh_58, sh_59, sh_60, sh_61, sh_62, sh_63, sh_64, sh_65, sh_66, sh_67, sh_68, hl, hvw9, Nat.reduceLT, Nat.reduceAdd, Nat.reduceMul, ne_eq, Nat.reduceEqDiff, not_false_eq_true, or_true, true_or, or_false, false_or, and_true, true_and, and_self, Nat.reduceLeDiff, am_ci, am_cr, am_cn0, Option.toList_some, Option.toList_none, List.cons_append, List.nil_append, am_s0, am_s1, am_s1r, am_s2, am_s2r, am_s3r, nI_add, am_u_ne, am_u_at, am_u_n1, am_u_n2, am_w_ne, e5, v3, eo.symm, es, rX9_puppetTold_64, rX9_puppetTold_67, rX9_puppetTold_68, rX9_puppetTold_70, hn]
          have T3' : rdT (am_u I3 20 5 (nI (pkS (s_P s ++ [(kV x (s_t s + 2), kV x (s_t s + 3))]) 0))) L3 R x (s_t s + 1 + 1 + 1) := T3.fr (fun k j hk => am_u_n1 (by omega))
          have F3' := F3.ag (J := am_u I3 20 5 (nI (pkS (s_P s ++ [(kV x (s_t s + 2), kV x (s_t s + 3))]) 0))) (fun j hj => am_u_n1 (by omega))
          refine c_takeIntC (d := d) (most := 9) hR hN hn (by omega) T3' F3' (fun e hh I4 g4 f4 => ?_) (fun t4 hh I4 L4 g4 l4 T4 F4 v4 => ?_)
          · rw [hh] at hE
            simp only [am_lv_of, Option.toList_some, List.cons_append, List.nil_append, rX9_puppetTold_73, z0', not_true_eq_false, ↓reduceIte, rX9_puppetTold_76, rX9_puppetTold_77_0]
            exact hE e rfl I4 L3 ((G3.u (by unfold rdP; omega)).trans (inF_P g4)) ((l1.N.trans l2).trans l3.N) f4
          · obtain ⟨q5, q6, rfl⟩ := tkE_inr hh
            rw [hh, erB_inr] at hE hS
            have p5 : (s_P s).length < 5 := by omega
            have e200 : I4 20 0 = nI (s_P s).length := by rw [g4 20 0 (by unfold inF; omega), am_u_n2 (by omega), dr3 20 0 (by omega) (by omega)]; exact d0
            simp only [am_lv_of, Option.toList_some, List.cons_append, List.nil_append, rX9_puppetTold_73, z1, not_false_eq_true, ↓reduceIte, rX9_puppetTold_78, rX9_puppetTold_79, rX9_puppetTold_82, rX9_puppetTold_85, rX9_puppetTold_86, rX9_puppetTold_87, rX9_puppetTold_90, rX9_puppetTold_91, rX9_puppetTold_92, rX9_puppetTold_95, rX9_puppetTold_96, rX9_puppetTold_99, rX9_puppetTold_100, rX9_puppetTold_101, rX9_puppetTold_104, rX9_puppetTold_105, rX9_puppetTold_107, ro_0_0 hR, ro_0_3 hR, ro_0_4 hR, ro_0_5 hR, ro_0_6 hR, ro_0_7 hR, ro_0_8 hR, ro_0_9 hR, ro_0_10 hR, ro_0_11 hR, ro_2_6 hR, ro_2_7 hR, ro_2_8 hR, ro_2_9 hR, ro_2_10 hR, ro_2_11 hR, ro_2_12 hR, ro_2_13 hR, ro_9_0 hR, ro_9_1 hR, ro_9_2 hR, ro_14_0 hR, ro_14_1 hR, ro_14_2 hR, ro_14_7 hR, ro_15_0 hR, ro_15_1 hR, ro_15_2 hR, ro_15_3 hR, ro_20_6 hR, ro_20_7 hR, ro_20_8 hR, ro_20_9 hR, ro_20_10 hR, ro_20_11 hR, ro_20_12 hR, ro_20_13 hR, ro_27_0 hR, ro_27_1 hR, ro_27_2 hR, ro_32_0 hR, ro_32_1 hR, ro_34_10 hR, ro_34_11 hR, ro_34_12 hR, ro_34_13 hR, ro_39_0 hR, ro_39_1 hR, ro_42_0 hR, ro_42_1 hR, ro_47_0 hR, ro_47_1 hR, ro_47_2 hR, ro_47_3 hR, ro_55_0 hR, ro_55_1 hR, ro_55_2 hR, ro_57_0 hR, ro_57_1 hR, ro_57_2 hR, ro_57_3 hR, ro_57_4 hR, ro_57_5 hR, ro_57_8 hR, sh_0, sh_1, sh_2, sh_3, sh_4, sh_5, sh_6, sh_7, sh_8, sh_9, sh_10, sh_11, sh_12, sh_13, sh_14, sh_15, sh_16, sh_17, sh_18, sh_19, sh_20, sh_21, sh_22, sh_23, sh_24, sh_25, sh_26, sh_27, sh_28, sh_29, sh_30, sh_31, sh_32, sh_33, sh_34, sh_35, sh_36, sh_37, sh_38, sh_39, sh_40, sh_41, sh_42, sh_43, sh_44, sh_45, sh_46, sh_47, sh_48, sh_49, sh_50, sh_51, sh_52, sh_53, sh_54, sh_55, sh_56, sh_57, sh_58, sh_59, sh_60, sh_61, sh_62, sh_63, sh_64, sh_65, sh_66, sh_67, sh_68, hl, hvw9, Nat.reduceLT, Nat.reduceAdd, Nat.reduceMul, ne_eq, Nat.reduceEqDiff, not_false_eq_true, or_true, true_or, or_false, false_or, and_true, true_and, and_self, Nat.reduceLeDiff, am_ci, am_cr, am_cn0, Option.toList_some, Option.toList_none, List.cons_append, List.nil_append, am_s0, am_s1, am_s1r, am_s2, am_s2r, am_s3r, nI_add, am_u_ne, am_u_at, am_u_n1, am_u_n2, am_w_ne, hn, v4, e200, p5]
            have G4 : am_ag rdP I (am_u (am_u I4 21 (s_P s).length (nI (kV x (s_t s + 1 + 1 + 1)))) 20 0 (nI ((s_P s).length + 1))) := (((G3.u (by unfold rdP; omega)).trans (inF_P g4)).u (by unfold rdP; omega)).u (by unfold rdP; omega)
            have T4' : rdT (am_u (am_u I4 21 (s_P s).length (nI (kV x (s_t s + 1 + 1 + 1)))) 20 0 (nI ((s_P s).length + 1))) L4 R x (s_t s + 1 + 1 + 1 + 1) := T4.fr (fun k j hk => by rw [am_u_n1 (by omega), am_u_n1 (by omega)])
            refine c_takeC (d := d) (c := 59) hR hN hn (by omega) T4' (fun e hh I5 g5 f5 => ?_) (fun t5 hh I5 L5 g5 l5 T5 => ?_)
            · rw [hh] at hE
              simp only [am_lv_of, Option.toList_some, List.cons_append, List.nil_append, rX9_puppetTold_110_0]
              exact hE e rfl I5 L4 (G4.trans (fl_P g5)) (((l1.N.trans l2).trans l3.N).trans l4.N) f5
            · obtain ⟨q7, q8, rfl⟩ := tkE_inr hh
              rw [hh, erB_inr, erB_inr] at hS
              simp only [am_lv_of, Option.toList_some, List.cons_append, List.nil_append, rX9_puppetTold_110_1]
              have dr5 : ∀ k j, 20 ≤ k → k ≤ 31 → ¬ (k = 20 ∧ (j = 0 ∨ j = 5)) → ¬ (k = 21 ∧ j = (s_P s).length) → I5 k j = I k j := fun k j h1 h2 h3 h4 => by
                rw [g5 k j (by omega)]
                have a1 : am_u (am_u I4 21 (s_P s).length (nI (kV x (s_t s + 1 + 1 + 1)))) 20 0 (nI ((s_P s).length + 1)) k j = I4 k j := by
                  unfold am_u
                  by_cases a : k = 20
                  · have : ¬ j = 0 := fun z => h3 ⟨a, Or.inl z⟩
                    subst a; simp [this]
                  · by_cases b : k = 21
                    · have : ¬ j = (s_P s).length := fun z => h4 ⟨b, z⟩
                      subst b; simp [this]
                    · simp [a, b]
                rw [a1, g4 k j (by unfold inF; omega)]
                have a2 : am_u I3 20 5 (nI (pkS (s_P s ++ [(kV x (s_t s + 2), kV x (s_t s + 3))]) 0)) k j = I3 k j := by
                  unfold am_u
                  by_cases a : k = 20
                  · have : ¬ j = 5 := fun z => h3 ⟨a, Or.inr z⟩
                    subst a; simp [this]
                  · simp [a]
                rw [a2, dr3 k j h1 h2]
              have len : (s_P s ++ [(kV x (s_t s + 2), kV x (s_t s + 3))]).length = (s_P s).length + 1 := by rw [List.length_append]; rfl
              refine hS _ rfl I5 L5 (G4.trans (st_P g5)) ((((l1.N.trans l2).trans l3.N).trans l4.N).trans l5.N) ⟨T5, ?_, ?_, ?_, ?_⟩
              · exact F4.ag (fun j hj => by rw [g5 14 j (by omega), am_u_n1 (by omega), am_u_n1 (by omega)])
              · have := N2 ((s_P s).length + 1) (by omega) (fun p hp => by cases hp; omega)
                show nmC I5 L5 (s_n s ++ [(kM x (s_t s + 1), some (s_P s).length)]) (s_P s ++ [(kV x (s_t s + 2), kV x (s_t s + 3))]).length
                rw [len]
                refine this.ag (fun k j hk => ?_) (fun j => by rw [l5 18 j (by omega), l4 18 j (by omega), l3 18 j (by omega)]) (Nat.le_refl _)
                rw [g5 k j (by omega), am_u_n1 (by omega), am_u_n1 (by omega), g4 k j (by unfold inF; omega), am_u_n1 (by omega), g3 k j (by unfold inF; omega)]
              · show (s_n s ++ [(kM x (s_t s + 1), some (s_P s).length)]).length = (s_P s ++ [(kV x (s_t s + 2), kV x (s_t s + 3))]).length + (s_S s).length
                rw [len, List.length_append, List.length_singleton]; omega
              · refine ⟨by show (s_P s ++ _).length ≤ 5; rw [len]; omega, S7, C7, ?_, ?_, ?_, ?_, ?_, ?_, fun i q hq => ?_, fun i q hq => ?_, fun i c hc => ?_, ?_⟩
                · show I5 20 0 = nI (s_P s ++ _).length
                  rw [len, g5 20 0 (by omega), am_u_at]
                · rw [dr5 20 1 (by omega) (by omega) (by omega) (by omega)]; exact d1
                · rw [dr5 20 2 (by omega) (by omega) (by omega) (by omega)]; exact d2
                · rw [dr5 20 3 (by omega) (by omega) (by omega) (by omega)]; exact d3
                · rw [dr5 20 4 (by omega) (by omega) (by omega) (by omega)]; exact d4
                · show I5 20 5 = nI (pkS (s_P s ++ [(kV x (s_t s + 2), kV x (s_t s + 3))]) 0)
                  rw [g5 20 5 (by omega), am_u_n2 (by omega), am_u_n1 (by omega), g4 20 5 (by unfold inF; omega), am_u_at]
                · rcases getE_s hq with ⟨h1, h2⟩ | ⟨h1, h2⟩
                  · rw [dr5 21 i (by omega) (by omega) (by omega) (by omega)]; exact dP i q h2
                  · rw [h1, h2, g5 21 _ (by omega), am_u_n1 (by omega), am_u_at]
                · obtain ⟨b1, b2, b3, b4⟩ := dS i q hq
                  refine ⟨fun hf => ?_, ?_, ?_, ?_⟩
                  · rw [dr5 22 i (by omega) (by omega) (by omega) (by omega)]
                    exact b1 (nt_0 (by omega) (nt_0 (by omega) (nt_0 (by omega) hf).1).1).1
                  · rw [dr5 23 i (by omega) (by omega) (by omega) (by omega)]; exact b2
                  · rw [dr5 24 i (by omega) (by omega) (by omega) (by omega)]; exact b3
                  · rw [dr5 25 i (by omega) (by omega) (by omega) (by omega)]; exact b4
                · rw [dr5 26 i (by omega) (by omega) (by omega) (by omega)]; exact dC i c hc
                · exact dB.ag (show s_t s ≤ s_t s + 1 + 1 + 1 + 1 + 1 by omega) (fun k j h1 h2 => dr5 k j (by omega) (by omega) (by omega) (by omega))
end RD
