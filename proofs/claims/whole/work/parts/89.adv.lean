--! 88
/-! TEXTS: the class's next token -/
theorem sn_cases (l : List Nat) : l = [] ∨ ∃ L b, l = L ++ [b] := by
  induction l with
  | nil => exact Or.inl rfl
  | cons a l ih =>
    rcases ih with rfl | ⟨L, b, rfl⟩
    · exact Or.inr ⟨[], a, rfl⟩
    · exact Or.inr ⟨a :: L, b, rfl⟩
def okW (l : List Nat) : Prop := ∀ c, c ∈ l → 1 ≤ c ∧ c ≤ 26
theorem cdW_inj {B : Nat} (hB : 27 ≤ B) : ∀ (n : Nat) (l l' : List Nat), l.length = n → okW l → okW l' → cdW B l = cdW B l' → l = l' := by
  intro n
  induction n with
  | zero =>
    intro l l' hn h1 h2 h
    have : l = [] := List.length_eq_zero_iff.mp hn
    subst this
    rcases sn_cases l' with rfl | ⟨L, b, rfl⟩
    · rfl
    · rw [cdW_s] at h
      have := h2 b (by simp)
      have e : cdW B [] = 0 := rfl
      omega
  | succ n ih =>
    intro l l' hn h1 h2 h
    rcases sn_cases l with rfl | ⟨L, b, rfl⟩
    · simp at hn
    · have hb := h1 b (by simp)
      rw [cdW_s] at h
      rcases sn_cases l' with rfl | ⟨L', b', rfl⟩
      · have e : cdW B [] = 0 := rfl
        omega
      · have hb' := h2 b' (by simp)
        rw [cdW_s] at h
        have e1 : b = b' := by
          have q1 : (B * cdW B L + b) % B = b := by rw [Nat.mul_add_mod, Nat.mod_eq_of_lt (by omega)]
          have q2 : (B * cdW B L' + b') % B = b' := by rw [Nat.mul_add_mod, Nat.mod_eq_of_lt (by omega)]
          rw [← q1, h, q2]
        have e2 : cdW B L = cdW B L' := by
          have : B * cdW B L = B * cdW B L' := by omega
          exact Nat.eq_of_mul_eq_mul_left (by omega) this
        have := ih L L' (by simpa using hn) (fun c hc => h1 c (by simp [hc])) (fun c hc => h2 c (by simp [hc])) e2
        rw [this, e1]
theorem cdW_lt {B : Nat} (hB : 27 ≤ B) : ∀ (n : Nat) (l : List Nat), l.length = n → okW l → cdW B l < B ^ n := by
  intro n
  induction n with
  | zero =>
    intro l hn h
    have : l = [] := List.length_eq_zero_iff.mp hn
    subst this
    show 0 < B ^ 0
    rw [Nat.pow_zero]
    omega
  | succ n ih =>
    intro l hn h
    rcases sn_cases l with rfl | ⟨L, b, rfl⟩
    · simp at hn
    · have hb := h b (by simp)
      have := ih L (by simpa using hn) (fun c hc => h c (by simp [hc]))
      rw [cdW_s, Nat.pow_succ, Nat.mul_comm (B ^ n)]
      calc B * cdW B L + b < B * cdW B L + B := by omega
        _ = B * (cdW B L + 1) := by rw [Nat.mul_add, Nat.mul_one]
        _ ≤ B * B ^ n := Nat.mul_le_mul_left _ this
theorem cdW_63 {B : Nat} {l : List Nat} (hB : B = 27 ∨ B = 32) (hl : l.length ≤ 8) (h : okW l) : cdW B l < 2 ^ 63 := by
  have h1 := cdW_lt (B := B) (by omega) l.length l rfl h
  have h2 : B ^ l.length ≤ B ^ 8 := Nat.pow_le_pow_right (by omega) hl
  have h3 : B ^ 8 ≤ 2 ^ 40 := by rcases hB with rfl | rfl <;> decide
  omega
theorem cdW_eq {B : Nat} {l l' : List Nat} (hB : B = 27 ∨ B = 32) (h1 : okW l) (h2 : okW l') (l1 : l.length ≤ 8) (l2 : l'.length ≤ 8) : lN (cdW B l) = lN (cdW B l') ↔ l = l' := by
  rw [pk_lEQ (cdW_63 hB l1 h1) (cdW_63 hB l2 h2)]
  exact ⟨cdW_inj (by omega) l.length l l' rfl h1 h2, fun h => by rw [h]⟩
theorem wds_ok : ∀ k, k < 20 → okW (wds.getD k []) ∧ (wds.getD k []).length ≤ 8 := by
  have : ∀ k, k < 20 → (∀ c, c ∈ wds.getD k [] → 1 ≤ c ∧ c ≤ 26) ∧ (wds.getD k []).length ≤ 8 := by decide
  exact this
def wIx (l : List Nat) : Nat := wds.findIdx (fun w => w == l)
theorem wIx_le (l : List Nat) : wIx l ≤ 20 := List.findIdx_le_length
theorem wds_at {i : Nat} (hl : i < wds.length) : wds.getD i [] = wds[i] := by
  unfold List.getD
  rw [List.getElem?_eq_getElem hl]
  rfl
theorem wIx_lt {l : List Nat} {i : Nat} (h : i < wIx l) : ¬ wds.getD i [] = l := by
  have h20 := wIx_le l
  have hl : i < wds.length := Nat.lt_of_lt_of_le h List.findIdx_le_length
  have := List.not_of_lt_findIdx (p := fun w => w == l) (xs := wds) h
  rw [wds_at hl]
  intro z
  simp [z] at this
theorem wIx_at {l : List Nat} (h : wIx l < 20) : wds.getD (wIx l) [] = l := by
  have hl : wIx l < wds.length := h
  have := List.findIdx_getElem (p := fun w => w == l) (xs := wds) (w := hl)
  rw [wds_at hl]
  exact eq_of_beq this
theorem nmX_ok {x : txt} {p : Nat} : okW (nmX x p (rn x (xL x) p)) := by
  intro c hc
  unfold nmX at hc
  obtain ⟨j, hj, rfl⟩ := List.mem_map.mp hc
  rw [List.mem_range] at hj
  have h := (rn_in (x := x) (p := xL x) xL_lt (x.1 - p) p rfl).2 (p + j) (by omega) (by omega)
  have := (of_decide_eq_true h).2
  omega
theorem tK_let {x : txt} {i : Nat} (h : tK x i ≤ 20) : xL x (tP x i) = true ∧ rn x (xL x) (tP x i) - tP x i ≤ 8 ∧ tK x i = wIx (tM x i) := by
  unfold tK at h
  by_cases h1 : x.1 ≤ tP x i
  · rw [if_pos h1] at h; omega
  · rw [if_neg h1] at h
    by_cases h2 : xL x (tP x i) = true
    · rw [if_pos h2] at h
      by_cases h3 : 8 < rn x (xL x) (tP x i) - tP x i
      · rw [if_pos h3] at h; omega
      · refine ⟨h2, by omega, ?_⟩
        unfold tK
        rw [if_neg h1, if_pos h2, if_neg h3]
        rfl
    · rw [if_neg h2] at h
      by_cases h3 : xD x (tP x i) = true
      · rw [if_pos h3] at h
        split at h <;> omega
      · rw [if_neg h3] at h
        by_cases h4 : isSg (x.2 (tP x i)) = true
        · rw [if_pos h4] at h
          have := of_decide_eq_true h4
          omega
        · rw [if_neg h4] at h; omega
theorem tM_ok {x : txt} {i : Nat} (h : tK x i ≤ 20) : okW (tM x i) ∧ (tM x i).length ≤ 8 := ⟨nmX_ok, by unfold tM; rw [nmX_len]; exact (tK_let h).2.1⟩
def relW (L : Nat → Nat → Int64) : Prop := ∀ k, k < 20 → L 16 k = lN (cdW 32 (wds.getD k []))
theorem relW.ag {L L' : Nat → Nat → Int64} (h : relW L) (g : agL L L') : relW L' := fun k hk => by rw [g 16 k (by omega)]; exact h k hk
theorem lcmp_eq {a b : Int64} : (lg_cmp a b = 0) ↔ a = b := by
  unfold lg_cmp
  by_cases h1 : a > b
  · rw [if_pos h1]
    constructor
    · intro z; exact absurd z (by decide)
    · intro z; subst z; exact absurd h1 (fun q => Int64.lt_irrefl q)
  · rw [if_neg h1]
    by_cases h2 : a = b
    · simp [h2]
    · simp [h2]
section AV
variable {X : am_X} {d n : Nat} {I : Nat → Nat → Int32} {L : Nat → Nat → Int64} {R : Nat → Nat → Option Nat} {Q : Option Value → am_M → Prop} {x : txt}
theorem l_words {l : List Nat} (hR : am_OR R) (hN : 116 ≤ n) (hn : n ≤ 1000) (hW : relW L) (h7 : L 15 10 = lN (cdW 32 l)) (hl1 : okW l) (hl2 : l.length ≤ 8) (h4 : I 15 8 = nI 20) (hQ : ∀ I', am_ag (fun k j => k = 15 ∧ j = 8) I I' → I' 15 8 = nI (wIx l) → Q none (n, I', L, R)) : ∀ (m i : Nat), i + m = 20 → i ≤ wIx l → am_E X d mX11_cutLetters 103 [some (.ref 15), some (.int (nI i))] [] (n, I, L, R) Q := by
  have hl := am_lt hN
  have hvw9 := am_lw hN
  intro m
  induction m with
  | zero =>
    intro i hi hle
    have hi : i = 20 := by omega
    subst hi
    have c1 : nI 20 ≤ nI 20 := by decide
    have := wIx_le l
    simp only [am_lv_of, rX11_cutLetters_103, rX11_cutLetters_104, rX11_cutLetters_105, rX11_cutLetters_108, rX11_cutLetters_109, rX11_cutLetters_146, ro_0_0 hR, ro_0_3 hR, ro_0_4 hR, ro_0_5 hR, ro_0_6 hR, ro_0_7 hR, ro_0_8 hR, ro_0_9 hR, ro_0_10 hR, ro_0_11 hR, ro_2_6 hR, ro_2_7 hR, ro_2_8 hR, ro_2_9 hR, ro_2_10 hR, ro_2_11 hR, ro_2_12 hR, ro_2_13 hR, ro_9_0 hR, ro_9_1 hR, ro_9_2 hR, ro_14_0 hR, ro_14_1 hR, ro_14_2 hR, ro_14_7 hR, ro_15_0 hR, ro_15_1 hR, ro_15_2 hR, ro_15_3 hR, ro_20_6 hR, ro_20_7 hR, ro_20_8 hR, ro_20_9 hR, ro_20_10 hR, ro_20_11 hR, ro_20_12 hR, ro_20_13 hR, ro_27_0 hR, ro_27_1 hR, ro_27_2 hR, ro_32_0 hR, ro_32_1 hR, ro_34_10 hR, ro_34_11 hR, ro_34_12 hR, ro_34_13 hR, ro_39_0 hR, ro_39_1 hR, ro_42_0 hR, ro_42_1 hR, ro_47_0 hR, ro_47_1 hR, ro_47_2 hR, ro_47_3 hR, ro_55_0 hR, ro_55_1 hR, ro_55_2 hR, ro_57_0 hR, ro_57_1 hR, ro_57_2 hR, ro_57_3 hR, ro_57_4 hR, ro_57_5 hR, ro_57_8 hR, sh_0, sh_1, sh_2, sh_3, sh_4, sh_5, sh_6, sh_7, sh_8, sh_9, sh_10, sh_11, sh_12, sh_13, sh_14, sh_15, sh_16, sh_17, sh_18, sh_19, sh_20, sh_21, sh_22, sh_23, sh_24, sh_25, sh_26, sh_27, sh_28, sh_29, sh_30, sh_31, sh_32, sh_33, sh_34, sh_35, sh_36, sh_37, sh_38, sh_39, sh_40, sh_41, sh_42, sh_43, sh_44, sh_45, sh_46, sh_47, sh_48, sh_49, sh_50, sh_51, sh_52, sh_53, sh_54, sh_55, sh_56, sh_57, sh_58, sh_59, sh_60, sh_61, sh_62, sh_63, sh_64, sh_65, sh_66, sh_67, sh_68, hl, hvw9, Nat.reduceLT, Nat.reduceAdd, Nat.reduceMul, ne_eq, Nat.reduceEqDiff, not_false_eq_true, or_true, true_or, or_false, false_or, and_true, true_and, and_self, Nat.reduceLeDiff, am_ci, am_cr, am_cn0, Option.toList_some, Option.toList_none, List.cons_append, List.nil_append, am_s0, am_s1, am_s1r, am_s2, am_s2r, am_s3r, nI_add, am_u_ne, am_u_at, am_u_n1, am_u_n2, am_w_ne, ↓reduceIte, c1]
    exact hQ I am_ag.refl (by rw [h4]; exact congrArg nI (by omega))
  | succ m ih =>
    intro i hi hle
    have c1 : ¬ nI 20 ≤ nI i := nI_ge (by omega) (by omega)
    have i20 : i < 20 := by omega
    have e20 : (nI 20 = nI 20) = True := eq_true rfl
    obtain ⟨w1, w2⟩ := wds_ok i i20
    rw [rX11_cutLetters_103]
    simp only [am_lv_of, rX11_cutLetters_104, rX11_cutLetters_105, rX11_cutLetters_108, rX11_cutLetters_109, rX11_cutLetters_112, rX11_cutLetters_113, rX11_cutLetters_116, rX11_cutLetters_118, rX11_cutLetters_121, rX11_cutLetters_122, rX11_cutLetters_125, rX11_cutLetters_126, rX11_cutLetters_127, rX11_cutLetters_128, rX11_cutLetters_131, ro_0_0 hR, ro_0_3 hR, ro_0_4 hR, ro_0_5 hR, ro_0_6 hR, ro_0_7 hR, ro_0_8 hR, ro_0_9 hR, ro_0_10 hR, ro_0_11 hR, ro_2_6 hR, ro_2_7 hR, ro_2_8 hR, ro_2_9 hR, ro_2_10 hR, ro_2_11 hR, ro_2_12 hR, ro_2_13 hR, ro_9_0 hR, ro_9_1 hR, ro_9_2 hR, ro_14_0 hR, ro_14_1 hR, ro_14_2 hR, ro_14_7 hR, ro_15_0 hR, ro_15_1 hR, ro_15_2 hR, ro_15_3 hR, ro_20_6 hR, ro_20_7 hR, ro_20_8 hR, ro_20_9 hR, ro_20_10 hR, ro_20_11 hR, ro_20_12 hR, ro_20_13 hR, ro_27_0 hR, ro_27_1 hR, ro_27_2 hR, ro_32_0 hR, ro_32_1 hR, ro_34_10 hR, ro_34_11 hR, ro_34_12 hR, ro_34_13 hR, ro_39_0 hR, ro_39_1 hR, ro_42_0 hR, ro_42_1 hR, ro_47_0 hR, ro_47_1 hR, ro_47_2 hR, ro_47_3 hR, ro_55_0 hR, ro_55_1 hR, ro_55_2 hR, ro_57_0 hR, ro_57_1 hR, ro_57_2 hR, ro_57_3 hR, ro_57_4 hR, ro_57_5 hR, ro_57_8 hR, sh_0, sh_1, sh_2, sh_3, sh_4, sh_5, sh_6, sh_7, sh_8, sh_9, sh_10, sh_11, sh_12, sh_13, sh_14, sh_15, sh_16, sh_17, sh_18, sh_19, sh_20, sh_21, sh_22, sh_23, sh_24, sh_25, sh_26, sh_27, sh_28, sh_29, sh_30, sh_31, sh_32, sh_33, sh_34, sh_35, sh_36, sh_37, sh_38, sh_39, sh_40, sh_41, sh_42, sh_43, sh_44, sh_45, sh_46, sh_47, sh_48, sh_49, sh_50, sh_51, sh_52, sh_53, sh_54, sh_55, sh_56, sh_57, sh_58, sh_59, sh_60, sh_61, sh_62, sh_63, sh_64, sh_65, sh_66, sh_67, sh_68, hl, hvw9, Nat.reduceLT, Nat.reduceAdd, Nat.reduceMul, ne_eq, Nat.reduceEqDiff, not_false_eq_true, or_true, true_or, or_false, false_or, and_true, true_and, and_self, Nat.reduceLeDiff, am_ci, am_cr, am_cn0, Option.toList_some, Option.toList_none, List.cons_append, List.nil_append, am_s0, am_s1, am_s1r, am_s2, am_s2r, am_s3r, nI_add, am_u_ne, am_u_at, am_u_n1, am_u_n2, am_w_ne, ↓reduceIte, c1, h4, e20, not_true_eq_false, i20, hW i i20, h7, rX11_cutLetters_132, lcmp_eq, cdW_eq (Or.inr rfl) w1 hl1 w2 hl2]
    by_cases hc : wds.getD i [] = l
    · have hc' : (wds.getD i [] = l) = True := eq_true hc
      have hiw : i = wIx l := by
        by_cases e : i < wIx l
        · exact absurd hc (wIx_lt e)
        · omega
      simp only [am_lv_of, hc', not_true_eq_false, ↓reduceIte, rX11_cutLetters_135, rX11_cutLetters_136, rX11_cutLetters_137, rX11_cutLetters_140, rX11_cutLetters_143, ro_0_0 hR, ro_0_3 hR, ro_0_4 hR, ro_0_5 hR, ro_0_6 hR, ro_0_7 hR, ro_0_8 hR, ro_0_9 hR, ro_0_10 hR, ro_0_11 hR, ro_2_6 hR, ro_2_7 hR, ro_2_8 hR, ro_2_9 hR, ro_2_10 hR, ro_2_11 hR, ro_2_12 hR, ro_2_13 hR, ro_9_0 hR, ro_9_1 hR, ro_9_2 hR, ro_14_0 hR, ro_14_1 hR, ro_14_2 hR, ro_14_7 hR, ro_15_0 hR, ro_15_1 hR, ro_15_2 hR, ro_15_3 hR, ro_20_6 hR, ro_20_7 hR, ro_20_8 hR, ro_20_9 hR, ro_20_10 hR, ro_20_11 hR, ro_20_12 hR, ro_20_13 hR, ro_27_0 hR, ro_27_1 hR, ro_27_2 hR, ro_32_0 hR, ro_32_1 hR, ro_34_10 hR, ro_34_11 hR, ro_34_12 hR, ro_34_13 hR, ro_39_0 hR, ro_39_1 hR, ro_42_0 hR, ro_42_1 hR, ro_47_0 hR, ro_47_1 hR, ro_47_2 hR, ro_47_3 hR, ro_55_0 hR, ro_55_1 hR, ro_55_2 hR, ro_57_0 hR, ro_57_1 hR, ro_57_2 hR, ro_57_3 hR, ro_57_4 hR, ro_57_5 hR, ro_57_8 hR, sh_0, sh_1, sh_2, sh_3, sh_4, sh_5, sh_6, sh_7, sh_8, sh_9, sh_10, sh_11, sh_12, sh_13, sh_14, sh_15, sh_16, sh_17, sh_18, sh_19, sh_20, sh_21, sh_22, sh_23, sh_24, sh_25, sh_26, sh_27, sh_28, sh_29, sh_30, sh_31, sh_32, sh_33, sh_34, sh_35, sh_36, sh_37, sh_38, sh_39, sh_40, sh_41, sh_42, sh_43, sh_44, sh_45, sh_46, sh_47, sh_48, sh_49, sh_50, sh_51, sh_52, sh_53, sh_54, sh_55, sh_56, sh_57, sh_58, sh_59, sh_60, sh_61, sh_62, sh_63, sh_64, sh_65, sh_66, sh_67, sh_68, hl, hvw9, Nat.reduceLT, Nat.reduceAdd, Nat.reduceMul, ne_eq, Nat.reduceEqDiff, not_false_eq_true, or_true, true_or, or_false, false_or, and_true, true_and, and_self, Nat.reduceLeDiff, am_ci, am_cr, am_cn0, Option.toList_some, Option.toList_none, List.cons_append, List.nil_append, am_s0, am_s1, am_s1r, am_s2, am_s2r, am_s3r, nI_add, am_u_ne, am_u_at, am_u_n1, am_u_n2, am_w_ne, hn]
      have fin := hQ (am_u I 15 8 (nI i)) (am_ag.refl.u ⟨rfl, rfl⟩) (by rw [am_u_at, hiw])
      by_cases e19 : i + 1 = 20
      · have c2 : nI 20 ≤ nI (i + 1) := by rw [e19]; decide
        simp only [am_lv_of, rX11_cutLetters_103, rX11_cutLetters_104, rX11_cutLetters_105, rX11_cutLetters_108, rX11_cutLetters_109, rX11_cutLetters_146, ro_0_0 hR, ro_0_3 hR, ro_0_4 hR, ro_0_5 hR, ro_0_6 hR, ro_0_7 hR, ro_0_8 hR, ro_0_9 hR, ro_0_10 hR, ro_0_11 hR, ro_2_6 hR, ro_2_7 hR, ro_2_8 hR, ro_2_9 hR, ro_2_10 hR, ro_2_11 hR, ro_2_12 hR, ro_2_13 hR, ro_9_0 hR, ro_9_1 hR, ro_9_2 hR, ro_14_0 hR, ro_14_1 hR, ro_14_2 hR, ro_14_7 hR, ro_15_0 hR, ro_15_1 hR, ro_15_2 hR, ro_15_3 hR, ro_20_6 hR, ro_20_7 hR, ro_20_8 hR, ro_20_9 hR, ro_20_10 hR, ro_20_11 hR, ro_20_12 hR, ro_20_13 hR, ro_27_0 hR, ro_27_1 hR, ro_27_2 hR, ro_32_0 hR, ro_32_1 hR, ro_34_10 hR, ro_34_11 hR, ro_34_12 hR, ro_34_13 hR, ro_39_0 hR, ro_39_1 hR, ro_42_0 hR, ro_42_1 hR, ro_47_0 hR, ro_47_1 hR, ro_47_2 hR, ro_47_3 hR, ro_55_0 hR, ro_55_1 hR, ro_55_2 hR, ro_57_0 hR, ro_57_1 hR, ro_57_2 hR, ro_57_3 hR, ro_57_4 hR, ro_57_5 hR, ro_57_8 hR, sh_0, sh_1, sh_2, sh_3, sh_4, sh_5, sh_6, sh_7, sh_8, sh_9, sh_10, sh_11, sh_12, sh_13, sh_14, sh_15, sh_16, sh_17, sh_18, sh_19, sh_20, sh_21, sh_22, sh_23, sh_24, sh_25, sh_26, sh_27, sh_28, sh_29, sh_30, sh_31, sh_32, sh_33, sh_34, sh_35, sh_36, sh_37, sh_38, sh_39, sh_40, sh_41, sh_42, sh_43, sh_44, sh_45, sh_46, sh_47, sh_48, sh_49, sh_50, sh_51, sh_52, sh_53, sh_54, sh_55, sh_56, sh_57, sh_58, sh_59, sh_60, sh_61, sh_62, sh_63, sh_64, sh_65, sh_66, sh_67, sh_68, hl, hvw9, Nat.reduceLT, Nat.reduceAdd, Nat.reduceMul, ne_eq, Nat.reduceEqDiff, not_false_eq_true, or_true, true_or, or_false, false_or, and_true, true_and, and_self, Nat.reduceLeDiff, am_ci, am_cr, am_cn0, Option.toList_some, Option.toList_none, List.cons_append, List.nil_append, am_s0, am_s1, am_s1r, am_s2, am_s2r, am_s3r, nI_add, am_u_ne, am_u_at, am_u_n1, am_u_n2, am_w_ne, ↓reduceIte, c2]
        exact fin
      · have c2 : ¬ nI 20 ≤ nI (i + 1) := nI_ge (by omega) (by omega)
        have c3 : ¬ nI i = nI 20 := nI_ne (by omega) (by omega) (by omega)
        simp only [am_lv_of, rX11_cutLetters_103, rX11_cutLetters_104, rX11_cutLetters_105, rX11_cutLetters_108, rX11_cutLetters_109, rX11_cutLetters_112, rX11_cutLetters_113, rX11_cutLetters_116, rX11_cutLetters_118, rX11_cutLetters_146, ro_0_0 hR, ro_0_3 hR, ro_0_4 hR, ro_0_5 hR, ro_0_6 hR, ro_0_7 hR, ro_0_8 hR, ro_0_9 hR, ro_0_10 hR, ro_0_11 hR, ro_2_6 hR, ro_2_7 hR, ro_2_8 hR, ro_2_9 hR, ro_2_10 hR, ro_2_11 hR, ro_2_12 hR, ro_2_13 hR, ro_9_0 hR, ro_9_1 hR, ro_9_2 hR, ro_14_0 hR, ro_14_1 hR, ro_14_2 hR, ro_14_7 hR, ro_15_0 hR, ro_15_1 hR, ro_15_2 hR, ro_15_3 hR, ro_20_6 hR, ro_20_7 hR, ro_20_8 hR, ro_20_9 hR, ro_20_10 hR, ro_20_11 hR, ro_20_12 hR, ro_20_13 hR, ro_27_0 hR, ro_27_1 hR, ro_27_2 hR, ro_32_0 hR, ro_32_1 hR, ro_34_10 hR, ro_34_11 hR, ro_34_12 hR, ro_34_13 hR, ro_39_0 hR, ro_39_1 hR, ro_42_0 hR, ro_42_1 hR, ro_47_0 hR, ro_47_1 hR, ro_47_2 hR, ro_47_3 hR, ro_55_0 hR, ro_55_1 hR, ro_55_2 hR, ro_57_0 hR, ro_57_1 hR, ro_57_2 hR, ro_57_3 hR, ro_57_4 hR, ro_57_5 hR, ro_57_8 hR, sh_0, sh_1, sh_2, sh_3, sh_4, sh_5, sh_6, sh_7, sh_8, sh_9, sh_10, sh_11, sh_12, sh_13, sh_14, sh_15, sh_16, sh_17, sh_18, sh_19, sh_20, sh_21, sh_22, sh_23, sh_24, sh_25, sh_26, sh_27, sh_28, sh_29, sh_30, sh_31, sh_32, sh_33, sh_34, sh_35, sh_36, sh_37, sh_38, sh_39, sh_40, sh_41, sh_42, sh_43, sh_44, sh_45, sh_46, sh_47, sh_48, sh_49, sh_50, sh_51, sh_52, sh_53, sh_54, sh_55, sh_56, sh_57, sh_58, sh_59, sh_60, sh_61, sh_62, sh_63, sh_64, sh_65, sh_66, sh_67, sh_68, hl, hvw9, Nat.reduceLT, Nat.reduceAdd, Nat.reduceMul, ne_eq, Nat.reduceEqDiff, not_false_eq_true, or_true, true_or, or_false, false_or, and_true, true_and, and_self, Nat.reduceLeDiff, am_ci, am_cr, am_cn0, Option.toList_some, Option.toList_none, List.cons_append, List.nil_append, am_s0, am_s1, am_s1r, am_s2, am_s2r, am_s3r, nI_add, am_u_ne, am_u_at, am_u_n1, am_u_n2, am_w_ne, ↓reduceIte, c2, c3, not_false_eq_true]
        exact fin
    · simp only [am_lv_of, hc, not_false_eq_true, ↓reduceIte, rX11_cutLetters_140, rX11_cutLetters_143, ro_0_0 hR, ro_0_3 hR, ro_0_4 hR, ro_0_5 hR, ro_0_6 hR, ro_0_7 hR, ro_0_8 hR, ro_0_9 hR, ro_0_10 hR, ro_0_11 hR, ro_2_6 hR, ro_2_7 hR, ro_2_8 hR, ro_2_9 hR, ro_2_10 hR, ro_2_11 hR, ro_2_12 hR, ro_2_13 hR, ro_9_0 hR, ro_9_1 hR, ro_9_2 hR, ro_14_0 hR, ro_14_1 hR, ro_14_2 hR, ro_14_7 hR, ro_15_0 hR, ro_15_1 hR, ro_15_2 hR, ro_15_3 hR, ro_20_6 hR, ro_20_7 hR, ro_20_8 hR, ro_20_9 hR, ro_20_10 hR, ro_20_11 hR, ro_20_12 hR, ro_20_13 hR, ro_27_0 hR, ro_27_1 hR, ro_27_2 hR, ro_32_0 hR, ro_32_1 hR, ro_34_10 hR, ro_34_11 hR, ro_34_12 hR, ro_34_13 hR, ro_39_0 hR, ro_39_1 hR, ro_42_0 hR, ro_42_1 hR, ro_47_0 hR, ro_47_1 hR, ro_47_2 hR, ro_47_3 hR, ro_55_0 hR, ro_55_1 hR, ro_55_2 hR, ro_57_0 hR, ro_57_1 hR, ro_57_2 hR, ro_57_3 hR, ro_57_4 hR, ro_57_5 hR, ro_57_8 hR, sh_0, sh_1, sh_2, sh_3, sh_4, sh_5, sh_6, sh_7, sh_8, sh_9, sh_10, sh_11, sh_12, sh_13, sh_14, sh_15, sh_16, sh_17, sh_18, sh_19, sh_20, sh_21, sh_22, sh_23, sh_24, sh_25, sh_26, sh_27, sh_28, sh_29, sh_30, sh_31, sh_32, sh_33, sh_34, sh_35, sh_36, sh_37, sh_38, sh_39, sh_40, sh_41, sh_42, sh_43, sh_44, sh_45, sh_46, sh_47, sh_48, sh_49, sh_50, sh_51, sh_52, sh_53, sh_54, sh_55, sh_56, sh_57, sh_58, sh_59, sh_60, sh_61, sh_62, sh_63, sh_64, sh_65, sh_66, sh_67, sh_68, hl, hvw9, Nat.reduceLT, Nat.reduceAdd, Nat.reduceMul, ne_eq, Nat.reduceEqDiff, not_false_eq_true, or_true, true_or, or_false, false_or, and_true, true_and, and_self, Nat.reduceLeDiff, am_ci, am_cr, am_cn0, Option.toList_some, Option.toList_none, List.cons_append, List.nil_append, am_s0, am_s1, am_s1r, am_s2, am_s2r, am_s3r, nI_add, am_u_ne, am_u_at, am_u_n1, am_u_n2, am_w_ne]
      refine ih (i + 1) (by omega) ?_
      by_cases e : i = wIx l
      · exact absurd (by rw [e]; exact wIx_at (by omega)) hc
      · omega
theorem c_letters {p : Nat} (hR : am_OR R) (hN : 116 ≤ n) (hn : n ≤ 1000) (hW : relW L) (H : tkA I R x p) (h5 : I 15 9 = nI p) (hv : L 15 10 = lN 0) (hQ : ∀ I' L', am_ag tkP I I' → agL L L' → tkA I' R x (rn x (xL x) p) → I' 15 9 = nI p → I' 15 8 = nI (if 8 < rn x (xL x) p - p then 23 else wIx (nmX x p (rn x (xL x) p))) → L' 15 10 = lN (cdW 32 (nmX x p (rn x (xL x) p))) → Q none (n, I', L', R)) : am_E X d mX11_cutLetters 0 [some (.ref 15), none] [] (n, I, L, R) Q := by
  have hl := am_lt hN
  have hvw9 := am_lw hN
  refine l_letters (p := p) (I := I) (L := L) hR hN hn (x.1 - p) p I L rfl (Nat.le_refl _) am_ag.refl agL.refl H h5 (by rw [hv, nmX_0]; rfl) (fun I1 L1 g1 k1 H1 q5 q7 => ?_)
  obtain ⟨h1, h2, h3, h4, h6⟩ := id H1
  have hge := rn_ge (x := x) (p := xL x) (i := p)
  have hT := h4.1
  have s1 : nI (rn x (xL x) p) - nI p = nI (rn x (xL x) p - p) := pk_sub hge
  simp only [am_lv_of, rX11_cutLetters_76, rX11_cutLetters_77, rX11_cutLetters_78, rX11_cutLetters_81, rX11_cutLetters_82, rX11_cutLetters_85, rX11_cutLetters_86, ro_0_0 hR, ro_0_3 hR, ro_0_4 hR, ro_0_5 hR, ro_0_6 hR, ro_0_7 hR, ro_0_8 hR, ro_0_9 hR, ro_0_10 hR, ro_0_11 hR, ro_2_6 hR, ro_2_7 hR, ro_2_8 hR, ro_2_9 hR, ro_2_10 hR, ro_2_11 hR, ro_2_12 hR, ro_2_13 hR, ro_9_0 hR, ro_9_1 hR, ro_9_2 hR, ro_14_0 hR, ro_14_1 hR, ro_14_2 hR, ro_14_7 hR, ro_15_0 hR, ro_15_1 hR, ro_15_2 hR, ro_15_3 hR, ro_20_6 hR, ro_20_7 hR, ro_20_8 hR, ro_20_9 hR, ro_20_10 hR, ro_20_11 hR, ro_20_12 hR, ro_20_13 hR, ro_27_0 hR, ro_27_1 hR, ro_27_2 hR, ro_32_0 hR, ro_32_1 hR, ro_34_10 hR, ro_34_11 hR, ro_34_12 hR, ro_34_13 hR, ro_39_0 hR, ro_39_1 hR, ro_42_0 hR, ro_42_1 hR, ro_47_0 hR, ro_47_1 hR, ro_47_2 hR, ro_47_3 hR, ro_55_0 hR, ro_55_1 hR, ro_55_2 hR, ro_57_0 hR, ro_57_1 hR, ro_57_2 hR, ro_57_3 hR, ro_57_4 hR, ro_57_5 hR, ro_57_8 hR, sh_0, sh_1, sh_2, sh_3, sh_4, sh_5, sh_6, sh_7, sh_8, sh_9, sh_10, sh_11, sh_12, sh_13, sh_14, sh_15, sh_16, sh_17, sh_18, sh_19, sh_20, sh_21, sh_22, sh_23, sh_24, sh_25, sh_26, sh_27, sh_28, sh_29, sh_30, sh_31, sh_32, sh_33, sh_34, sh_35, sh_36, sh_37, sh_38, sh_39, sh_40, sh_41, sh_42, sh_43, sh_44, sh_45, sh_46, sh_47, sh_48, sh_49, sh_50, sh_51, sh_52, sh_53, sh_54, sh_55, sh_56, sh_57, sh_58, sh_59, sh_60, sh_61, sh_62, sh_63, sh_64, sh_65, sh_66, sh_67, sh_68, hl, hvw9, Nat.reduceLT, Nat.reduceAdd, Nat.reduceMul, ne_eq, Nat.reduceEqDiff, not_false_eq_true, or_true, true_or, or_false, false_or, and_true, true_and, and_self, Nat.reduceLeDiff, am_ci, am_cr, am_cn0, Option.toList_some, Option.toList_none, List.cons_append, List.nil_append, am_s0, am_s1, am_s1r, am_s2, am_s2r, am_s3r, nI_add, am_u_ne, am_u_at, am_u_n1, am_u_n2, am_w_ne, h2, q5, s1, rX11_cutLetters_88]
  by_cases hc : 8 < rn x (xL x) p - p
  · have c1 : ¬ nI (rn x (xL x) p - p) ≤ nI 8 := nI_ge hc (by omega)
    have c2 : ¬ nI 20 ≤ nI 0 := by decide
    have c3 : ¬ nI 23 = nI 20 := by decide
    simp only [am_lv_of, c1, ↓reduceIte, rX11_cutLetters_91, rX11_cutLetters_93, rX11_cutLetters_98, rX11_cutLetters_101, rX11_cutLetters_102, rX11_cutLetters_103, rX11_cutLetters_104, rX11_cutLetters_105, rX11_cutLetters_108, rX11_cutLetters_109, rX11_cutLetters_112, rX11_cutLetters_113, rX11_cutLetters_116, rX11_cutLetters_118, rX11_cutLetters_146, ro_0_0 hR, ro_0_3 hR, ro_0_4 hR, ro_0_5 hR, ro_0_6 hR, ro_0_7 hR, ro_0_8 hR, ro_0_9 hR, ro_0_10 hR, ro_0_11 hR, ro_2_6 hR, ro_2_7 hR, ro_2_8 hR, ro_2_9 hR, ro_2_10 hR, ro_2_11 hR, ro_2_12 hR, ro_2_13 hR, ro_9_0 hR, ro_9_1 hR, ro_9_2 hR, ro_14_0 hR, ro_14_1 hR, ro_14_2 hR, ro_14_7 hR, ro_15_0 hR, ro_15_1 hR, ro_15_2 hR, ro_15_3 hR, ro_20_6 hR, ro_20_7 hR, ro_20_8 hR, ro_20_9 hR, ro_20_10 hR, ro_20_11 hR, ro_20_12 hR, ro_20_13 hR, ro_27_0 hR, ro_27_1 hR, ro_27_2 hR, ro_32_0 hR, ro_32_1 hR, ro_34_10 hR, ro_34_11 hR, ro_34_12 hR, ro_34_13 hR, ro_39_0 hR, ro_39_1 hR, ro_42_0 hR, ro_42_1 hR, ro_47_0 hR, ro_47_1 hR, ro_47_2 hR, ro_47_3 hR, ro_55_0 hR, ro_55_1 hR, ro_55_2 hR, ro_57_0 hR, ro_57_1 hR, ro_57_2 hR, ro_57_3 hR, ro_57_4 hR, ro_57_5 hR, ro_57_8 hR, sh_0, sh_1, sh_2, sh_3, sh_4, sh_5, sh_6, sh_7, sh_8, sh_9, sh_10, sh_11, sh_12, sh_13, sh_14, sh_15, sh_16, sh_17, sh_18, sh_19, sh_20, sh_21, sh_22, sh_23, sh_24, sh_25, sh_26, sh_27, sh_28, sh_29, sh_30, sh_31, sh_32, sh_33, sh_34, sh_35, sh_36, sh_37, sh_38, sh_39, sh_40, sh_41, sh_42, sh_43, sh_44, sh_45, sh_46, sh_47, sh_48, sh_49, sh_50, sh_51, sh_52, sh_53, sh_54, sh_55, sh_56, sh_57, sh_58, sh_59, sh_60, sh_61, sh_62, sh_63, sh_64, sh_65, sh_66, sh_67, sh_68, hl, hvw9, Nat.reduceLT, Nat.reduceAdd, Nat.reduceMul, ne_eq, Nat.reduceEqDiff, not_false_eq_true, or_true, true_or, or_false, false_or, and_true, true_and, and_self, Nat.reduceLeDiff, am_ci, am_cr, am_cn0, Option.toList_some, Option.toList_none, List.cons_append, List.nil_append, am_s0, am_s1, am_s1r, am_s2, am_s2r, am_s3r, nI_add, am_u_ne, am_u_at, am_u_n1, am_u_n2, am_w_ne, hn, c2, c3, not_false_eq_true]
    refine hQ _ L1 (g1.u ⟨rfl, by omega, by omega⟩) k1 ⟨?_, ?_, h3, h4.ag (fun j => am_u_n1 (by omega)), h6⟩ ?_ (by rw [am_u_at, if_pos hc]) q7
    · rw [am_u_n2 (by omega)]; exact h1
    · rw [am_u_n2 (by omega)]; exact h2
    · rw [am_u_n2 (by omega)]; exact q5
  · have c1 : nI (rn x (xL x) p - p) ≤ nI 8 := nI_le (by omega) (by omega)
    rw [if_neg hc] at hQ
    simp only [am_lv_of, c1, ↓reduceIte, rX11_cutLetters_96, rX11_cutLetters_98, rX11_cutLetters_101, rX11_cutLetters_102, ro_0_0 hR, ro_0_3 hR, ro_0_4 hR, ro_0_5 hR, ro_0_6 hR, ro_0_7 hR, ro_0_8 hR, ro_0_9 hR, ro_0_10 hR, ro_0_11 hR, ro_2_6 hR, ro_2_7 hR, ro_2_8 hR, ro_2_9 hR, ro_2_10 hR, ro_2_11 hR, ro_2_12 hR, ro_2_13 hR, ro_9_0 hR, ro_9_1 hR, ro_9_2 hR, ro_14_0 hR, ro_14_1 hR, ro_14_2 hR, ro_14_7 hR, ro_15_0 hR, ro_15_1 hR, ro_15_2 hR, ro_15_3 hR, ro_20_6 hR, ro_20_7 hR, ro_20_8 hR, ro_20_9 hR, ro_20_10 hR, ro_20_11 hR, ro_20_12 hR, ro_20_13 hR, ro_27_0 hR, ro_27_1 hR, ro_27_2 hR, ro_32_0 hR, ro_32_1 hR, ro_34_10 hR, ro_34_11 hR, ro_34_12 hR, ro_34_13 hR, ro_39_0 hR, ro_39_1 hR, ro_42_0 hR, ro_42_1 hR, ro_47_0 hR, ro_47_1 hR, ro_47_2 hR, ro_47_3 hR, ro_55_0 hR, ro_55_1 hR, ro_55_2 hR, ro_57_0 hR, ro_57_1 hR, ro_57_2 hR, ro_57_3 hR, ro_57_4 hR, ro_57_5 hR, ro_57_8 hR, sh_0, sh_1, sh_2, sh_3, sh_4, sh_5, sh_6, sh_7, sh_8, sh_9, sh_10, sh_11, sh_12, sh_13, sh_14, sh_15, sh_16, sh_17, sh_18, sh_19, sh_20, sh_21, sh_22, sh_23, sh_24, sh_25, sh_26, sh_27, sh_28, sh_29, sh_30, sh_31, sh_32, sh_33, sh_34, sh_35, sh_36, sh_37, sh_38, sh_39, sh_40, sh_41, sh_42, sh_43, sh_44, sh_45, sh_46, sh_47, sh_48, sh_49, sh_50, sh_51, sh_52, sh_53, sh_54, sh_55, sh_56, sh_57, sh_58, sh_59, sh_60, sh_61, sh_62, sh_63, sh_64, sh_65, sh_66, sh_67, sh_68, hl, hvw9, Nat.reduceLT, Nat.reduceAdd, Nat.reduceMul, ne_eq, Nat.reduceEqDiff, not_false_eq_true, or_true, true_or, or_false, false_or, and_true, true_and, and_self, Nat.reduceLeDiff, am_ci, am_cr, am_cn0, Option.toList_some, Option.toList_none, List.cons_append, List.nil_append, am_s0, am_s1, am_s1r, am_s2, am_s2r, am_s3r, nI_add, am_u_ne, am_u_at, am_u_n1, am_u_n2, am_w_ne, hn]
    refine l_words (l := nmX x p (rn x (xL x) p)) hR hN hn (hW.ag k1) q7 nmX_ok (by rw [nmX_len]; omega) am_u_at (fun I2 g2 q4 => ?_) 20 0 (by omega) (Nat.zero_le _)
    have e : ∀ k j, ¬ (k = 15 ∧ j = 8) → I2 k j = I1 k j := fun k j hk => by
      rw [g2 k j hk]
      by_cases e : k = 15
      · subst e; exact am_u_n2 (fun z => hk ⟨rfl, z⟩)
      · exact am_u_n1 e
    refine hQ I2 L1 (g1.trans (fun k j hk => e k j (fun z => hk (by unfold tkP; omega)))) k1 ⟨by rw [e 15 5 (by omega)]; exact h1, by rw [e 15 6 (by omega)]; exact h2, h3, h4.ag (fun j => e 1 j (by omega)), h6⟩ (by rw [e 15 9 (by omega)]; exact q5) q4 q7
theorem c_digits {p : Nat} (hR : am_OR R) (hN : 116 ≤ n) (hn : n ≤ 1000) (H : tkA I R x p) (h5 : I 15 9 = nI p) (hv : L 15 10 = lN 0) (hQ : ∀ I' L', am_ag tkP I I' → agL L L' → tkA I' R x (rn x (xD x) p) → I' 15 9 = nI p → I' 15 8 = nI (if 4 < rn x (xD x) p - p then 23 else 21) → L' 15 10 = lN (cdW 10 (dgX x p (rn x (xD x) p))) → Q none (n, I', L', R)) : am_E X d mX11_cutDigits 0 [some (.ref 15)] [] (n, I, L, R) Q := by
  have hl := am_lt hN
  have hvw9 := am_lw hN
  obtain ⟨a1, a2, a3, a4, a5⟩ := id H
  refine l_digits (p := p) (I := I) (L := L) hR hN hn (x.1 - p) p I L rfl (Nat.le_refl _) am_ag.refl agL.refl H h5 (by rw [hv, dgX_0]; rfl) (fun I1 L1 g1 k1 H1 q5 q6 => ?_)
  obtain ⟨h1, h2, h3, h4, h6⟩ := id H1
  have hge := rn_ge (x := x) (p := xD x) (i := p)
  have hT := h4.1
  have s1 : nI (rn x (xD x) p) - nI p = nI (rn x (xD x) p - p) := pk_sub hge
  simp only [am_lv_of, rX11_cutDigits_78, rX11_cutDigits_79, rX11_cutDigits_80, rX11_cutDigits_83, rX11_cutDigits_84, rX11_cutDigits_87, rX11_cutDigits_88, ro_0_0 hR, ro_0_3 hR, ro_0_4 hR, ro_0_5 hR, ro_0_6 hR, ro_0_7 hR, ro_0_8 hR, ro_0_9 hR, ro_0_10 hR, ro_0_11 hR, ro_2_6 hR, ro_2_7 hR, ro_2_8 hR, ro_2_9 hR, ro_2_10 hR, ro_2_11 hR, ro_2_12 hR, ro_2_13 hR, ro_9_0 hR, ro_9_1 hR, ro_9_2 hR, ro_14_0 hR, ro_14_1 hR, ro_14_2 hR, ro_14_7 hR, ro_15_0 hR, ro_15_1 hR, ro_15_2 hR, ro_15_3 hR, ro_20_6 hR, ro_20_7 hR, ro_20_8 hR, ro_20_9 hR, ro_20_10 hR, ro_20_11 hR, ro_20_12 hR, ro_20_13 hR, ro_27_0 hR, ro_27_1 hR, ro_27_2 hR, ro_32_0 hR, ro_32_1 hR, ro_34_10 hR, ro_34_11 hR, ro_34_12 hR, ro_34_13 hR, ro_39_0 hR, ro_39_1 hR, ro_42_0 hR, ro_42_1 hR, ro_47_0 hR, ro_47_1 hR, ro_47_2 hR, ro_47_3 hR, ro_55_0 hR, ro_55_1 hR, ro_55_2 hR, ro_57_0 hR, ro_57_1 hR, ro_57_2 hR, ro_57_3 hR, ro_57_4 hR, ro_57_5 hR, ro_57_8 hR, sh_0, sh_1, sh_2, sh_3, sh_4, sh_5, sh_6, sh_7, sh_8, sh_9, sh_10, sh_11, sh_12, sh_13, sh_14, sh_15, sh_16, sh_17, sh_18, sh_19, sh_20, sh_21, sh_22, sh_23, sh_24, sh_25, sh_26, sh_27, sh_28, sh_29, sh_30, sh_31, sh_32, sh_33, sh_34, sh_35, sh_36, sh_37, sh_38, sh_39, sh_40, sh_41, sh_42, sh_43, sh_44, sh_45, sh_46, sh_47, sh_48, sh_49, sh_50, sh_51, sh_52, sh_53, sh_54, sh_55, sh_56, sh_57, sh_58, sh_59, sh_60, sh_61, sh_62, sh_63, sh_64, sh_65, sh_66, sh_67, sh_68, hl, hvw9, Nat.reduceLT, Nat.reduceAdd, Nat.reduceMul, ne_eq, Nat.reduceEqDiff, not_false_eq_true, or_true, true_or, or_false, false_or, and_true, true_and, and_self, Nat.reduceLeDiff, am_ci, am_cr, am_cn0, Option.toList_some, Option.toList_none, List.cons_append, List.nil_append, am_s0, am_s1, am_s1r, am_s2, am_s2r, am_s3r, nI_add, am_u_ne, am_u_at, am_u_n1, am_u_n2, am_w_ne, h2, q5, s1, rX11_cutDigits_89]
  by_cases hc : 4 < rn x (xD x) p - p
  · have c1 : ¬ nI (rn x (xD x) p - p) ≤ nI 4 := nI_ge hc (by omega)
    simp only [am_lv_of, c1, ↓reduceIte, rX11_cutDigits_92, rX11_cutDigits_94, rX11_cutDigits_99, rX11_cutDigits_102, ro_0_0 hR, ro_0_3 hR, ro_0_4 hR, ro_0_5 hR, ro_0_6 hR, ro_0_7 hR, ro_0_8 hR, ro_0_9 hR, ro_0_10 hR, ro_0_11 hR, ro_2_6 hR, ro_2_7 hR, ro_2_8 hR, ro_2_9 hR, ro_2_10 hR, ro_2_11 hR, ro_2_12 hR, ro_2_13 hR, ro_9_0 hR, ro_9_1 hR, ro_9_2 hR, ro_14_0 hR, ro_14_1 hR, ro_14_2 hR, ro_14_7 hR, ro_15_0 hR, ro_15_1 hR, ro_15_2 hR, ro_15_3 hR, ro_20_6 hR, ro_20_7 hR, ro_20_8 hR, ro_20_9 hR, ro_20_10 hR, ro_20_11 hR, ro_20_12 hR, ro_20_13 hR, ro_27_0 hR, ro_27_1 hR, ro_27_2 hR, ro_32_0 hR, ro_32_1 hR, ro_34_10 hR, ro_34_11 hR, ro_34_12 hR, ro_34_13 hR, ro_39_0 hR, ro_39_1 hR, ro_42_0 hR, ro_42_1 hR, ro_47_0 hR, ro_47_1 hR, ro_47_2 hR, ro_47_3 hR, ro_55_0 hR, ro_55_1 hR, ro_55_2 hR, ro_57_0 hR, ro_57_1 hR, ro_57_2 hR, ro_57_3 hR, ro_57_4 hR, ro_57_5 hR, ro_57_8 hR, sh_0, sh_1, sh_2, sh_3, sh_4, sh_5, sh_6, sh_7, sh_8, sh_9, sh_10, sh_11, sh_12, sh_13, sh_14, sh_15, sh_16, sh_17, sh_18, sh_19, sh_20, sh_21, sh_22, sh_23, sh_24, sh_25, sh_26, sh_27, sh_28, sh_29, sh_30, sh_31, sh_32, sh_33, sh_34, sh_35, sh_36, sh_37, sh_38, sh_39, sh_40, sh_41, sh_42, sh_43, sh_44, sh_45, sh_46, sh_47, sh_48, sh_49, sh_50, sh_51, sh_52, sh_53, sh_54, sh_55, sh_56, sh_57, sh_58, sh_59, sh_60, sh_61, sh_62, sh_63, sh_64, sh_65, sh_66, sh_67, sh_68, hl, hvw9, Nat.reduceLT, Nat.reduceAdd, Nat.reduceMul, ne_eq, Nat.reduceEqDiff, not_false_eq_true, or_true, true_or, or_false, false_or, and_true, true_and, and_self, Nat.reduceLeDiff, am_ci, am_cr, am_cn0, Option.toList_some, Option.toList_none, List.cons_append, List.nil_append, am_s0, am_s1, am_s1r, am_s2, am_s2r, am_s3r, nI_add, am_u_ne, am_u_at, am_u_n1, am_u_n2, am_w_ne, hn]
    refine hQ _ L1 (g1.u ⟨rfl, by omega, by omega⟩) k1 ⟨?_, ?_, h3, h4.ag (fun j => am_u_n1 (by omega)), h6⟩ ?_ (by rw [am_u_at, if_pos hc]) q6
    · rw [am_u_n2 (by omega)]; exact h1
    · rw [am_u_n2 (by omega)]; exact h2
    · rw [am_u_n2 (by omega)]; exact q5
  · have c1 : nI (rn x (xD x) p - p) ≤ nI 4 := nI_le (by omega) (by omega)
    simp only [am_lv_of, c1, ↓reduceIte, rX11_cutDigits_97, rX11_cutDigits_99, rX11_cutDigits_102, ro_0_0 hR, ro_0_3 hR, ro_0_4 hR, ro_0_5 hR, ro_0_6 hR, ro_0_7 hR, ro_0_8 hR, ro_0_9 hR, ro_0_10 hR, ro_0_11 hR, ro_2_6 hR, ro_2_7 hR, ro_2_8 hR, ro_2_9 hR, ro_2_10 hR, ro_2_11 hR, ro_2_12 hR, ro_2_13 hR, ro_9_0 hR, ro_9_1 hR, ro_9_2 hR, ro_14_0 hR, ro_14_1 hR, ro_14_2 hR, ro_14_7 hR, ro_15_0 hR, ro_15_1 hR, ro_15_2 hR, ro_15_3 hR, ro_20_6 hR, ro_20_7 hR, ro_20_8 hR, ro_20_9 hR, ro_20_10 hR, ro_20_11 hR, ro_20_12 hR, ro_20_13 hR, ro_27_0 hR, ro_27_1 hR, ro_27_2 hR, ro_32_0 hR, ro_32_1 hR, ro_34_10 hR, ro_34_11 hR, ro_34_12 hR, ro_34_13 hR, ro_39_0 hR, ro_39_1 hR, ro_42_0 hR, ro_42_1 hR, ro_47_0 hR, ro_47_1 hR, ro_47_2 hR, ro_47_3 hR, ro_55_0 hR, ro_55_1 hR, ro_55_2 hR, ro_57_0 hR, ro_57_1 hR, ro_57_2 hR, ro_57_3 hR, ro_57_4 hR, ro_57_5 hR, ro_57_8 hR, sh_0, sh_1, sh_2, sh_3, sh_4, sh_5, sh_6, sh_7, sh_8, sh_9, sh_10, sh_11, sh_12, sh_13, sh_14, sh_15, sh_16, sh_17, sh_18, sh_19, sh_20, sh_21, sh_22, sh_23, sh_24, sh_25, sh_26, sh_27, sh_28, sh_29, sh_30, sh_31, sh_32, sh_33, sh_34, sh_35, sh_36, sh_37, sh_38, sh_39, sh_40, sh_41, sh_42, sh_43, sh_44, sh_45, sh_46, sh_47, sh_48, sh_49, sh_50, sh_51, sh_52, sh_53, sh_54, sh_55, sh_56, sh_57, sh_58, sh_59, sh_60, sh_61, sh_62, sh_63, sh_64, sh_65, sh_66, sh_67, sh_68, hl, hvw9, Nat.reduceLT, Nat.reduceAdd, Nat.reduceMul, ne_eq, Nat.reduceEqDiff, not_false_eq_true, or_true, true_or, or_false, false_or, and_true, true_and, and_self, Nat.reduceLeDiff, am_ci, am_cr, am_cn0, Option.toList_some, Option.toList_none, List.cons_append, List.nil_append, am_s0, am_s1, am_s1r, am_s2, am_s2r, am_s3r, nI_add, am_u_ne, am_u_at, am_u_n1, am_u_n2, am_w_ne, hn]
    refine hQ _ L1 (g1.u ⟨rfl, by omega, by omega⟩) k1 ⟨?_, ?_, h3, h4.ag (fun j => am_u_n1 (by omega)), h6⟩ ?_ (by rw [am_u_at, if_neg hc]) q6
    · rw [am_u_n2 (by omega)]; exact h1
    · rw [am_u_n2 (by omega)]; exact h2
    · rw [am_u_n2 (by omega)]; exact q5
/-- the class stands at the token that begins at position i -/
def tkT (I : Nat → Nat → Int32) (L : Nat → Nat → Int64) (R : Nat → Nat → Option Nat) (x : txt) (i : Nat) : Prop := tkA I R x (tN x i) ∧ I 15 8 = nI (tK x i) ∧ I 15 9 = nI (tP x i) ∧ (tK x i = 21 → L 15 10 = lN (tV x i)) ∧ (tK x i ≤ 20 → L 15 10 = lN (cdW 32 (tM x i)))
theorem c_cutOne {i : Nat} (hR : am_OR R) (hN : 116 ≤ n) (hn : n ≤ 1000) (hW : relW L) (H : tkA I R x i) (hQ : ∀ I' L', am_ag tkP I I' → agL L L' → tkT I' L' R x i → Q none (n, I', L', R)) : am_E X (d + 5) mX11_cutOne 0 [some (.ref 15), none] [] (n, I, L, R) Q := by
  have hl := am_lt hN
  have hvw9 := am_lw hN
  refine l_skipB (I := I) hR hN hn (x.1 - i) i I rfl am_ag.refl H (fun I1 g1 H1 => ?_)
  obtain ⟨h1, h2, h3, h4, h6⟩ := id H1
  have hT := h4.1
  have hp : rn x (xB x) i = tP x i := rfl
  rw [hp] at h2 h6
  simp only [am_lv_of, rX11_cutOne_39, rX11_cutOne_40, rX11_cutOne_41, rX11_cutOne_44, rX11_cutOne_47, rX11_cutOne_48, rX11_cutOne_49, rX11_cutOne_52, rX11_cutOne_53, rX11_cutOne_56, rX11_cutOne_57, ro_0_0 hR, ro_0_3 hR, ro_0_4 hR, ro_0_5 hR, ro_0_6 hR, ro_0_7 hR, ro_0_8 hR, ro_0_9 hR, ro_0_10 hR, ro_0_11 hR, ro_2_6 hR, ro_2_7 hR, ro_2_8 hR, ro_2_9 hR, ro_2_10 hR, ro_2_11 hR, ro_2_12 hR, ro_2_13 hR, ro_9_0 hR, ro_9_1 hR, ro_9_2 hR, ro_14_0 hR, ro_14_1 hR, ro_14_2 hR, ro_14_7 hR, ro_15_0 hR, ro_15_1 hR, ro_15_2 hR, ro_15_3 hR, ro_20_6 hR, ro_20_7 hR, ro_20_8 hR, ro_20_9 hR, ro_20_10 hR, ro_20_11 hR, ro_20_12 hR, ro_20_13 hR, ro_27_0 hR, ro_27_1 hR, ro_27_2 hR, ro_32_0 hR, ro_32_1 hR, ro_34_10 hR, ro_34_11 hR, ro_34_12 hR, ro_34_13 hR, ro_39_0 hR, ro_39_1 hR, ro_42_0 hR, ro_42_1 hR, ro_47_0 hR, ro_47_1 hR, ro_47_2 hR, ro_47_3 hR, ro_55_0 hR, ro_55_1 hR, ro_55_2 hR, ro_57_0 hR, ro_57_1 hR, ro_57_2 hR, ro_57_3 hR, ro_57_4 hR, ro_57_5 hR, ro_57_8 hR, sh_0, sh_1, sh_2, sh_3, sh_4, sh_5, sh_6, sh_7, sh_8, sh_9, sh_10, sh_11, sh_12, sh_13, sh_14, sh_15, sh_16, sh_17, sh_18, sh_19, sh_20, sh_21, sh_22, sh_23, sh_24, sh_25, sh_26, sh_27, sh_28, sh_29, sh_30, sh_31, sh_32, sh_33, sh_34, sh_35, sh_36, sh_37, sh_38, sh_39, sh_40, sh_41, sh_42, sh_43, sh_44, sh_45, sh_46, sh_47, sh_48, sh_49, sh_50, sh_51, sh_52, sh_53, sh_54, sh_55, sh_56, sh_57, sh_58, sh_59, sh_60, sh_61, sh_62, sh_63, sh_64, sh_65, sh_66, sh_67, sh_68, hl, hvw9, Nat.reduceLT, Nat.reduceAdd, Nat.reduceMul, ne_eq, Nat.reduceEqDiff, not_false_eq_true, or_true, true_or, or_false, false_or, and_true, true_and, and_self, Nat.reduceLeDiff, am_ci, am_cr, am_cn0, Option.toList_some, Option.toList_none, List.cons_append, List.nil_append, am_s0, am_s1, am_s1r, am_s2, am_s2r, am_s3r, nI_add, am_u_ne, am_u_at, am_u_n1, am_u_n2, am_w_ne, hn, h1, h2, rX11_cutOne_60]
  have hW2 : relW (am_u L 15 10 0) := hW.ag agL.refl.u
  have hv : am_u L 15 10 0 15 10 = lN 0 := by rw [am_u_at]; rfl
  have hA : agL L (am_u L 15 10 0) := agL.refl.u
  generalize am_u L 15 10 0 = L2 at hW2 hv hA ⊢
  have g2 : am_ag tkP I (am_u I1 15 9 (nI (tP x i))) := g1.u ⟨rfl, by omega, by omega⟩
  have H2 : tkA (am_u I1 15 9 (nI (tP x i))) R x (tP x i) := ⟨by rw [am_u_n2 (by omega)]; exact h1, by rw [am_u_n2 (by omega)]; exact h2, h3, h4.ag (fun j => am_u_n1 (by omega)), h6⟩
  have q5 : am_u I1 15 9 (nI (tP x i)) 15 9 = nI (tP x i) := am_u_at
  generalize am_u I1 15 9 (nI (tP x i)) = I2 at g2 H2 q5 ⊢
  obtain ⟨k1, k2, k3, k4, k6⟩ := id H2
  by_cases hE : x.1 ≤ tP x i
  · have c1 : ¬ nI (tP x i) < nI x.1 := nI_nlt hE (by omega)
    simp only [am_lv_of, c1, ↓reduceIte, rX11_cutOne_63, rX11_cutOne_64, rX11_cutOne_66, rX11_cutOne_69, rX11_cutOne_186, ro_0_0 hR, ro_0_3 hR, ro_0_4 hR, ro_0_5 hR, ro_0_6 hR, ro_0_7 hR, ro_0_8 hR, ro_0_9 hR, ro_0_10 hR, ro_0_11 hR, ro_2_6 hR, ro_2_7 hR, ro_2_8 hR, ro_2_9 hR, ro_2_10 hR, ro_2_11 hR, ro_2_12 hR, ro_2_13 hR, ro_9_0 hR, ro_9_1 hR, ro_9_2 hR, ro_14_0 hR, ro_14_1 hR, ro_14_2 hR, ro_14_7 hR, ro_15_0 hR, ro_15_1 hR, ro_15_2 hR, ro_15_3 hR, ro_20_6 hR, ro_20_7 hR, ro_20_8 hR, ro_20_9 hR, ro_20_10 hR, ro_20_11 hR, ro_20_12 hR, ro_20_13 hR, ro_27_0 hR, ro_27_1 hR, ro_27_2 hR, ro_32_0 hR, ro_32_1 hR, ro_34_10 hR, ro_34_11 hR, ro_34_12 hR, ro_34_13 hR, ro_39_0 hR, ro_39_1 hR, ro_42_0 hR, ro_42_1 hR, ro_47_0 hR, ro_47_1 hR, ro_47_2 hR, ro_47_3 hR, ro_55_0 hR, ro_55_1 hR, ro_55_2 hR, ro_57_0 hR, ro_57_1 hR, ro_57_2 hR, ro_57_3 hR, ro_57_4 hR, ro_57_5 hR, ro_57_8 hR, sh_0, sh_1, sh_2, sh_3, sh_4, sh_5, sh_6, sh_7, sh_8, sh_9, sh_10, sh_11, sh_12, sh_13, sh_14, sh_15, sh_16, sh_17, sh_18, sh_19, sh_20, sh_21, sh_22, sh_23, sh_24, sh_25, sh_26, sh_27, sh_28, sh_29, sh_30, sh_31, sh_32, sh_33, sh_34, sh_35, sh_36, sh_37, sh_38, sh_39, sh_40, sh_41, sh_42, sh_43, sh_44, sh_45, sh_46, sh_47, sh_48, sh_49, sh_50, sh_51, sh_52, sh_53, sh_54, sh_55, sh_56, sh_57, sh_58, sh_59, sh_60, sh_61, sh_62, sh_63, sh_64, sh_65, sh_66, sh_67, sh_68, hl, hvw9, Nat.reduceLT, Nat.reduceAdd, Nat.reduceMul, ne_eq, Nat.reduceEqDiff, not_false_eq_true, or_true, true_or, or_false, false_or, and_true, true_and, and_self, Nat.reduceLeDiff, am_ci, am_cr, am_cn0, Option.toList_some, Option.toList_none, List.cons_append, List.nil_append, am_s0, am_s1, am_s1r, am_s2, am_s2r, am_s3r, nI_add, am_u_ne, am_u_at, am_u_n1, am_u_n2, am_w_ne, hn]
    have eK : tK x i = 22 := by unfold tK; rw [if_pos hE]
    have eN : tN x i = tP x i := by unfold tN; rw [if_pos hE]
    refine hQ _ L2 (g2.u ⟨rfl, by omega, by omega⟩) hA ⟨?_, ?_, ?_, fun z => by omega, fun z => by omega⟩
    · rw [eN]
      exact ⟨by rw [am_u_n2 (by omega)]; exact k1, by rw [am_u_n2 (by omega)]; exact k2, k3, k4.ag (fun j => am_u_n1 (by omega)), k6⟩
    · rw [am_u_at, eK]
    · rw [am_u_n2 (by omega)]; exact q5
  · have c1 : nI (tP x i) < nI x.1 := nI_lt (by omega) (by omega)
    have p2 : tP x i < 2000 := by omega
    obtain ⟨b1, b2⟩ := k4.2 (tP x i) (by omega)
    have lo := cdB_lo b1 (a := 97) (by omega)
    have hi := cdB_hi b1 (a := 122) (by omega)
    have lo2 := cdB_lo b1 (a := 48) (by omega)
    have hi2 := cdB_hi b1 (a := 57) (by omega)
    rw [← b2] at lo hi lo2 hi2
    by_cases hLt : xL x (tP x i) = true
    · have hb2 := (of_decide_eq_true hLt).2
      have m1 : ¬ I2 1 (tP x i) < nI 97 := fun z => lo.mp z ⟨hb2.1, by omega⟩
      have m2 : ¬ nI 122 < I2 1 (tP x i) := fun z => by have := hi.mp z; omega
      simp only [am_lv_of, c1, ↓reduceIte, rX11_cutOne_72, rX11_cutOne_73, rX11_cutOne_76, rX11_cutOne_77, rX11_cutOne_80, rX11_cutOne_81, rX11_cutOne_83, rX11_cutOne_86, rX11_cutOne_87, rX11_cutOne_90, rX11_cutOne_91, rX11_cutOne_94, rX11_cutOne_95, rX11_cutOne_97, rX11_cutOne_100, rX11_cutOne_101, ro_0_0 hR, ro_0_3 hR, ro_0_4 hR, ro_0_5 hR, ro_0_6 hR, ro_0_7 hR, ro_0_8 hR, ro_0_9 hR, ro_0_10 hR, ro_0_11 hR, ro_2_6 hR, ro_2_7 hR, ro_2_8 hR, ro_2_9 hR, ro_2_10 hR, ro_2_11 hR, ro_2_12 hR, ro_2_13 hR, ro_9_0 hR, ro_9_1 hR, ro_9_2 hR, ro_14_0 hR, ro_14_1 hR, ro_14_2 hR, ro_14_7 hR, ro_15_0 hR, ro_15_1 hR, ro_15_2 hR, ro_15_3 hR, ro_20_6 hR, ro_20_7 hR, ro_20_8 hR, ro_20_9 hR, ro_20_10 hR, ro_20_11 hR, ro_20_12 hR, ro_20_13 hR, ro_27_0 hR, ro_27_1 hR, ro_27_2 hR, ro_32_0 hR, ro_32_1 hR, ro_34_10 hR, ro_34_11 hR, ro_34_12 hR, ro_34_13 hR, ro_39_0 hR, ro_39_1 hR, ro_42_0 hR, ro_42_1 hR, ro_47_0 hR, ro_47_1 hR, ro_47_2 hR, ro_47_3 hR, ro_55_0 hR, ro_55_1 hR, ro_55_2 hR, ro_57_0 hR, ro_57_1 hR, ro_57_2 hR, ro_57_3 hR, ro_57_4 hR, ro_57_5 hR, ro_57_8 hR, sh_0, sh_1, sh_2, sh_3, sh_4, sh_5, sh_6, sh_7, sh_8, sh_9, sh_10, sh_11, sh_12, sh_13, sh_14, sh_15, sh_16, sh_17, sh_18, sh_19, sh_20, sh_21, sh_22, sh_23, sh_24, sh_25, sh_26, sh_27, sh_28, sh_29, sh_30, sh_31, sh_32, sh_33, sh_34, sh_35, sh_36, sh_37, sh_38, sh_39, sh_40, sh_41, sh_42, sh_43, sh_44, sh_45, sh_46, sh_47, sh_48, sh_49, sh_50, sh_51, sh_52, sh_53, sh_54, sh_55, sh_56, sh_57, sh_58, sh_59, sh_60, sh_61, sh_62, sh_63, sh_64, sh_65, sh_66, sh_67, sh_68, hl, hvw9, Nat.reduceLT, Nat.reduceAdd, Nat.reduceMul, ne_eq, Nat.reduceEqDiff, not_false_eq_true, or_true, true_or, or_false, false_or, and_true, true_and, and_self, Nat.reduceLeDiff, am_ci, am_cr, am_cn0, Option.toList_some, Option.toList_none, List.cons_append, List.nil_append, am_s0, am_s1, am_s1r, am_s2, am_s2r, am_s3r, nI_add, am_u_ne, am_u_at, am_u_n1, am_u_n2, am_w_ne, k2, H2.rf, p2, m1, m2]
      refine c_letters (x := x) (p := tP x i) hR hN hn hW2 H2 q5 hv (fun I3 L3 g3 l3 H3 y5 y4 y7 => ?_)
      simp only [am_lv_of, Option.toList_none, List.nil_append, rX11_cutOne_104, rX11_cutOne_186]
      have eN : tN x i = rn x (xL x) (tP x i) := by unfold tN; rw [if_neg hE, if_pos hLt]
      have eK : tK x i = if 8 < rn x (xL x) (tP x i) - tP x i then 23 else wIx (nmX x (tP x i) (rn x (xL x) (tP x i))) := by unfold tK; rw [if_neg hE, if_pos hLt]; rfl
      have wl := wIx_le (nmX x (tP x i) (rn x (xL x) (tP x i)))
      refine hQ I3 L3 (g2.trans g3) (hA.trans l3) ⟨by rw [eN]; exact H3, by rw [eK]; exact y4, y5, fun z => ?_, fun _ => y7⟩
      rw [eK] at z
      split at z <;> omega
    · have hLf : xL x (tP x i) = false := by simpa using hLt
      have nl : ¬ (97 ≤ x.2 (tP x i) ∧ x.2 (tP x i) ≤ 122) := fun z => of_decide_eq_false hLf ⟨by omega, z⟩
      have toD : am_E X (d + 5) mX11_cutOne 107 [some (.ref 15), none] [] (n, I2, L2, R) Q := by
        by_cases hD : xD x (tP x i) = true
        · have hb2 := (of_decide_eq_true hD).2
          have m1 : ¬ I2 1 (tP x i) < nI 48 := fun z => lo2.mp z ⟨hb2.1, by omega⟩
          have m2 : ¬ nI 57 < I2 1 (tP x i) := fun z => by have := hi2.mp z; omega
          simp only [am_lv_of, ↓reduceIte, rX11_cutOne_107, rX11_cutOne_108, rX11_cutOne_111, rX11_cutOne_112, rX11_cutOne_115, rX11_cutOne_116, rX11_cutOne_118, rX11_cutOne_121, rX11_cutOne_122, rX11_cutOne_125, rX11_cutOne_126, rX11_cutOne_129, rX11_cutOne_130, rX11_cutOne_132, rX11_cutOne_135, rX11_cutOne_136, ro_0_0 hR, ro_0_3 hR, ro_0_4 hR, ro_0_5 hR, ro_0_6 hR, ro_0_7 hR, ro_0_8 hR, ro_0_9 hR, ro_0_10 hR, ro_0_11 hR, ro_2_6 hR, ro_2_7 hR, ro_2_8 hR, ro_2_9 hR, ro_2_10 hR, ro_2_11 hR, ro_2_12 hR, ro_2_13 hR, ro_9_0 hR, ro_9_1 hR, ro_9_2 hR, ro_14_0 hR, ro_14_1 hR, ro_14_2 hR, ro_14_7 hR, ro_15_0 hR, ro_15_1 hR, ro_15_2 hR, ro_15_3 hR, ro_20_6 hR, ro_20_7 hR, ro_20_8 hR, ro_20_9 hR, ro_20_10 hR, ro_20_11 hR, ro_20_12 hR, ro_20_13 hR, ro_27_0 hR, ro_27_1 hR, ro_27_2 hR, ro_32_0 hR, ro_32_1 hR, ro_34_10 hR, ro_34_11 hR, ro_34_12 hR, ro_34_13 hR, ro_39_0 hR, ro_39_1 hR, ro_42_0 hR, ro_42_1 hR, ro_47_0 hR, ro_47_1 hR, ro_47_2 hR, ro_47_3 hR, ro_55_0 hR, ro_55_1 hR, ro_55_2 hR, ro_57_0 hR, ro_57_1 hR, ro_57_2 hR, ro_57_3 hR, ro_57_4 hR, ro_57_5 hR, ro_57_8 hR, sh_0, sh_1, sh_2, sh_3, sh_4, sh_5, sh_6, sh_7, sh_8, sh_9, sh_10, sh_11, sh_12, sh_13, sh_14, sh_15, sh_16, sh_17, sh_18, sh_19, sh_20, sh_21, sh_22, sh_23, sh_24, sh_25, sh_26, sh_27, sh_28, sh_29, sh_30, sh_31, sh_32, sh_33, sh_34, sh_35, sh_36, sh_37, sh_38, sh_39, sh_40, sh_41, sh_42, sh_43, sh_44, sh_45, sh_46, sh_47, sh_48, sh_49, sh_50, sh_51, sh_52, sh_53, sh_54, sh_55, sh_56, sh_57, sh_58, sh_59, sh_60, sh_61, sh_62, sh_63, sh_64, sh_65, sh_66, sh_67, sh_68, hl, hvw9, Nat.reduceLT, Nat.reduceAdd, Nat.reduceMul, ne_eq, Nat.reduceEqDiff, not_false_eq_true, or_true, true_or, or_false, false_or, and_true, true_and, and_self, Nat.reduceLeDiff, am_ci, am_cr, am_cn0, Option.toList_some, Option.toList_none, List.cons_append, List.nil_append, am_s0, am_s1, am_s1r, am_s2, am_s2r, am_s3r, nI_add, am_u_ne, am_u_at, am_u_n1, am_u_n2, am_w_ne, k2, H2.rf, p2, m1, m2]
          refine c_digits (x := x) (p := tP x i) hR hN hn H2 q5 hv (fun I3 L3 g3 l3 H3 y5 y4 y6 => ?_)
          simp only [am_lv_of, Option.toList_none, List.nil_append, rX11_cutOne_139, rX11_cutOne_186]
          have eN : tN x i = rn x (xD x) (tP x i) := by unfold tN; rw [if_neg hE, if_neg hLt, if_pos hD]
          have eK : tK x i = if 4 < rn x (xD x) (tP x i) - tP x i then 23 else 21 := by unfold tK; rw [if_neg hE, if_neg hLt, if_pos hD]
          refine hQ I3 L3 (g2.trans g3) (hA.trans l3) ⟨by rw [eN]; exact H3, by rw [eK]; exact y4, y5, fun _ => y6, fun z => ?_⟩
          rw [eK] at z
          split at z <;> omega
        · have hDf : xD x (tP x i) = false := by simpa using hD
          have nd : ¬ (48 ≤ x.2 (tP x i) ∧ x.2 (tP x i) ≤ 57) := fun z => of_decide_eq_false hDf ⟨by omega, z⟩
          have eN : tN x i = tP x i + 1 := by unfold tN; rw [if_neg hE, if_neg hLt, if_neg hD]
          have eK : tK x i = if isSg (x.2 (tP x i)) = true then x.2 (tP x i) else 23 := by unfold tK; rw [if_neg hE, if_neg hLt, if_neg hD]
          have c256 : x.2 (tP x i) < 256 := by rw [b2]; exact cdB_lt _
          have eand : I2 1 (tP x i) &&& nI 255 = nI (x.2 (tP x i)) := by rw [cdB_and, b2]
          have ech : ((nI (x.2 (tP x i))).toUInt32 % 65536).toInt32 = nI (x.2 (tP x i)) := by
            rw [pk_char, pk_tn (by omega)]
            exact congrArg nI (by omega)
          have fin : ∀ kv, kv = tK x i → Q none (n, am_u (am_u I2 15 8 (nI kv)) 15 6 (nI (tP x i + 1)), L2, R) := fun kv hkv => by
            refine hQ _ L2 ((g2.u ⟨rfl, by omega, by omega⟩).u ⟨rfl, by omega, by omega⟩) hA ⟨⟨?_, ?_, k3, k4.ag (fun j => by rw [am_u_n1 (by omega), am_u_n1 (by omega)]), ?_⟩, ?_, ?_, fun z => ?_, fun z => ?_⟩
            · rw [am_u_n2 (by omega), am_u_n2 (by omega)]; exact k1
            · rw [am_u_at, eN]
            · rw [eN]; omega
            · rw [am_u_n2 (by omega), am_u_at, hkv]
            · rw [am_u_n2 (by omega), am_u_n2 (by omega)]; exact q5
            · rw [eK] at z
              split at z
              · next h4 => have := of_decide_eq_true h4; omega
              · omega
            · rw [eK] at z
              split at z
              · next h4 => have := of_decide_eq_true h4; omega
              · omega
          have sgn : am_E X (d + 5) mX11_cutOne 142 [some (.ref 15), none] [] (n, I2, L2, R) Q := by
            simp only [am_lv_of, rX11_cutOne_142, rX11_cutOne_143, rX11_cutOne_146, rX11_cutOne_147, rX11_cutOne_150, rX11_cutOne_151, rX11_cutOne_154, rX11_cutOne_155, rX11_cutOne_156, rX11_cutOne_157, rX11_cutOne_159, rX11_cutOne_160, ro_0_0 hR, ro_0_3 hR, ro_0_4 hR, ro_0_5 hR, ro_0_6 hR, ro_0_7 hR, ro_0_8 hR, ro_0_9 hR, ro_0_10 hR, ro_0_11 hR, ro_2_6 hR, ro_2_7 hR, ro_2_8 hR, ro_2_9 hR, ro_2_10 hR, ro_2_11 hR, ro_2_12 hR, ro_2_13 hR, ro_9_0 hR, ro_9_1 hR, ro_9_2 hR, ro_14_0 hR, ro_14_1 hR, ro_14_2 hR, ro_14_7 hR, ro_15_0 hR, ro_15_1 hR, ro_15_2 hR, ro_15_3 hR, ro_20_6 hR, ro_20_7 hR, ro_20_8 hR, ro_20_9 hR, ro_20_10 hR, ro_20_11 hR, ro_20_12 hR, ro_20_13 hR, ro_27_0 hR, ro_27_1 hR, ro_27_2 hR, ro_32_0 hR, ro_32_1 hR, ro_34_10 hR, ro_34_11 hR, ro_34_12 hR, ro_34_13 hR, ro_39_0 hR, ro_39_1 hR, ro_42_0 hR, ro_42_1 hR, ro_47_0 hR, ro_47_1 hR, ro_47_2 hR, ro_47_3 hR, ro_55_0 hR, ro_55_1 hR, ro_55_2 hR, ro_57_0 hR, ro_57_1 hR, ro_57_2 hR, ro_57_3 hR, ro_57_4 hR, ro_57_5 hR, ro_57_8 hR, sh_0, sh_1, sh_2, sh_3, sh_4, sh_5, sh_6, sh_7, sh_8, sh_9, sh_10, sh_11, sh_12, sh_13, sh_14, sh_15, sh_16, sh_17, sh_18, sh_19, sh_20, sh_21, sh_22, sh_23, sh_24, sh_25, sh_26, sh_27, sh_28, sh_29, sh_30, sh_31, sh_32, sh_33, sh_34, sh_35, sh_36, sh_37, sh_38, sh_39, sh_40, sh_41, sh_42, sh_43, sh_44, sh_45, sh_46, sh_47, sh_48, sh_49, sh_50, sh_51, sh_52, sh_53, sh_54, sh_55, sh_56, sh_57, sh_58, sh_59, sh_60, sh_61, sh_62, sh_63, sh_64, sh_65, sh_66, sh_67, sh_68, hl, hvw9, Nat.reduceLT, Nat.reduceAdd, Nat.reduceMul, ne_eq, Nat.reduceEqDiff, not_false_eq_true, or_true, true_or, or_false, false_or, and_true, true_and, and_self, Nat.reduceLeDiff, am_ci, am_cr, am_cn0, Option.toList_some, Option.toList_none, List.cons_append, List.nil_append, am_s0, am_s1, am_s1r, am_s2, am_s2r, am_s3r, nI_add, am_u_ne, am_u_at, am_u_n1, am_u_n2, am_w_ne, k2, H2.rf, p2, eand, ech]
            have h := sr_virt (X := X) (d := d + 4) (n := n) (I := I2) (L := L2) (R := R) (Q := Q) (μ := mX11_cutOne) (ls := [some (.ref 15), some (.int (nI (x.2 (tP x i))))]) (st := [.ref 15]) (a := 1000002) (as := [.int (nI (x.2 (tP x i)))]) dX11_cutOne_161 lk_11_84 (Nat.not_lt.mpr (Nat.le_of_ble_eq_true rfl)) (by decide) rfl rfl
            refine h.mpr ?_
            show am_E X (d + 4) mJ0_indexOf_0f7a4 0 [some (.ref 1000002), some (.int (nI (x.2 (tP x i))))] [] (n, I2, L2, R) _
            refine c_indexOf c256 (fun r hr => ?_)
            simp only [am_lv_of, Nat.reduceAdd, Option.toList_some, List.cons_append, List.nil_append, rX11_cutOne_164]
            by_cases hs : isSg (x.2 (tP x i)) = true
            · have c3 : ¬ r < 0 := fun z => by rw [hr.mp z] at hs; cases hs
              simp only [am_lv_of, c3, ↓reduceIte, rX11_cutOne_167, rX11_cutOne_168, rX11_cutOne_173, rX11_cutOne_176, rX11_cutOne_177, rX11_cutOne_178, rX11_cutOne_181, rX11_cutOne_182, rX11_cutOne_183, rX11_cutOne_186, ro_0_0 hR, ro_0_3 hR, ro_0_4 hR, ro_0_5 hR, ro_0_6 hR, ro_0_7 hR, ro_0_8 hR, ro_0_9 hR, ro_0_10 hR, ro_0_11 hR, ro_2_6 hR, ro_2_7 hR, ro_2_8 hR, ro_2_9 hR, ro_2_10 hR, ro_2_11 hR, ro_2_12 hR, ro_2_13 hR, ro_9_0 hR, ro_9_1 hR, ro_9_2 hR, ro_14_0 hR, ro_14_1 hR, ro_14_2 hR, ro_14_7 hR, ro_15_0 hR, ro_15_1 hR, ro_15_2 hR, ro_15_3 hR, ro_20_6 hR, ro_20_7 hR, ro_20_8 hR, ro_20_9 hR, ro_20_10 hR, ro_20_11 hR, ro_20_12 hR, ro_20_13 hR, ro_27_0 hR, ro_27_1 hR, ro_27_2 hR, ro_32_0 hR, ro_32_1 hR, ro_34_10 hR, ro_34_11 hR, ro_34_12 hR, ro_34_13 hR, ro_39_0 hR, ro_39_1 hR, ro_42_0 hR, ro_42_1 hR, ro_47_0 hR, ro_47_1 hR, ro_47_2 hR, ro_47_3 hR, ro_55_0 hR, ro_55_1 hR, ro_55_2 hR, ro_57_0 hR, ro_57_1 hR, ro_57_2 hR, ro_57_3 hR, ro_57_4 hR, ro_57_5 hR, ro_57_8 hR, sh_0, sh_1, sh_2, sh_3, sh_4, sh_5, sh_6, sh_7, sh_8, sh_9, sh_10, sh_11, sh_12, sh_13, sh_14, sh_15, sh_16, sh_17, sh_18, sh_19, sh_20, sh_21, sh_22, sh_23, sh_24, sh_25, sh_26, sh_27, sh_28, sh_29, sh_30, sh_31, sh_32, sh_33, sh_34, sh_35, sh_36, sh_37, sh_38, sh_39, sh_40, sh_41, sh_42, sh_43, sh_44, sh_45, sh_46, sh_47, sh_48, sh_49, sh_50, sh_51, sh_52, sh_53, sh_54, sh_55, sh_56, sh_57, sh_58, sh_59, sh_60, sh_61, sh_62, sh_63, sh_64, sh_65, sh_66, sh_67, sh_68, hl, hvw9, Nat.reduceLT, Nat.reduceAdd, Nat.reduceMul, ne_eq, Nat.reduceEqDiff, not_false_eq_true, or_true, true_or, or_false, false_or, and_true, true_and, and_self, Nat.reduceLeDiff, am_ci, am_cr, am_cn0, Option.toList_some, Option.toList_none, List.cons_append, List.nil_append, am_s0, am_s1, am_s1r, am_s2, am_s2r, am_s3r, nI_add, am_u_ne, am_u_at, am_u_n1, am_u_n2, am_w_ne, hn, k2]
              exact fin _ (by rw [eK, if_pos hs])
            · have c3 : r < 0 := hr.mpr (by simpa using hs)
              simp only [am_lv_of, c3, ↓reduceIte, rX11_cutOne_171, rX11_cutOne_173, rX11_cutOne_176, rX11_cutOne_177, rX11_cutOne_178, rX11_cutOne_181, rX11_cutOne_182, rX11_cutOne_183, rX11_cutOne_186, ro_0_0 hR, ro_0_3 hR, ro_0_4 hR, ro_0_5 hR, ro_0_6 hR, ro_0_7 hR, ro_0_8 hR, ro_0_9 hR, ro_0_10 hR, ro_0_11 hR, ro_2_6 hR, ro_2_7 hR, ro_2_8 hR, ro_2_9 hR, ro_2_10 hR, ro_2_11 hR, ro_2_12 hR, ro_2_13 hR, ro_9_0 hR, ro_9_1 hR, ro_9_2 hR, ro_14_0 hR, ro_14_1 hR, ro_14_2 hR, ro_14_7 hR, ro_15_0 hR, ro_15_1 hR, ro_15_2 hR, ro_15_3 hR, ro_20_6 hR, ro_20_7 hR, ro_20_8 hR, ro_20_9 hR, ro_20_10 hR, ro_20_11 hR, ro_20_12 hR, ro_20_13 hR, ro_27_0 hR, ro_27_1 hR, ro_27_2 hR, ro_32_0 hR, ro_32_1 hR, ro_34_10 hR, ro_34_11 hR, ro_34_12 hR, ro_34_13 hR, ro_39_0 hR, ro_39_1 hR, ro_42_0 hR, ro_42_1 hR, ro_47_0 hR, ro_47_1 hR, ro_47_2 hR, ro_47_3 hR, ro_55_0 hR, ro_55_1 hR, ro_55_2 hR, ro_57_0 hR, ro_57_1 hR, ro_57_2 hR, ro_57_3 hR, ro_57_4 hR, ro_57_5 hR, ro_57_8 hR, sh_0, sh_1, sh_2, sh_3, sh_4, sh_5, sh_6, sh_7, sh_8, sh_9, sh_10, sh_11, sh_12, sh_13, sh_14, sh_15, sh_16, sh_17, sh_18, sh_19, sh_20, sh_21, sh_22, sh_23, sh_24, sh_25, sh_26, sh_27, sh_28, sh_29, sh_30, sh_31, sh_32, sh_33, sh_34, sh_35, sh_36, sh_37, sh_38, sh_39, sh_40, sh_41, sh_42, sh_43, sh_44, sh_45, sh_46, sh_47, sh_48, sh_49, sh_50, sh_51, sh_52, sh_53, sh_54, sh_55, sh_56, sh_57, sh_58, sh_59, sh_60, sh_61, sh_62, sh_63, sh_64, sh_65, sh_66, sh_67, sh_68, hl, hvw9, Nat.reduceLT, Nat.reduceAdd, Nat.reduceMul, ne_eq, Nat.reduceEqDiff, not_false_eq_true, or_true, true_or, or_false, false_or, and_true, true_and, and_self, Nat.reduceLeDiff, am_ci, am_cr, am_cn0, Option.toList_some, Option.toList_none, List.cons_append, List.nil_append, am_s0, am_s1, am_s1r, am_s2, am_s2r, am_s3r, nI_add, am_u_ne, am_u_at, am_u_n1, am_u_n2, am_w_ne, hn, k2]
              exact fin _ (by rw [eK, if_neg hs])
          by_cases m1 : I2 1 (tP x i) < nI 48
          · simp only [am_lv_of, ↓reduceIte, rX11_cutOne_107, rX11_cutOne_108, rX11_cutOne_111, rX11_cutOne_112, rX11_cutOne_115, rX11_cutOne_116, rX11_cutOne_118, ro_0_0 hR, ro_0_3 hR, ro_0_4 hR, ro_0_5 hR, ro_0_6 hR, ro_0_7 hR, ro_0_8 hR, ro_0_9 hR, ro_0_10 hR, ro_0_11 hR, ro_2_6 hR, ro_2_7 hR, ro_2_8 hR, ro_2_9 hR, ro_2_10 hR, ro_2_11 hR, ro_2_12 hR, ro_2_13 hR, ro_9_0 hR, ro_9_1 hR, ro_9_2 hR, ro_14_0 hR, ro_14_1 hR, ro_14_2 hR, ro_14_7 hR, ro_15_0 hR, ro_15_1 hR, ro_15_2 hR, ro_15_3 hR, ro_20_6 hR, ro_20_7 hR, ro_20_8 hR, ro_20_9 hR, ro_20_10 hR, ro_20_11 hR, ro_20_12 hR, ro_20_13 hR, ro_27_0 hR, ro_27_1 hR, ro_27_2 hR, ro_32_0 hR, ro_32_1 hR, ro_34_10 hR, ro_34_11 hR, ro_34_12 hR, ro_34_13 hR, ro_39_0 hR, ro_39_1 hR, ro_42_0 hR, ro_42_1 hR, ro_47_0 hR, ro_47_1 hR, ro_47_2 hR, ro_47_3 hR, ro_55_0 hR, ro_55_1 hR, ro_55_2 hR, ro_57_0 hR, ro_57_1 hR, ro_57_2 hR, ro_57_3 hR, ro_57_4 hR, ro_57_5 hR, ro_57_8 hR, sh_0, sh_1, sh_2, sh_3, sh_4, sh_5, sh_6, sh_7, sh_8, sh_9, sh_10, sh_11, sh_12, sh_13, sh_14, sh_15, sh_16, sh_17, sh_18, sh_19, sh_20, sh_21, sh_22, sh_23, sh_24, sh_25, sh_26, sh_27, sh_28, sh_29, sh_30, sh_31, sh_32, sh_33, sh_34, sh_35, sh_36, sh_37, sh_38, sh_39, sh_40, sh_41, sh_42, sh_43, sh_44, sh_45, sh_46, sh_47, sh_48, sh_49, sh_50, sh_51, sh_52, sh_53, sh_54, sh_55, sh_56, sh_57, sh_58, sh_59, sh_60, sh_61, sh_62, sh_63, sh_64, sh_65, sh_66, sh_67, sh_68, hl, hvw9, Nat.reduceLT, Nat.reduceAdd, Nat.reduceMul, ne_eq, Nat.reduceEqDiff, not_false_eq_true, or_true, true_or, or_false, false_or, and_true, true_and, and_self, Nat.reduceLeDiff, am_ci, am_cr, am_cn0, Option.toList_some, Option.toList_none, List.cons_append, List.nil_append, am_s0, am_s1, am_s1r, am_s2, am_s2r, am_s3r, nI_add, am_u_ne, am_u_at, am_u_n1, am_u_n2, am_w_ne, k2, H2.rf, p2, m1]
            exact sgn
          · have m2 : nI 57 < I2 1 (tP x i) := hi2.mpr (by
              have : 48 ≤ x.2 (tP x i) ∧ x.2 (tP x i) ≤ 127 := Classical.byContradiction (fun z => m1 (lo2.mpr z))
              omega)
            simp only [am_lv_of, ↓reduceIte, rX11_cutOne_107, rX11_cutOne_108, rX11_cutOne_111, rX11_cutOne_112, rX11_cutOne_115, rX11_cutOne_116, rX11_cutOne_118, rX11_cutOne_121, rX11_cutOne_122, rX11_cutOne_125, rX11_cutOne_126, rX11_cutOne_129, rX11_cutOne_130, rX11_cutOne_132, ro_0_0 hR, ro_0_3 hR, ro_0_4 hR, ro_0_5 hR, ro_0_6 hR, ro_0_7 hR, ro_0_8 hR, ro_0_9 hR, ro_0_10 hR, ro_0_11 hR, ro_2_6 hR, ro_2_7 hR, ro_2_8 hR, ro_2_9 hR, ro_2_10 hR, ro_2_11 hR, ro_2_12 hR, ro_2_13 hR, ro_9_0 hR, ro_9_1 hR, ro_9_2 hR, ro_14_0 hR, ro_14_1 hR, ro_14_2 hR, ro_14_7 hR, ro_15_0 hR, ro_15_1 hR, ro_15_2 hR, ro_15_3 hR, ro_20_6 hR, ro_20_7 hR, ro_20_8 hR, ro_20_9 hR, ro_20_10 hR, ro_20_11 hR, ro_20_12 hR, ro_20_13 hR, ro_27_0 hR, ro_27_1 hR, ro_27_2 hR, ro_32_0 hR, ro_32_1 hR, ro_34_10 hR, ro_34_11 hR, ro_34_12 hR, ro_34_13 hR, ro_39_0 hR, ro_39_1 hR, ro_42_0 hR, ro_42_1 hR, ro_47_0 hR, ro_47_1 hR, ro_47_2 hR, ro_47_3 hR, ro_55_0 hR, ro_55_1 hR, ro_55_2 hR, ro_57_0 hR, ro_57_1 hR, ro_57_2 hR, ro_57_3 hR, ro_57_4 hR, ro_57_5 hR, ro_57_8 hR, sh_0, sh_1, sh_2, sh_3, sh_4, sh_5, sh_6, sh_7, sh_8, sh_9, sh_10, sh_11, sh_12, sh_13, sh_14, sh_15, sh_16, sh_17, sh_18, sh_19, sh_20, sh_21, sh_22, sh_23, sh_24, sh_25, sh_26, sh_27, sh_28, sh_29, sh_30, sh_31, sh_32, sh_33, sh_34, sh_35, sh_36, sh_37, sh_38, sh_39, sh_40, sh_41, sh_42, sh_43, sh_44, sh_45, sh_46, sh_47, sh_48, sh_49, sh_50, sh_51, sh_52, sh_53, sh_54, sh_55, sh_56, sh_57, sh_58, sh_59, sh_60, sh_61, sh_62, sh_63, sh_64, sh_65, sh_66, sh_67, sh_68, hl, hvw9, Nat.reduceLT, Nat.reduceAdd, Nat.reduceMul, ne_eq, Nat.reduceEqDiff, not_false_eq_true, or_true, true_or, or_false, false_or, and_true, true_and, and_self, Nat.reduceLeDiff, am_ci, am_cr, am_cn0, Option.toList_some, Option.toList_none, List.cons_append, List.nil_append, am_s0, am_s1, am_s1r, am_s2, am_s2r, am_s3r, nI_add, am_u_ne, am_u_at, am_u_n1, am_u_n2, am_w_ne, k2, H2.rf, p2, m1, m2]
            exact sgn
      by_cases m1 : I2 1 (tP x i) < nI 97
      · simp only [am_lv_of, c1, ↓reduceIte, rX11_cutOne_72, rX11_cutOne_73, rX11_cutOne_76, rX11_cutOne_77, rX11_cutOne_80, rX11_cutOne_81, rX11_cutOne_83, ro_0_0 hR, ro_0_3 hR, ro_0_4 hR, ro_0_5 hR, ro_0_6 hR, ro_0_7 hR, ro_0_8 hR, ro_0_9 hR, ro_0_10 hR, ro_0_11 hR, ro_2_6 hR, ro_2_7 hR, ro_2_8 hR, ro_2_9 hR, ro_2_10 hR, ro_2_11 hR, ro_2_12 hR, ro_2_13 hR, ro_9_0 hR, ro_9_1 hR, ro_9_2 hR, ro_14_0 hR, ro_14_1 hR, ro_14_2 hR, ro_14_7 hR, ro_15_0 hR, ro_15_1 hR, ro_15_2 hR, ro_15_3 hR, ro_20_6 hR, ro_20_7 hR, ro_20_8 hR, ro_20_9 hR, ro_20_10 hR, ro_20_11 hR, ro_20_12 hR, ro_20_13 hR, ro_27_0 hR, ro_27_1 hR, ro_27_2 hR, ro_32_0 hR, ro_32_1 hR, ro_34_10 hR, ro_34_11 hR, ro_34_12 hR, ro_34_13 hR, ro_39_0 hR, ro_39_1 hR, ro_42_0 hR, ro_42_1 hR, ro_47_0 hR, ro_47_1 hR, ro_47_2 hR, ro_47_3 hR, ro_55_0 hR, ro_55_1 hR, ro_55_2 hR, ro_57_0 hR, ro_57_1 hR, ro_57_2 hR, ro_57_3 hR, ro_57_4 hR, ro_57_5 hR, ro_57_8 hR, sh_0, sh_1, sh_2, sh_3, sh_4, sh_5, sh_6, sh_7, sh_8, sh_9, sh_10, sh_11, sh_12, sh_13, sh_14, sh_15, sh_16, sh_17, sh_18, sh_19, sh_20, sh_21, sh_22, sh_23, sh_24, sh_25, sh_26, sh_27, sh_28, sh_29, sh_30, sh_31, sh_32, sh_33, sh_34, sh_35, sh_36, sh_37, sh_38, sh_39, sh_40, sh_41, sh_42, sh_43, sh_44, sh_45, sh_46, sh_47, sh_48, sh_49, sh_50, sh_51, sh_52, sh_53, sh_54, sh_55, sh_56, sh_57, sh_58, sh_59, sh_60, sh_61, sh_62, sh_63, sh_64, sh_65, sh_66, sh_67, sh_68, hl, hvw9, Nat.reduceLT, Nat.reduceAdd, Nat.reduceMul, ne_eq, Nat.reduceEqDiff, not_false_eq_true, or_true, true_or, or_false, false_or, and_true, true_and, and_self, Nat.reduceLeDiff, am_ci, am_cr, am_cn0, Option.toList_some, Option.toList_none, List.cons_append, List.nil_append, am_s0, am_s1, am_s1r, am_s2, am_s2r, am_s3r, nI_add, am_u_ne, am_u_at, am_u_n1, am_u_n2, am_w_ne, k2, H2.rf, p2, m1]
        exact toD
      · have m2 : nI 122 < I2 1 (tP x i) := hi.mpr (by
          have : 97 ≤ x.2 (tP x i) ∧ x.2 (tP x i) ≤ 127 := Classical.byContradiction (fun z => m1 (lo.mpr z))
          omega)
        simp only [am_lv_of, c1, ↓reduceIte, rX11_cutOne_72, rX11_cutOne_73, rX11_cutOne_76, rX11_cutOne_77, rX11_cutOne_80, rX11_cutOne_81, rX11_cutOne_83, rX11_cutOne_86, rX11_cutOne_87, rX11_cutOne_90, rX11_cutOne_91, rX11_cutOne_94, rX11_cutOne_95, rX11_cutOne_97, ro_0_0 hR, ro_0_3 hR, ro_0_4 hR, ro_0_5 hR, ro_0_6 hR, ro_0_7 hR, ro_0_8 hR, ro_0_9 hR, ro_0_10 hR, ro_0_11 hR, ro_2_6 hR, ro_2_7 hR, ro_2_8 hR, ro_2_9 hR, ro_2_10 hR, ro_2_11 hR, ro_2_12 hR, ro_2_13 hR, ro_9_0 hR, ro_9_1 hR, ro_9_2 hR, ro_14_0 hR, ro_14_1 hR, ro_14_2 hR, ro_14_7 hR, ro_15_0 hR, ro_15_1 hR, ro_15_2 hR, ro_15_3 hR, ro_20_6 hR, ro_20_7 hR, ro_20_8 hR, ro_20_9 hR, ro_20_10 hR, ro_20_11 hR, ro_20_12 hR, ro_20_13 hR, ro_27_0 hR, ro_27_1 hR, ro_27_2 hR, ro_32_0 hR, ro_32_1 hR, ro_34_10 hR, ro_34_11 hR, ro_34_12 hR, ro_34_13 hR, ro_39_0 hR, ro_39_1 hR, ro_42_0 hR, ro_42_1 hR, ro_47_0 hR, ro_47_1 hR, ro_47_2 hR, ro_47_3 hR, ro_55_0 hR, ro_55_1 hR, ro_55_2 hR, ro_57_0 hR, ro_57_1 hR, ro_57_2 hR, ro_57_3 hR, ro_57_4 hR, ro_57_5 hR, ro_57_8 hR, sh_0, sh_1, sh_2, sh_3, sh_4, sh_5, sh_6, sh_7, sh_8, sh_9, sh_10, sh_11, sh_12, sh_13, sh_14, sh_15, sh_16, sh_17, sh_18, sh_19, sh_20, sh_21, sh_22, sh_23, sh_24, sh_25, sh_26, sh_27, sh_28, sh_29, sh_30, sh_31, sh_32, sh_33, sh_34, sh_35, sh_36, sh_37, sh_38, sh_39, sh_40, sh_41, sh_42, sh_43, sh_44, sh_45, sh_46, sh_47, sh_48, sh_49, sh_50, sh_51, sh_52, sh_53, sh_54, sh_55, sh_56, sh_57, sh_58, sh_59, sh_60, sh_61, sh_62, sh_63, sh_64, sh_65, sh_66, sh_67, sh_68, hl, hvw9, Nat.reduceLT, Nat.reduceAdd, Nat.reduceMul, ne_eq, Nat.reduceEqDiff, not_false_eq_true, or_true, true_or, or_false, false_or, and_true, true_and, and_self, Nat.reduceLeDiff, am_ci, am_cr, am_cn0, Option.toList_some, Option.toList_none, List.cons_append, List.nil_append, am_s0, am_s1, am_s1r, am_s2, am_s2r, am_s3r, nI_add, am_u_ne, am_u_at, am_u_n1, am_u_n2, am_w_ne, k2, H2.rf, p2, m1, m2]
        exact toD
/-! all tokens ahead, then one after the other -/
def cutR (I : Nat → Nat → Int32) (L : Nat → Nat → Int64) (x : txt) (m : Nat) : Prop := ∀ k, k < m → I 2000 k = nI (kK x k) ∧ I 2001 k = nI (kP x k) ∧ (kK x k = 21 → L 2002 k = lN (kV x k)) ∧ (kK x k ≤ 20 → L 2002 k = lN (cdW 32 (kM x k)))
theorem cutR.ag {J : Nat → Nat → Int32} {K : Nat → Nat → Int64} {m : Nat} (h : cutR I L x m) (g : ∀ k j, k = 2000 ∨ k = 2001 → J k j = I k j) (l : ∀ j, K 2002 j = L 2002 j) : cutR J K x m := fun k hk => by
  rw [g 2000 k (Or.inl rfl), g 2001 k (Or.inr rfl), l k]; exact h k hk
def cuC (k j : Nat) : Prop := (k = 15 ∧ 5 ≤ j ∧ j ≤ 9) ∨ k = 2000 ∨ k = 2001
def agC (L L' : Nat → Nat → Int64) : Prop := ∀ k j, ¬ (k = 15 ∧ j = 10) → k ≠ 2002 → L' k j = L k j
theorem agL.C {L' : Nat → Nat → Int64} (h : agL L L') : agC L L' := fun k j h1 _ => h k j h1
theorem agC.refl : agC L L := fun _ _ _ _ => rfl
theorem agC.trans {L' L'' : Nat → Nat → Int64} (h1 : agC L L') (h2 : agC L' L'') : agC L L'' := fun k j a b => (h2 k j a b).trans (h1 k j a b)
theorem agC.u {L' : Nat → Nat → Int64} {i : Nat} {v : Int64} (h : agC L L') : agC L (am_u L' 2002 i v) := fun k j a b => by rw [am_u_n1 b]; exact h k j a b
theorem relW.agC {L' : Nat → Nat → Int64} (h : relW L) (g : agC L L') : relW L' := fun k hk => by rw [g 16 k (by omega) (by omega)]; exact h k hk
/-- the class shows the token t -/
def tkS (I : Nat → Nat → Int32) (L : Nat → Nat → Int64) (x : txt) (t : Nat) : Prop := cutR I L x 401 ∧ I 15 8 = nI (kK x t) ∧ I 15 9 = nI (kP x t) ∧ (kK x t = 21 → L 15 10 = lN (kV x t)) ∧ (kK x t ≤ 20 → L 15 10 = lN (cdW 32 (kM x t))) ∧ I 15 7 = nI t
theorem c_showNext {t : Nat} (hR : am_OR R) (hN : 116 ≤ n) (hn : n ≤ 1000) (C : cutR I L x 401) (ht : t < 401) (hq : I 15 7 + nI 1 = nI t) (hQ : ∀ I' L', am_ag (fun k j => k = 15 ∧ 7 ≤ j ∧ j ≤ 9) I I' → agL L L' → tkS I' L' x t → Q none (n, I', L', R)) : am_E X d mX11_showNext 0 [some (.ref 15), none] [] (n, I, L, R) Q := by
  have hl := am_lt hN
  have hvw9 := am_lw hN
  obtain ⟨v0, v1, v2⟩ := am_lv0 hN
  have z0 : ¬ nI t < 0 := nI_pos (by omega)
  have c1 : ¬ nI 401 ≤ nI t := nI_ge ht (by omega)
  obtain ⟨e1, e2, e3, e4⟩ := C t ht
  simp only [am_lv_of, rX11_showNext_0, rX11_showNext_1, rX11_showNext_4, rX11_showNext_5, rX11_showNext_6, rX11_showNext_7, rX11_showNext_8, rX11_showNext_11, rX11_showNext_12, rX11_showNext_15, rX11_showNext_18, rX11_showNext_19, rX11_showNext_20, rX11_showNext_23, rX11_showNext_24, rX11_showNext_25, rX11_showNext_28, rX11_showNext_29, rX11_showNext_30, rX11_showNext_33, rX11_showNext_34, rX11_showNext_35, rX11_showNext_38, rX11_showNext_39, rX11_showNext_40, rX11_showNext_43, rX11_showNext_44, rX11_showNext_45, rX11_showNext_48, rX11_showNext_49, rX11_showNext_50, rX11_showNext_53, ro_0_0 hR, ro_0_3 hR, ro_0_4 hR, ro_0_5 hR, ro_0_6 hR, ro_0_7 hR, ro_0_8 hR, ro_0_9 hR, ro_0_10 hR, ro_0_11 hR, ro_2_6 hR, ro_2_7 hR, ro_2_8 hR, ro_2_9 hR, ro_2_10 hR, ro_2_11 hR, ro_2_12 hR, ro_2_13 hR, ro_9_0 hR, ro_9_1 hR, ro_9_2 hR, ro_14_0 hR, ro_14_1 hR, ro_14_2 hR, ro_14_7 hR, ro_15_0 hR, ro_15_1 hR, ro_15_2 hR, ro_15_3 hR, ro_20_6 hR, ro_20_7 hR, ro_20_8 hR, ro_20_9 hR, ro_20_10 hR, ro_20_11 hR, ro_20_12 hR, ro_20_13 hR, ro_27_0 hR, ro_27_1 hR, ro_27_2 hR, ro_32_0 hR, ro_32_1 hR, ro_34_10 hR, ro_34_11 hR, ro_34_12 hR, ro_34_13 hR, ro_39_0 hR, ro_39_1 hR, ro_42_0 hR, ro_42_1 hR, ro_47_0 hR, ro_47_1 hR, ro_47_2 hR, ro_47_3 hR, ro_55_0 hR, ro_55_1 hR, ro_55_2 hR, ro_57_0 hR, ro_57_1 hR, ro_57_2 hR, ro_57_3 hR, ro_57_4 hR, ro_57_5 hR, ro_57_8 hR, sh_0, sh_1, sh_2, sh_3, sh_4, sh_5, sh_6, sh_7, sh_8, sh_9, sh_10, sh_11, sh_12, sh_13, sh_14, sh_15, sh_16, sh_17, sh_18, sh_19, sh_20, sh_21, sh_22, sh_23, sh_24, sh_25, sh_26, sh_27, sh_28, sh_29, sh_30, sh_31, sh_32, sh_33, sh_34, sh_35, sh_36, sh_37, sh_38, sh_39, sh_40, sh_41, sh_42, sh_43, sh_44, sh_45, sh_46, sh_47, sh_48, sh_49, sh_50, sh_51, sh_52, sh_53, sh_54, sh_55, sh_56, sh_57, sh_58, sh_59, sh_60, sh_61, sh_62, sh_63, sh_64, sh_65, sh_66, sh_67, sh_68, hl, hvw9, Nat.reduceLT, Nat.reduceAdd, Nat.reduceMul, ne_eq, Nat.reduceEqDiff, not_false_eq_true, or_true, true_or, or_false, false_or, and_true, true_and, and_self, Nat.reduceLeDiff, am_ci, am_cr, am_cn0, Option.toList_some, Option.toList_none, List.cons_append, List.nil_append, am_s0, am_s1, am_s1r, am_s2, am_s2r, am_s3r, nI_add, am_u_ne, am_u_at, am_u_n1, am_u_n2, am_w_ne, sh_2000, sh_2001, sh_2002, v0, v1, v2, ↓reduceIte, hn, hq, z0, c1, ht]
  refine hQ _ _ (am_ag.u (am_ag.u (am_ag.u am_ag.refl ⟨rfl, by omega, by omega⟩) ⟨rfl, by omega, by omega⟩) ⟨rfl, by omega, by omega⟩) agL.refl.u ⟨?_, ?_, ?_, fun z => ?_, fun z => ?_, ?_⟩
  · exact C.ag (fun k j hk => by rw [am_u_n1 (by omega), am_u_n1 (by omega), am_u_n1 (by omega)]) (fun j => am_u_n1 (by omega))
  · rw [am_u_n2 (by omega), am_u_at, e1]
  · rw [am_u_at, e2]
  · rw [am_u_at]; exact e3 z
  · rw [am_u_at]; exact e4 z
  · rw [am_u_n2 (by omega), am_u_n2 (by omega), am_u_at]
theorem l_cutC {l1 l2 : Option Value} (h2 : am_nl l2) (hR : am_OR R) (hN : 116 ≤ n) (hn : n ≤ 1000) : ∀ (m i : Nat) (J : Nat → Nat → Int32) (K : Nat → Nat → Int64), i + m = 401 → am_ag cuC I J → agC L K → relW K → tkA J R x (ps x i) → cutR J K x i → (∀ I' L', am_ag cuC I I' → agC L L' → relW L' → cutR I' L' x 401 → am_E X (d + 6) mX11_cut 69 [some (.ref 15), l1, l2, some (.int (nI 401))] [] (n, I', L', R) Q) → am_E X (d + 6) mX11_cut 22 [some (.ref 15), l1, l2, some (.int (nI i))] [] (n, J, K, R) Q := by
  have hl := am_lt hN
  have hvw9 := am_lw hN
  obtain ⟨v0, v1, v2⟩ := am_lv0 hN
  intro m
  induction m with
  | zero =>
    intro i J K hi hJ hK hW H C hQ
    have hi : i = 401 := by omega
    subst hi
    have c1 : nI 401 ≤ nI 401 := by decide
    simp only [am_lv_of, rX11_cut_22, rX11_cut_23, rX11_cut_26, ↓reduceIte, c1]
    exact hQ J K hJ hK hW C
  | succ m ih =>
    intro i J K hi hJ hK hW H C hQ
    have c1 : ¬ nI 401 ≤ nI i := nI_ge (by omega) (by omega)
    have i4 : i < 401 := by omega
    rw [rX11_cut_22]
    simp only [am_lv_of, rX11_cut_23, rX11_cut_26, rX11_cut_29, rX11_cut_30, ro_0_0 hR, ro_0_3 hR, ro_0_4 hR, ro_0_5 hR, ro_0_6 hR, ro_0_7 hR, ro_0_8 hR, ro_0_9 hR, ro_0_10 hR, ro_0_11 hR, ro_2_6 hR, ro_2_7 hR, ro_2_8 hR, ro_2_9 hR, ro_2_10 hR, ro_2_11 hR, ro_2_12 hR, ro_2_13 hR, ro_9_0 hR, ro_9_1 hR, ro_9_2 hR, ro_14_0 hR, ro_14_1 hR, ro_14_2 hR, ro_14_7 hR, ro_15_0 hR, ro_15_1 hR, ro_15_2 hR, ro_15_3 hR, ro_20_6 hR, ro_20_7 hR, ro_20_8 hR, ro_20_9 hR, ro_20_10 hR, ro_20_11 hR, ro_20_12 hR, ro_20_13 hR, ro_27_0 hR, ro_27_1 hR, ro_27_2 hR, ro_32_0 hR, ro_32_1 hR, ro_34_10 hR, ro_34_11 hR, ro_34_12 hR, ro_34_13 hR, ro_39_0 hR, ro_39_1 hR, ro_42_0 hR, ro_42_1 hR, ro_47_0 hR, ro_47_1 hR, ro_47_2 hR, ro_47_3 hR, ro_55_0 hR, ro_55_1 hR, ro_55_2 hR, ro_57_0 hR, ro_57_1 hR, ro_57_2 hR, ro_57_3 hR, ro_57_4 hR, ro_57_5 hR, ro_57_8 hR, sh_0, sh_1, sh_2, sh_3, sh_4, sh_5, sh_6, sh_7, sh_8, sh_9, sh_10, sh_11, sh_12, sh_13, sh_14, sh_15, sh_16, sh_17, sh_18, sh_19, sh_20, sh_21, sh_22, sh_23, sh_24, sh_25, sh_26, sh_27, sh_28, sh_29, sh_30, sh_31, sh_32, sh_33, sh_34, sh_35, sh_36, sh_37, sh_38, sh_39, sh_40, sh_41, sh_42, sh_43, sh_44, sh_45, sh_46, sh_47, sh_48, sh_49, sh_50, sh_51, sh_52, sh_53, sh_54, sh_55, sh_56, sh_57, sh_58, sh_59, sh_60, sh_61, sh_62, sh_63, sh_64, sh_65, sh_66, sh_67, sh_68, hl, hvw9, Nat.reduceLT, Nat.reduceAdd, Nat.reduceMul, ne_eq, Nat.reduceEqDiff, not_false_eq_true, or_true, true_or, or_false, false_or, and_true, true_and, and_self, Nat.reduceLeDiff, am_ci, am_cr, am_cn0, Option.toList_some, Option.toList_none, List.cons_append, List.nil_append, am_s0, am_s1, am_s1r, am_s2, am_s2r, am_s3r, nI_add, am_u_ne, am_u_at, am_u_n1, am_u_n2, am_w_ne, ↓reduceIte, c1]
    refine c_cutOne (x := x) (i := ps x i) hR hN hn hW H (fun I1 L1 g1 k1 T1 => ?_)
    obtain ⟨⟨a1, a2, a3, a4, a5⟩, b1, b2, b3, b4⟩ := id T1
    simp only [am_lv_of, Option.toList_none, List.nil_append, rX11_cut_33, rX11_cut_34, rX11_cut_37, rX11_cut_38, rX11_cut_39, rX11_cut_42, rX11_cut_43, rX11_cut_44, rX11_cut_47, rX11_cut_48, rX11_cut_49, rX11_cut_52, rX11_cut_53, rX11_cut_54, rX11_cut_57, rX11_cut_58, rX11_cut_59, rX11_cut_62, rX11_cut_63, rX11_cut_66, ro_0_0 hR, ro_0_3 hR, ro_0_4 hR, ro_0_5 hR, ro_0_6 hR, ro_0_7 hR, ro_0_8 hR, ro_0_9 hR, ro_0_10 hR, ro_0_11 hR, ro_2_6 hR, ro_2_7 hR, ro_2_8 hR, ro_2_9 hR, ro_2_10 hR, ro_2_11 hR, ro_2_12 hR, ro_2_13 hR, ro_9_0 hR, ro_9_1 hR, ro_9_2 hR, ro_14_0 hR, ro_14_1 hR, ro_14_2 hR, ro_14_7 hR, ro_15_0 hR, ro_15_1 hR, ro_15_2 hR, ro_15_3 hR, ro_20_6 hR, ro_20_7 hR, ro_20_8 hR, ro_20_9 hR, ro_20_10 hR, ro_20_11 hR, ro_20_12 hR, ro_20_13 hR, ro_27_0 hR, ro_27_1 hR, ro_27_2 hR, ro_32_0 hR, ro_32_1 hR, ro_34_10 hR, ro_34_11 hR, ro_34_12 hR, ro_34_13 hR, ro_39_0 hR, ro_39_1 hR, ro_42_0 hR, ro_42_1 hR, ro_47_0 hR, ro_47_1 hR, ro_47_2 hR, ro_47_3 hR, ro_55_0 hR, ro_55_1 hR, ro_55_2 hR, ro_57_0 hR, ro_57_1 hR, ro_57_2 hR, ro_57_3 hR, ro_57_4 hR, ro_57_5 hR, ro_57_8 hR, sh_0, sh_1, sh_2, sh_3, sh_4, sh_5, sh_6, sh_7, sh_8, sh_9, sh_10, sh_11, sh_12, sh_13, sh_14, sh_15, sh_16, sh_17, sh_18, sh_19, sh_20, sh_21, sh_22, sh_23, sh_24, sh_25, sh_26, sh_27, sh_28, sh_29, sh_30, sh_31, sh_32, sh_33, sh_34, sh_35, sh_36, sh_37, sh_38, sh_39, sh_40, sh_41, sh_42, sh_43, sh_44, sh_45, sh_46, sh_47, sh_48, sh_49, sh_50, sh_51, sh_52, sh_53, sh_54, sh_55, sh_56, sh_57, sh_58, sh_59, sh_60, sh_61, sh_62, sh_63, sh_64, sh_65, sh_66, sh_67, sh_68, hl, hvw9, Nat.reduceLT, Nat.reduceAdd, Nat.reduceMul, ne_eq, Nat.reduceEqDiff, not_false_eq_true, or_true, true_or, or_false, false_or, and_true, true_and, and_self, Nat.reduceLeDiff, am_ci, am_cr, am_cn0, Option.toList_some, Option.toList_none, List.cons_append, List.nil_append, am_s0, am_s1, am_s1r, am_s2, am_s2r, am_s3r, nI_add, am_u_ne, am_u_at, am_u_n1, am_u_n2, am_w_ne, sh_2000, sh_2001, sh_2002, v0, v1, v2, hn, i4, h2]
    refine ih (i + 1) _ _ (by omega) ?_ (hK.trans k1.C).u (fun k hk => ?_) ⟨?_, ?_, a3, a4.ag (fun j => ?_), a5⟩ (fun k hk => ?_) hQ
    · exact am_ag.u (am_ag.u (hJ.trans (g1.mono (fun k j z => by unfold tkP at z; unfold cuC; omega))) (by unfold cuC; omega)) (by unfold cuC; omega)
    · rw [am_u_n1 (by omega)]; exact (hW.ag k1) k hk
    · rw [am_u_n1 (by omega), am_u_n1 (by omega)]; exact a1
    · rw [am_u_n1 (by omega), am_u_n1 (by omega)]; exact a2
    · rw [am_u_n1 (by omega), am_u_n1 (by omega)]
    · by_cases e : k = i
      · subst e
        refine ⟨?_, ?_, fun z => ?_, fun z => ?_⟩
        · rw [am_u_n1 (by omega), am_u_at]; exact b1
        · rw [am_u_at]; exact b2
        · rw [am_u_at]; exact b3 z
        · rw [am_u_at]; exact b4 z
      · obtain ⟨q1, q2, q3, q4⟩ := C k (by omega)
        refine ⟨?_, ?_, fun z => ?_, fun z => ?_⟩
        · rw [am_u_n1 (by omega), am_u_n2 e, g1 2000 k (by unfold tkP; omega)]; exact q1
        · rw [am_u_n2 e, am_u_n1 (by omega), g1 2001 k (by unfold tkP; omega)]; exact q2
        · rw [am_u_n2 e, k1 2002 k (by omega)]; exact q3 z
        · rw [am_u_n2 e, k1 2002 k (by omega)]; exact q4 z
theorem links_15 : ∀ e ∈ am_links, ¬ (e.1 = 15 ∧ e.2.1 = 4) := by decide +kernel
theorem OR_15 (hR : am_OR R) : am_OR (am_u R 15 4 (some 1)) := fun e he => by
  have := links_15 e he
  by_cases h : e.1 = 15
  · rw [h, am_u_n2 (fun z => this ⟨h, z⟩), ← h]; exact hR e he
  · rw [am_u_n1 h]; exact hR e he
theorem c_cutC (hR : am_OR R) (hN : 116 ≤ n) (hn : n ≤ 1000) (hW : relW L) (tx : txI I 1 x) (hQ : ∀ I' L', am_ag cuC I I' → agC L L' → relW L' → tkS I' L' x 0 → Q none (n, I', L', am_u R 15 4 (some 1))) : am_E X (d + 6) mX11_cut 0 [some (.ref 15), some (.ref 1), some (.int (nI x.1)), none] [] (n, I, L, R) Q := by
  have hl := am_lt hN
  have hvw9 := am_lw hN
  have hT := tx.1
  have hmin : (if nI 2000 < nI x.1 then nI 2000 else nI x.1) = nI x.1 := if_neg (nI_nlt (by omega) (by omega))
  simp only [am_lv_of, rX11_cut_0, rX11_cut_1, rX11_cut_2, rX11_cut_5, rX11_cut_6, rX11_cut_7, rX11_cut_8, rX11_cut_9, rX11_cut_12, rX11_cut_15, rX11_cut_16, rX11_cut_17, rX11_cut_20, rX11_cut_21, ro_0_0 hR, ro_0_3 hR, ro_0_4 hR, ro_0_5 hR, ro_0_6 hR, ro_0_7 hR, ro_0_8 hR, ro_0_9 hR, ro_0_10 hR, ro_0_11 hR, ro_2_6 hR, ro_2_7 hR, ro_2_8 hR, ro_2_9 hR, ro_2_10 hR, ro_2_11 hR, ro_2_12 hR, ro_2_13 hR, ro_9_0 hR, ro_9_1 hR, ro_9_2 hR, ro_14_0 hR, ro_14_1 hR, ro_14_2 hR, ro_14_7 hR, ro_15_0 hR, ro_15_1 hR, ro_15_2 hR, ro_15_3 hR, ro_20_6 hR, ro_20_7 hR, ro_20_8 hR, ro_20_9 hR, ro_20_10 hR, ro_20_11 hR, ro_20_12 hR, ro_20_13 hR, ro_27_0 hR, ro_27_1 hR, ro_27_2 hR, ro_32_0 hR, ro_32_1 hR, ro_34_10 hR, ro_34_11 hR, ro_34_12 hR, ro_34_13 hR, ro_39_0 hR, ro_39_1 hR, ro_42_0 hR, ro_42_1 hR, ro_47_0 hR, ro_47_1 hR, ro_47_2 hR, ro_47_3 hR, ro_55_0 hR, ro_55_1 hR, ro_55_2 hR, ro_57_0 hR, ro_57_1 hR, ro_57_2 hR, ro_57_3 hR, ro_57_4 hR, ro_57_5 hR, ro_57_8 hR, sh_0, sh_1, sh_2, sh_3, sh_4, sh_5, sh_6, sh_7, sh_8, sh_9, sh_10, sh_11, sh_12, sh_13, sh_14, sh_15, sh_16, sh_17, sh_18, sh_19, sh_20, sh_21, sh_22, sh_23, sh_24, sh_25, sh_26, sh_27, sh_28, sh_29, sh_30, sh_31, sh_32, sh_33, sh_34, sh_35, sh_36, sh_37, sh_38, sh_39, sh_40, sh_41, sh_42, sh_43, sh_44, sh_45, sh_46, sh_47, sh_48, sh_49, sh_50, sh_51, sh_52, sh_53, sh_54, sh_55, sh_56, sh_57, sh_58, sh_59, sh_60, sh_61, sh_62, sh_63, sh_64, sh_65, sh_66, sh_67, sh_68, hl, hvw9, Nat.reduceLT, Nat.reduceAdd, Nat.reduceMul, ne_eq, Nat.reduceEqDiff, not_false_eq_true, or_true, true_or, or_false, false_or, and_true, true_and, and_self, Nat.reduceLeDiff, am_ci, am_cr, am_cn0, Option.toList_some, Option.toList_none, List.cons_append, List.nil_append, am_s0, am_s1, am_s1r, am_s2, am_s2r, am_s3r, nI_add, am_u_ne, am_u_at, am_u_n1, am_u_n2, am_w_ne, hn, hmin]
  have hR' := OR_15 hR
  refine l_cutC (I := am_u (am_u I 15 5 (nI x.1)) 15 6 (nI 0)) (L := L) am_ci hR' hN hn 401 0 _ L (by omega) am_ag.refl agC.refl hW ⟨?_, am_u_at, am_u_at, tx.ag (fun j => ?_), Nat.zero_le _⟩ (fun k hk => absurd hk (Nat.not_lt_zero k)) (fun I1 L1 g1 l1 w1 C1 => ?_)
  · rw [am_u_n2 (by omega), am_u_at]
  · rw [am_u_n1 (by omega), am_u_n1 (by omega)]
  · simp only [am_lv_of, rX11_cut_69, rX11_cut_70, rX11_cut_71, rX11_cut_74, rX11_cut_75, ro_0_0 hR, ro_0_3 hR, ro_0_4 hR, ro_0_5 hR, ro_0_6 hR, ro_0_7 hR, ro_0_8 hR, ro_0_9 hR, ro_0_10 hR, ro_0_11 hR, ro_2_6 hR, ro_2_7 hR, ro_2_8 hR, ro_2_9 hR, ro_2_10 hR, ro_2_11 hR, ro_2_12 hR, ro_2_13 hR, ro_9_0 hR, ro_9_1 hR, ro_9_2 hR, ro_14_0 hR, ro_14_1 hR, ro_14_2 hR, ro_14_7 hR, ro_15_0 hR, ro_15_1 hR, ro_15_2 hR, ro_15_3 hR, ro_20_6 hR, ro_20_7 hR, ro_20_8 hR, ro_20_9 hR, ro_20_10 hR, ro_20_11 hR, ro_20_12 hR, ro_20_13 hR, ro_27_0 hR, ro_27_1 hR, ro_27_2 hR, ro_32_0 hR, ro_32_1 hR, ro_34_10 hR, ro_34_11 hR, ro_34_12 hR, ro_34_13 hR, ro_39_0 hR, ro_39_1 hR, ro_42_0 hR, ro_42_1 hR, ro_47_0 hR, ro_47_1 hR, ro_47_2 hR, ro_47_3 hR, ro_55_0 hR, ro_55_1 hR, ro_55_2 hR, ro_57_0 hR, ro_57_1 hR, ro_57_2 hR, ro_57_3 hR, ro_57_4 hR, ro_57_5 hR, ro_57_8 hR, sh_0, sh_1, sh_2, sh_3, sh_4, sh_5, sh_6, sh_7, sh_8, sh_9, sh_10, sh_11, sh_12, sh_13, sh_14, sh_15, sh_16, sh_17, sh_18, sh_19, sh_20, sh_21, sh_22, sh_23, sh_24, sh_25, sh_26, sh_27, sh_28, sh_29, sh_30, sh_31, sh_32, sh_33, sh_34, sh_35, sh_36, sh_37, sh_38, sh_39, sh_40, sh_41, sh_42, sh_43, sh_44, sh_45, sh_46, sh_47, sh_48, sh_49, sh_50, sh_51, sh_52, sh_53, sh_54, sh_55, sh_56, sh_57, sh_58, sh_59, sh_60, sh_61, sh_62, sh_63, sh_64, sh_65, sh_66, sh_67, sh_68, hl, hvw9, Nat.reduceLT, Nat.reduceAdd, Nat.reduceMul, ne_eq, Nat.reduceEqDiff, not_false_eq_true, or_true, true_or, or_false, false_or, and_true, true_and, and_self, Nat.reduceLeDiff, am_ci, am_cr, am_cn0, Option.toList_some, Option.toList_none, List.cons_append, List.nil_append, am_s0, am_s1, am_s1r, am_s2, am_s2r, am_s3r, nI_add, am_u_ne, am_u_at, am_u_n1, am_u_n2, am_w_ne, hn]
    refine c_showNext (t := 0) hR' hN hn (C1.ag (fun k j hk => am_u_n1 (by omega)) (fun j => rfl)) (by omega) (by rw [am_u_at]; decide) (fun I2 L2 g2 l2 T2 => ?_)
    simp only [am_lv_of, Option.toList_none, List.nil_append, rX11_cut_78]
    refine hQ I2 L2 (am_ag.trans (am_ag.u (am_ag.trans (am_ag.u (am_ag.u am_ag.refl ?_) ?_) g1) ?_) (g2.mono (fun k j z => ?_))) (l1.trans l2.C) (w1.ag l2) T2 <;> (unfold cuC; omega)
end AV
