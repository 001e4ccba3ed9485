--! 88
/-! TEXTS: the class's next token -/
theorem sn_cases (l : List Nat) : l = [] ∨ ∃ L b, l = L ++ [b] := by
  induction l with
  | nil => exact Or.inl rfl
  | cons a l ih =>
    rcases ih with rfl | ⟨L, b, rfl⟩
    · exact Or.inr ⟨[], a, rfl⟩
    · exact Or.inr ⟨a :: L, b, rfl⟩
def okW (l : List Nat) : Prop := ∀ c, c ∈ l → 1 ≤ c ∧ c ≤ 26
theorem cdW_inj {B : Nat} (hB : 27 ≤ B) : ∀ (n : Nat) (l l' : List Nat), l.length = n → okW l → okW l' → cdW B l = cdW B l' → l = l' := by
  intro n
  induction n with
  | zero =>
    intro l l' hn h1 h2 h
    have : l = [] := List.length_eq_zero_iff.mp hn
    subst this
    rcases sn_cases l' with rfl | ⟨L, b, rfl⟩
    · rfl
    · rw [cdW_s] at h
      have := h2 b (by simp)
      have e : cdW B [] = 0 := rfl
      omega
  | succ n ih =>
    intro l l' hn h1 h2 h
    rcases sn_cases l with rfl | ⟨L, b, rfl⟩
    · simp at hn
    · have hb := h1 b (by simp)
      rw [cdW_s] at h
      rcases sn_cases l' with rfl | ⟨L', b', rfl⟩
      · have e : cdW B [] = 0 := rfl
        omega
      · have hb' := h2 b' (by simp)
        rw [cdW_s] at h
        have e1 : b = b' := by
          have q1 : (B * cdW B L + b) % B = b := by rw [Nat.mul_add_mod, Nat.mod_eq_of_lt (by omega)]
          have q2 : (B * cdW B L' + b') % B = b' := by rw [Nat.mul_add_mod, Nat.mod_eq_of_lt (by omega)]
          rw [← q1, h, q2]
        have e2 : cdW B L = cdW B L' := by
          have : B * cdW B L = B * cdW B L' := by omega
          exact Nat.eq_of_mul_eq_mul_left (by omega) this
        have := ih L L' (by simpa using hn) (fun c hc => h1 c (by simp [hc])) (fun c hc => h2 c (by simp [hc])) e2
        rw [this, e1]
theorem cdW_lt {B : Nat} (hB : 27 ≤ B) : ∀ (n : Nat) (l : List Nat), l.length = n → okW l → cdW B l < B ^ n := by
  intro n
  induction n with
  | zero =>
    intro l hn h
    have : l = [] := List.length_eq_zero_iff.mp hn
    subst this
    show 0 < B ^ 0
    rw [Nat.pow_zero]
    omega
  | succ n ih =>
    intro l hn h
    rcases sn_cases l with rfl | ⟨L, b, rfl⟩
    · simp at hn
    · have hb := h b (by simp)
      have := ih L (by simpa using hn) (fun c hc => h c (by simp [hc]))
      rw [cdW_s, Nat.pow_succ, Nat.mul_comm (B ^ n)]
      calc B * cdW B L + b < B * cdW B L + B := by omega
        _ = B * (cdW B L + 1) := by rw [Nat.mul_add, Nat.mul_one]
        _ ≤ B * B ^ n := Nat.mul_le_mul_left _ this
theorem cdW_63 {B : Nat} {l : List Nat} (hB : B = 27 ∨ B = 32) (hl : l.length ≤ 8) (h : okW l) : cdW B l < 2 ^ 63 := by
  have h1 := cdW_lt (B := B) (by omega) l.length l rfl h
  have h2 : B ^ l.length ≤ B ^ 8 := Nat.pow_le_pow_right (by omega) hl
  have h3 : B ^ 8 ≤ 2 ^ 40 := by rcases hB with rfl | rfl <;> decide
  omega
theorem cdW_eq {B : Nat} {l l' : List Nat} (hB : B = 27 ∨ B = 32) (h1 : okW l) (h2 : okW l') (l1 : l.length ≤ 8) (l2 : l'.length ≤ 8) : lN (cdW B l) = lN (cdW B l') ↔ l = l' := by
  rw [pk_lEQ (cdW_63 hB l1 h1) (cdW_63 hB l2 h2)]
  exact ⟨cdW_inj (by omega) l.length l l' rfl h1 h2, fun h => by rw [h]⟩
theorem wds_ok : ∀ k, k < 20 → okW (wds.getD k []) ∧ (wds.getD k []).length ≤ 8 := by
  have : ∀ k, k < 20 → (∀ c, c ∈ wds.getD k [] → 1 ≤ c ∧ c ≤ 26) ∧ (wds.getD k []).length ≤ 8 := by decide
  exact this
def wIx (l : List Nat) : Nat := wds.findIdx (fun w => w == l)
theorem wIx_le (l : List Nat) : wIx l ≤ 20 := List.findIdx_le_length
theorem wds_at {i : Nat} (hl : i < wds.length) : wds.getD i [] = wds[i] := by
  unfold List.getD
  rw [List.getElem?_eq_getElem hl]
  rfl
theorem wIx_lt {l : List Nat} {i : Nat} (h : i < wIx l) : ¬ wds.getD i [] = l := by
  have h20 := wIx_le l
  have hl : i < wds.length := Nat.lt_of_lt_of_le h List.findIdx_le_length
  have := List.not_of_lt_findIdx (p := fun w => w == l) (xs := wds) h
  rw [wds_at hl]
  intro z
  simp [z] at this
theorem wIx_at {l : List Nat} (h : wIx l < 20) : wds.getD (wIx l) [] = l := by
  have hl : wIx l < wds.length := h
  have := List.findIdx_getElem (p := fun w => w == l) (xs := wds) (w := hl)
  rw [wds_at hl]
  exact eq_of_beq this
theorem nmX_ok {x : txt} {p : Nat} : okW (nmX x p (rn x (xL x) p)) := by
  intro c hc
  unfold nmX at hc
  obtain ⟨j, hj, rfl⟩ := List.mem_map.mp hc
  rw [List.mem_range] at hj
  have h := (rn_in (x := x) (p := xL x) xL_lt (x.1 - p) p rfl).2 (p + j) (by omega) (by omega)
  have := (of_decide_eq_true h).2
  omega
theorem tK_let {x : txt} {i : Nat} (h : tK x i ≤ 20) : xL x (tP x i) = true ∧ rn x (xL x) (tP x i) - tP x i ≤ 8 ∧ tK x i = wIx (tM x i) := by
  unfold tK at h
  by_cases h1 : x.1 ≤ tP x i
  · rw [if_pos h1] at h; omega
  · rw [if_neg h1] at h
    by_cases h2 : xL x (tP x i) = true
    · rw [if_pos h2] at h
      by_cases h3 : 8 < rn x (xL x) (tP x i) - tP x i
      · rw [if_pos h3] at h; omega
      · refine ⟨h2, by omega, ?_⟩
        unfold tK
        rw [if_neg h1, if_pos h2, if_neg h3]
        rfl
    · rw [if_neg h2] at h
      by_cases h3 : xD x (tP x i) = true
      · rw [if_pos h3] at h
        split at h <;> omega
      · rw [if_neg h3] at h
        by_cases h4 : isSg (x.2 (tP x i)) = true
        · rw [if_pos h4] at h
          have := of_decide_eq_true h4
          omega
        · rw [if_neg h4] at h; omega
theorem tM_ok {x : txt} {i : Nat} (h : tK x i ≤ 20) : okW (tM x i) ∧ (tM x i).length ≤ 8 := ⟨nmX_ok, by unfold tM; rw [nmX_len]; exact (tK_let h).2.1⟩
def relW (L : Nat → Nat → Int64) : Prop := ∀ k, k < 20 → L 16 k = lN (cdW 32 (wds.getD k []))
theorem relW.ag {L L' : Nat → Nat → Int64} (h : relW L) (g : agL L L') : relW L' := fun k hk => by rw [g 16 k (by omega)]; exact h k hk
theorem lcmp_eq {a b : Int64} : (lg_cmp a b = 0) ↔ a = b := by
  unfold lg_cmp
  by_cases h1 : a > b
  · rw [if_pos h1]
    constructor
    · intro z; exact absurd z (by decide)
    · intro z; subst z; exact absurd h1 (fun q => Int64.lt_irrefl q)
  · rw [if_neg h1]
    by_cases h2 : a = b
    · simp [h2]
    · simp [h2]
section AV
variable {X : am_X} {d n : Nat} {I : Nat → Nat → Int32} {L : Nat → Nat → Int64} {R : Nat → Nat → Option Nat} {Q : Option Value → am_M → Prop} {x : txt}
theorem l_words {l : List Nat} (hR : am_OR R) (hN : 116 ≤ n) (hn : n ≤ 1000) (hW : relW L) (h7 : L 15 7 = lN (cdW 32 l)) (hl1 : okW l) (hl2 : l.length ≤ 8) (h4 : I 15 4 = nI 20) (hQ : ∀ I', am_ag (fun k j => k = 15 ∧ j = 4) I I' → I' 15 4 = nI (wIx l) → Q none (n, I', L, R)) : ∀ (m i : Nat), i + m = 20 → i ≤ wIx l → am_E X d mX11_letters 108 [some (.ref 15), some (.int (nI i))] [] (n, I, L, R) Q := by
  have hl := am_lt hN
  intro m
  induction m with
  | zero =>
    intro i hi hle
    have hi : i = 20 := by omega
    subst hi
    have c1 : nI 20 ≤ nI 20 := by decide
    have := wIx_le l
    simp only [rX11_letters_108, rX11_letters_109, rX11_letters_110, rX11_letters_113, rX11_letters_114, rX11_letters_151, ro_0_0 hR, ro_0_3 hR, ro_0_4 hR, ro_0_5 hR, ro_0_6 hR, ro_0_7 hR, ro_0_8 hR, ro_0_9 hR, ro_0_10 hR, ro_0_11 hR, ro_2_6 hR, ro_2_7 hR, ro_2_8 hR, ro_2_9 hR, ro_2_10 hR, ro_2_11 hR, ro_2_12 hR, ro_2_13 hR, ro_9_0 hR, ro_9_1 hR, ro_9_2 hR, ro_14_0 hR, ro_14_1 hR, ro_14_2 hR, ro_14_7 hR, ro_15_0 hR, ro_20_6 hR, ro_20_7 hR, ro_20_8 hR, ro_20_9 hR, ro_20_10 hR, ro_20_11 hR, ro_20_12 hR, ro_20_13 hR, ro_27_0 hR, ro_27_1 hR, ro_27_2 hR, ro_32_0 hR, ro_32_1 hR, ro_34_10 hR, ro_34_11 hR, ro_34_12 hR, ro_34_13 hR, ro_39_0 hR, ro_39_1 hR, ro_42_0 hR, ro_42_1 hR, ro_47_0 hR, ro_47_1 hR, ro_47_2 hR, ro_47_3 hR, ro_55_0 hR, ro_55_1 hR, ro_55_2 hR, ro_57_0 hR, ro_57_1 hR, ro_57_2 hR, ro_57_3 hR, ro_57_4 hR, ro_57_5 hR, ro_57_8 hR, sh_0, sh_1, sh_2, sh_3, sh_4, sh_5, sh_6, sh_7, sh_8, sh_9, sh_10, sh_11, sh_12, sh_13, sh_14, sh_15, sh_16, sh_17, sh_18, sh_19, sh_20, sh_21, sh_22, sh_23, sh_24, sh_25, sh_26, sh_27, sh_28, sh_29, sh_30, sh_31, sh_32, sh_33, sh_34, sh_35, sh_36, sh_37, sh_38, sh_39, sh_40, sh_41, sh_42, sh_43, sh_44, sh_45, sh_46, sh_47, sh_48, sh_49, sh_50, sh_51, sh_52, sh_53, sh_54, sh_55, sh_56, sh_57, sh_58, sh_59, sh_60, sh_61, sh_62, sh_63, sh_64, sh_65, sh_66, sh_67, sh_68, hl, Nat.reduceLT, Nat.reduceAdd, Nat.reduceMul, ne_eq, Nat.reduceEqDiff, not_false_eq_true, or_true, true_or, or_false, false_or, and_true, true_and, and_self, Nat.reduceLeDiff, am_ci, am_cr, am_cn0, Option.toList_some, Option.toList_none, List.cons_append, List.nil_append, am_s0, am_s1, am_s1r, am_s2, am_s2r, am_s3r, nI_add, am_u_ne, am_u_at, am_u_n1, am_u_n2, am_w_ne, ↓reduceIte, c1]
    exact hQ I am_ag.refl (by rw [h4]; exact congrArg nI (by omega))
  | succ m ih =>
    intro i hi hle
    have c1 : ¬ nI 20 ≤ nI i := nI_ge (by omega) (by omega)
    have i20 : i < 20 := by omega
    have e20 : (nI 20 = nI 20) = True := eq_true rfl
    obtain ⟨w1, w2⟩ := wds_ok i i20
    rw [rX11_letters_108]
    simp only [rX11_letters_109, rX11_letters_110, rX11_letters_113, rX11_letters_114, rX11_letters_117, rX11_letters_118, rX11_letters_121, rX11_letters_123, rX11_letters_126, rX11_letters_127, rX11_letters_130, rX11_letters_131, rX11_letters_132, rX11_letters_133, rX11_letters_136, ro_0_0 hR, ro_0_3 hR, ro_0_4 hR, ro_0_5 hR, ro_0_6 hR, ro_0_7 hR, ro_0_8 hR, ro_0_9 hR, ro_0_10 hR, ro_0_11 hR, ro_2_6 hR, ro_2_7 hR, ro_2_8 hR, ro_2_9 hR, ro_2_10 hR, ro_2_11 hR, ro_2_12 hR, ro_2_13 hR, ro_9_0 hR, ro_9_1 hR, ro_9_2 hR, ro_14_0 hR, ro_14_1 hR, ro_14_2 hR, ro_14_7 hR, ro_15_0 hR, ro_20_6 hR, ro_20_7 hR, ro_20_8 hR, ro_20_9 hR, ro_20_10 hR, ro_20_11 hR, ro_20_12 hR, ro_20_13 hR, ro_27_0 hR, ro_27_1 hR, ro_27_2 hR, ro_32_0 hR, ro_32_1 hR, ro_34_10 hR, ro_34_11 hR, ro_34_12 hR, ro_34_13 hR, ro_39_0 hR, ro_39_1 hR, ro_42_0 hR, ro_42_1 hR, ro_47_0 hR, ro_47_1 hR, ro_47_2 hR, ro_47_3 hR, ro_55_0 hR, ro_55_1 hR, ro_55_2 hR, ro_57_0 hR, ro_57_1 hR, ro_57_2 hR, ro_57_3 hR, ro_57_4 hR, ro_57_5 hR, ro_57_8 hR, sh_0, sh_1, sh_2, sh_3, sh_4, sh_5, sh_6, sh_7, sh_8, sh_9, sh_10, sh_11, sh_12, sh_13, sh_14, sh_15, sh_16, sh_17, sh_18, sh_19, sh_20, sh_21, sh_22, sh_23, sh_24, sh_25, sh_26, sh_27, sh_28, sh_29, sh_30, sh_31, sh_32, sh_33, sh_34, sh_35, sh_36, sh_37, sh_38, sh_39, sh_40, sh_41, sh_42, sh_43, sh_44, sh_45, sh_46, sh_47, sh_48, sh_49, sh_50, sh_51, sh_52, sh_53, sh_54, sh_55, sh_56, sh_57, sh_58, sh_59, sh_60, sh_61, sh_62, sh_63, sh_64, sh_65, sh_66, sh_67, sh_68, hl, Nat.reduceLT, Nat.reduceAdd, Nat.reduceMul, ne_eq, Nat.reduceEqDiff, not_false_eq_true, or_true, true_or, or_false, false_or, and_true, true_and, and_self, Nat.reduceLeDiff, am_ci, am_cr, am_cn0, Option.toList_some, Option.toList_none, List.cons_append, List.nil_append, am_s0, am_s1, am_s1r, am_s2, am_s2r, am_s3r, nI_add, am_u_ne, am_u_at, am_u_n1, am_u_n2, am_w_ne, ↓reduceIte, c1, h4, e20, not_true_eq_false, i20, hW i i20, h7, rX11_letters_137, lcmp_eq, cdW_eq (Or.inr rfl) w1 hl1 w2 hl2]
    by_cases hc : wds.getD i [] = l
    · have hc' : (wds.getD i [] = l) = True := eq_true hc
      have hiw : i = wIx l := by
        by_cases e : i < wIx l
        · exact absurd hc (wIx_lt e)
        · omega
      simp only [hc', not_true_eq_false, ↓reduceIte, rX11_letters_140, rX11_letters_141, rX11_letters_142, rX11_letters_145, rX11_letters_148, ro_0_0 hR, ro_0_3 hR, ro_0_4 hR, ro_0_5 hR, ro_0_6 hR, ro_0_7 hR, ro_0_8 hR, ro_0_9 hR, ro_0_10 hR, ro_0_11 hR, ro_2_6 hR, ro_2_7 hR, ro_2_8 hR, ro_2_9 hR, ro_2_10 hR, ro_2_11 hR, ro_2_12 hR, ro_2_13 hR, ro_9_0 hR, ro_9_1 hR, ro_9_2 hR, ro_14_0 hR, ro_14_1 hR, ro_14_2 hR, ro_14_7 hR, ro_15_0 hR, ro_20_6 hR, ro_20_7 hR, ro_20_8 hR, ro_20_9 hR, ro_20_10 hR, ro_20_11 hR, ro_20_12 hR, ro_20_13 hR, ro_27_0 hR, ro_27_1 hR, ro_27_2 hR, ro_32_0 hR, ro_32_1 hR, ro_34_10 hR, ro_34_11 hR, ro_34_12 hR, ro_34_13 hR, ro_39_0 hR, ro_39_1 hR, ro_42_0 hR, ro_42_1 hR, ro_47_0 hR, ro_47_1 hR, ro_47_2 hR, ro_47_3 hR, ro_55_0 hR, ro_55_1 hR, ro_55_2 hR, ro_57_0 hR, ro_57_1 hR, ro_57_2 hR, ro_57_3 hR, ro_57_4 hR, ro_57_5 hR, ro_57_8 hR, sh_0, sh_1, sh_2, sh_3, sh_4, sh_5, sh_6, sh_7, sh_8, sh_9, sh_10, sh_11, sh_12, sh_13, sh_14, sh_15, sh_16, sh_17, sh_18, sh_19, sh_20, sh_21, sh_22, sh_23, sh_24, sh_25, sh_26, sh_27, sh_28, sh_29, sh_30, sh_31, sh_32, sh_33, sh_34, sh_35, sh_36, sh_37, sh_38, sh_39, sh_40, sh_41, sh_42, sh_43, sh_44, sh_45, sh_46, sh_47, sh_48, sh_49, sh_50, sh_51, sh_52, sh_53, sh_54, sh_55, sh_56, sh_57, sh_58, sh_59, sh_60, sh_61, sh_62, sh_63, sh_64, sh_65, sh_66, sh_67, sh_68, hl, Nat.reduceLT, Nat.reduceAdd, Nat.reduceMul, ne_eq, Nat.reduceEqDiff, not_false_eq_true, or_true, true_or, or_false, false_or, and_true, true_and, and_self, Nat.reduceLeDiff, am_ci, am_cr, am_cn0, Option.toList_some, Option.toList_none, List.cons_append, List.nil_append, am_s0, am_s1, am_s1r, am_s2, am_s2r, am_s3r, nI_add, am_u_ne, am_u_at, am_u_n1, am_u_n2, am_w_ne, hn]
      have fin := hQ (am_u I 15 4 (nI i)) (am_ag.refl.u ⟨rfl, rfl⟩) (by rw [am_u_at, hiw])
      by_cases e19 : i + 1 = 20
      · have c2 : nI 20 ≤ nI (i + 1) := by rw [e19]; decide
        simp only [rX11_letters_108, rX11_letters_109, rX11_letters_110, rX11_letters_113, rX11_letters_114, rX11_letters_151, ro_0_0 hR, ro_0_3 hR, ro_0_4 hR, ro_0_5 hR, ro_0_6 hR, ro_0_7 hR, ro_0_8 hR, ro_0_9 hR, ro_0_10 hR, ro_0_11 hR, ro_2_6 hR, ro_2_7 hR, ro_2_8 hR, ro_2_9 hR, ro_2_10 hR, ro_2_11 hR, ro_2_12 hR, ro_2_13 hR, ro_9_0 hR, ro_9_1 hR, ro_9_2 hR, ro_14_0 hR, ro_14_1 hR, ro_14_2 hR, ro_14_7 hR, ro_15_0 hR, ro_20_6 hR, ro_20_7 hR, ro_20_8 hR, ro_20_9 hR, ro_20_10 hR, ro_20_11 hR, ro_20_12 hR, ro_20_13 hR, ro_27_0 hR, ro_27_1 hR, ro_27_2 hR, ro_32_0 hR, ro_32_1 hR, ro_34_10 hR, ro_34_11 hR, ro_34_12 hR, ro_34_13 hR, ro_39_0 hR, ro_39_1 hR, ro_42_0 hR, ro_42_1 hR, ro_47_0 hR, ro_47_1 hR, ro_47_2 hR, ro_47_3 hR, ro_55_0 hR, ro_55_1 hR, ro_55_2 hR, ro_57_0 hR, ro_57_1 hR, ro_57_2 hR, ro_57_3 hR, ro_57_4 hR, ro_57_5 hR, ro_57_8 hR, sh_0, sh_1, sh_2, sh_3, sh_4, sh_5, sh_6, sh_7, sh_8, sh_9, sh_10, sh_11, sh_12, sh_13, sh_14, sh_15, sh_16, sh_17, sh_18, sh_19, sh_20, sh_21, sh_22, sh_23, sh_24, sh_25, sh_26, sh_27, sh_28, sh_29, sh_30, sh_31, sh_32, sh_33, sh_34, sh_35, sh_36, sh_37, sh_38, sh_39, sh_40, sh_41, sh_42, sh_43, sh_44, sh_45, sh_46, sh_47, sh_48, sh_49, sh_50, sh_51, sh_52, sh_53, sh_54, sh_55, sh_56, sh_57, sh_58, sh_59, sh_60, sh_61, sh_62, sh_63, sh_64, sh_65, sh_66, sh_67, sh_68, hl, Nat.reduceLT, Nat.reduceAdd, Nat.reduceMul, ne_eq, Nat.reduceEqDiff, not_false_eq_true, or_true, true_or, or_false, false_or, and_true, true_and, and_self, Nat.reduceLeDiff, am_ci, am_cr, am_cn0, Option.toList_some, Option.toList_none, List.cons_append, List.nil_append, am_s0, am_s1, am_s1r, am_s2, am_s2r, am_s3r, nI_add, am_u_ne, am_u_at, am_u_n1, am_u_n2, am_w_ne, ↓reduceIte, c2]
        exact fin
      · have c2 : ¬ nI 20 ≤ nI (i + 1) := nI_ge (by omega) (by omega)
        have c3 : ¬ nI i = nI 20 := nI_ne (by omega) (by omega) (by omega)
        simp only [rX11_letters_108, rX11_letters_109, rX11_letters_110, rX11_letters_113, rX11_letters_114, rX11_letters_117, rX11_letters_118, rX11_letters_121, rX11_letters_123, rX11_letters_151, ro_0_0 hR, ro_0_3 hR, ro_0_4 hR, ro_0_5 hR, ro_0_6 hR, ro_0_7 hR, ro_0_8 hR, ro_0_9 hR, ro_0_10 hR, ro_0_11 hR, ro_2_6 hR, ro_2_7 hR, ro_2_8 hR, ro_2_9 hR, ro_2_10 hR, ro_2_11 hR, ro_2_12 hR, ro_2_13 hR, ro_9_0 hR, ro_9_1 hR, ro_9_2 hR, ro_14_0 hR, ro_14_1 hR, ro_14_2 hR, ro_14_7 hR, ro_15_0 hR, ro_20_6 hR, ro_20_7 hR, ro_20_8 hR, ro_20_9 hR, ro_20_10 hR, ro_20_11 hR, ro_20_12 hR, ro_20_13 hR, ro_27_0 hR, ro_27_1 hR, ro_27_2 hR, ro_32_0 hR, ro_32_1 hR, ro_34_10 hR, ro_34_11 hR, ro_34_12 hR, ro_34_13 hR, ro_39_0 hR, ro_39_1 hR, ro_42_0 hR, ro_42_1 hR, ro_47_0 hR, ro_47_1 hR, ro_47_2 hR, ro_47_3 hR, ro_55_0 hR, ro_55_1 hR, ro_55_2 hR, ro_57_0 hR, ro_57_1 hR, ro_57_2 hR, ro_57_3 hR, ro_57_4 hR, ro_57_5 hR, ro_57_8 hR, sh_0, sh_1, sh_2, sh_3, sh_4, sh_5, sh_6, sh_7, sh_8, sh_9, sh_10, sh_11, sh_12, sh_13, sh_14, sh_15, sh_16, sh_17, sh_18, sh_19, sh_20, sh_21, sh_22, sh_23, sh_24, sh_25, sh_26, sh_27, sh_28, sh_29, sh_30, sh_31, sh_32, sh_33, sh_34, sh_35, sh_36, sh_37, sh_38, sh_39, sh_40, sh_41, sh_42, sh_43, sh_44, sh_45, sh_46, sh_47, sh_48, sh_49, sh_50, sh_51, sh_52, sh_53, sh_54, sh_55, sh_56, sh_57, sh_58, sh_59, sh_60, sh_61, sh_62, sh_63, sh_64, sh_65, sh_66, sh_67, sh_68, hl, Nat.reduceLT, Nat.reduceAdd, Nat.reduceMul, ne_eq, Nat.reduceEqDiff, not_false_eq_true, or_true, true_or, or_false, false_or, and_true, true_and, and_self, Nat.reduceLeDiff, am_ci, am_cr, am_cn0, Option.toList_some, Option.toList_none, List.cons_append, List.nil_append, am_s0, am_s1, am_s1r, am_s2, am_s2r, am_s3r, nI_add, am_u_ne, am_u_at, am_u_n1, am_u_n2, am_w_ne, ↓reduceIte, c2, c3, not_false_eq_true]
        exact fin
    · simp only [hc, not_false_eq_true, ↓reduceIte, rX11_letters_145, rX11_letters_148, ro_0_0 hR, ro_0_3 hR, ro_0_4 hR, ro_0_5 hR, ro_0_6 hR, ro_0_7 hR, ro_0_8 hR, ro_0_9 hR, ro_0_10 hR, ro_0_11 hR, ro_2_6 hR, ro_2_7 hR, ro_2_8 hR, ro_2_9 hR, ro_2_10 hR, ro_2_11 hR, ro_2_12 hR, ro_2_13 hR, ro_9_0 hR, ro_9_1 hR, ro_9_2 hR, ro_14_0 hR, ro_14_1 hR, ro_14_2 hR, ro_14_7 hR, ro_15_0 hR, ro_20_6 hR, ro_20_7 hR, ro_20_8 hR, ro_20_9 hR, ro_20_10 hR, ro_20_11 hR, ro_20_12 hR, ro_20_13 hR, ro_27_0 hR, ro_27_1 hR, ro_27_2 hR, ro_32_0 hR, ro_32_1 hR, ro_34_10 hR, ro_34_11 hR, ro_34_12 hR, ro_34_13 hR, ro_39_0 hR, ro_39_1 hR, ro_42_0 hR, ro_42_1 hR, ro_47_0 hR, ro_47_1 hR, ro_47_2 hR, ro_47_3 hR, ro_55_0 hR, ro_55_1 hR, ro_55_2 hR, ro_57_0 hR, ro_57_1 hR, ro_57_2 hR, ro_57_3 hR, ro_57_4 hR, ro_57_5 hR, ro_57_8 hR, sh_0, sh_1, sh_2, sh_3, sh_4, sh_5, sh_6, sh_7, sh_8, sh_9, sh_10, sh_11, sh_12, sh_13, sh_14, sh_15, sh_16, sh_17, sh_18, sh_19, sh_20, sh_21, sh_22, sh_23, sh_24, sh_25, sh_26, sh_27, sh_28, sh_29, sh_30, sh_31, sh_32, sh_33, sh_34, sh_35, sh_36, sh_37, sh_38, sh_39, sh_40, sh_41, sh_42, sh_43, sh_44, sh_45, sh_46, sh_47, sh_48, sh_49, sh_50, sh_51, sh_52, sh_53, sh_54, sh_55, sh_56, sh_57, sh_58, sh_59, sh_60, sh_61, sh_62, sh_63, sh_64, sh_65, sh_66, sh_67, sh_68, hl, Nat.reduceLT, Nat.reduceAdd, Nat.reduceMul, ne_eq, Nat.reduceEqDiff, not_false_eq_true, or_true, true_or, or_false, false_or, and_true, true_and, and_self, Nat.reduceLeDiff, am_ci, am_cr, am_cn0, Option.toList_some, Option.toList_none, List.cons_append, List.nil_append, am_s0, am_s1, am_s1r, am_s2, am_s2r, am_s3r, nI_add, am_u_ne, am_u_at, am_u_n1, am_u_n2, am_w_ne]
      refine ih (i + 1) (by omega) ?_
      by_cases e : i = wIx l
      · exact absurd (by rw [e]; exact wIx_at (by omega)) hc
      · omega
theorem c_letters {p : Nat} (hR : am_OR R) (hN : 116 ≤ n) (hn : n ≤ 1000) (hW : relW L) (H : tkA I R x p) (h5 : I 15 5 = nI p) (hQ : ∀ I' L', am_ag tkP I I' → agL L L' → tkA I' R x (rn x (xL x) p) → I' 15 5 = nI p → I' 15 4 = nI (if 8 < rn x (xL x) p - p then 23 else wIx (nmX x p (rn x (xL x) p))) → L' 15 7 = lN (cdW 32 (nmX x p (rn x (xL x) p))) → Q none (n, I', L', R)) : am_E X d mX11_letters 0 [some (.ref 15), none] [] (n, I, L, R) Q := by
  have hl := am_lt hN
  simp only [rX11_letters_0, rX11_letters_1, rX11_letters_2, ro_0_0 hR, ro_0_3 hR, ro_0_4 hR, ro_0_5 hR, ro_0_6 hR, ro_0_7 hR, ro_0_8 hR, ro_0_9 hR, ro_0_10 hR, ro_0_11 hR, ro_2_6 hR, ro_2_7 hR, ro_2_8 hR, ro_2_9 hR, ro_2_10 hR, ro_2_11 hR, ro_2_12 hR, ro_2_13 hR, ro_9_0 hR, ro_9_1 hR, ro_9_2 hR, ro_14_0 hR, ro_14_1 hR, ro_14_2 hR, ro_14_7 hR, ro_15_0 hR, ro_20_6 hR, ro_20_7 hR, ro_20_8 hR, ro_20_9 hR, ro_20_10 hR, ro_20_11 hR, ro_20_12 hR, ro_20_13 hR, ro_27_0 hR, ro_27_1 hR, ro_27_2 hR, ro_32_0 hR, ro_32_1 hR, ro_34_10 hR, ro_34_11 hR, ro_34_12 hR, ro_34_13 hR, ro_39_0 hR, ro_39_1 hR, ro_42_0 hR, ro_42_1 hR, ro_47_0 hR, ro_47_1 hR, ro_47_2 hR, ro_47_3 hR, ro_55_0 hR, ro_55_1 hR, ro_55_2 hR, ro_57_0 hR, ro_57_1 hR, ro_57_2 hR, ro_57_3 hR, ro_57_4 hR, ro_57_5 hR, ro_57_8 hR, sh_0, sh_1, sh_2, sh_3, sh_4, sh_5, sh_6, sh_7, sh_8, sh_9, sh_10, sh_11, sh_12, sh_13, sh_14, sh_15, sh_16, sh_17, sh_18, sh_19, sh_20, sh_21, sh_22, sh_23, sh_24, sh_25, sh_26, sh_27, sh_28, sh_29, sh_30, sh_31, sh_32, sh_33, sh_34, sh_35, sh_36, sh_37, sh_38, sh_39, sh_40, sh_41, sh_42, sh_43, sh_44, sh_45, sh_46, sh_47, sh_48, sh_49, sh_50, sh_51, sh_52, sh_53, sh_54, sh_55, sh_56, sh_57, sh_58, sh_59, sh_60, sh_61, sh_62, sh_63, sh_64, sh_65, sh_66, sh_67, sh_68, hl, Nat.reduceLT, Nat.reduceAdd, Nat.reduceMul, ne_eq, Nat.reduceEqDiff, not_false_eq_true, or_true, true_or, or_false, false_or, and_true, true_and, and_self, Nat.reduceLeDiff, am_ci, am_cr, am_cn0, Option.toList_some, Option.toList_none, List.cons_append, List.nil_append, am_s0, am_s1, am_s1r, am_s2, am_s2r, am_s3r, nI_add, am_u_ne, am_u_at, am_u_n1, am_u_n2, am_w_ne, hn]
  refine l_letters (p := p) (I := I) (L := L) hR hN hn (x.1 - p) p I _ rfl (Nat.le_refl _) am_ag.refl agL.refl.u H h5 (by rw [am_u_at, nmX_0]; rfl) (fun I1 L1 g1 k1 H1 q5 q7 => ?_)
  obtain ⟨h1, h2, h3, h4, h6⟩ := id H1
  have hge := rn_ge (x := x) (p := xL x) (i := p)
  have hT := h4.1
  have s1 : nI (rn x (xL x) p) - nI p = nI (rn x (xL x) p - p) := pk_sub hge
  simp only [rX11_letters_81, rX11_letters_82, rX11_letters_83, rX11_letters_86, rX11_letters_87, rX11_letters_90, rX11_letters_91, ro_0_0 hR, ro_0_3 hR, ro_0_4 hR, ro_0_5 hR, ro_0_6 hR, ro_0_7 hR, ro_0_8 hR, ro_0_9 hR, ro_0_10 hR, ro_0_11 hR, ro_2_6 hR, ro_2_7 hR, ro_2_8 hR, ro_2_9 hR, ro_2_10 hR, ro_2_11 hR, ro_2_12 hR, ro_2_13 hR, ro_9_0 hR, ro_9_1 hR, ro_9_2 hR, ro_14_0 hR, ro_14_1 hR, ro_14_2 hR, ro_14_7 hR, ro_15_0 hR, ro_20_6 hR, ro_20_7 hR, ro_20_8 hR, ro_20_9 hR, ro_20_10 hR, ro_20_11 hR, ro_20_12 hR, ro_20_13 hR, ro_27_0 hR, ro_27_1 hR, ro_27_2 hR, ro_32_0 hR, ro_32_1 hR, ro_34_10 hR, ro_34_11 hR, ro_34_12 hR, ro_34_13 hR, ro_39_0 hR, ro_39_1 hR, ro_42_0 hR, ro_42_1 hR, ro_47_0 hR, ro_47_1 hR, ro_47_2 hR, ro_47_3 hR, ro_55_0 hR, ro_55_1 hR, ro_55_2 hR, ro_57_0 hR, ro_57_1 hR, ro_57_2 hR, ro_57_3 hR, ro_57_4 hR, ro_57_5 hR, ro_57_8 hR, sh_0, sh_1, sh_2, sh_3, sh_4, sh_5, sh_6, sh_7, sh_8, sh_9, sh_10, sh_11, sh_12, sh_13, sh_14, sh_15, sh_16, sh_17, sh_18, sh_19, sh_20, sh_21, sh_22, sh_23, sh_24, sh_25, sh_26, sh_27, sh_28, sh_29, sh_30, sh_31, sh_32, sh_33, sh_34, sh_35, sh_36, sh_37, sh_38, sh_39, sh_40, sh_41, sh_42, sh_43, sh_44, sh_45, sh_46, sh_47, sh_48, sh_49, sh_50, sh_51, sh_52, sh_53, sh_54, sh_55, sh_56, sh_57, sh_58, sh_59, sh_60, sh_61, sh_62, sh_63, sh_64, sh_65, sh_66, sh_67, sh_68, hl, Nat.reduceLT, Nat.reduceAdd, Nat.reduceMul, ne_eq, Nat.reduceEqDiff, not_false_eq_true, or_true, true_or, or_false, false_or, and_true, true_and, and_self, Nat.reduceLeDiff, am_ci, am_cr, am_cn0, Option.toList_some, Option.toList_none, List.cons_append, List.nil_append, am_s0, am_s1, am_s1r, am_s2, am_s2r, am_s3r, nI_add, am_u_ne, am_u_at, am_u_n1, am_u_n2, am_w_ne, h2, q5, s1, rX11_letters_93]
  by_cases hc : 8 < rn x (xL x) p - p
  · have c1 : ¬ nI (rn x (xL x) p - p) ≤ nI 8 := nI_ge hc (by omega)
    have c2 : ¬ nI 20 ≤ nI 0 := by decide
    have c3 : ¬ nI 23 = nI 20 := by decide
    simp only [c1, ↓reduceIte, rX11_letters_96, rX11_letters_98, rX11_letters_103, rX11_letters_106, rX11_letters_107, rX11_letters_108, rX11_letters_109, rX11_letters_110, rX11_letters_113, rX11_letters_114, rX11_letters_117, rX11_letters_118, rX11_letters_121, rX11_letters_123, rX11_letters_151, ro_0_0 hR, ro_0_3 hR, ro_0_4 hR, ro_0_5 hR, ro_0_6 hR, ro_0_7 hR, ro_0_8 hR, ro_0_9 hR, ro_0_10 hR, ro_0_11 hR, ro_2_6 hR, ro_2_7 hR, ro_2_8 hR, ro_2_9 hR, ro_2_10 hR, ro_2_11 hR, ro_2_12 hR, ro_2_13 hR, ro_9_0 hR, ro_9_1 hR, ro_9_2 hR, ro_14_0 hR, ro_14_1 hR, ro_14_2 hR, ro_14_7 hR, ro_15_0 hR, ro_20_6 hR, ro_20_7 hR, ro_20_8 hR, ro_20_9 hR, ro_20_10 hR, ro_20_11 hR, ro_20_12 hR, ro_20_13 hR, ro_27_0 hR, ro_27_1 hR, ro_27_2 hR, ro_32_0 hR, ro_32_1 hR, ro_34_10 hR, ro_34_11 hR, ro_34_12 hR, ro_34_13 hR, ro_39_0 hR, ro_39_1 hR, ro_42_0 hR, ro_42_1 hR, ro_47_0 hR, ro_47_1 hR, ro_47_2 hR, ro_47_3 hR, ro_55_0 hR, ro_55_1 hR, ro_55_2 hR, ro_57_0 hR, ro_57_1 hR, ro_57_2 hR, ro_57_3 hR, ro_57_4 hR, ro_57_5 hR, ro_57_8 hR, sh_0, sh_1, sh_2, sh_3, sh_4, sh_5, sh_6, sh_7, sh_8, sh_9, sh_10, sh_11, sh_12, sh_13, sh_14, sh_15, sh_16, sh_17, sh_18, sh_19, sh_20, sh_21, sh_22, sh_23, sh_24, sh_25, sh_26, sh_27, sh_28, sh_29, sh_30, sh_31, sh_32, sh_33, sh_34, sh_35, sh_36, sh_37, sh_38, sh_39, sh_40, sh_41, sh_42, sh_43, sh_44, sh_45, sh_46, sh_47, sh_48, sh_49, sh_50, sh_51, sh_52, sh_53, sh_54, sh_55, sh_56, sh_57, sh_58, sh_59, sh_60, sh_61, sh_62, sh_63, sh_64, sh_65, sh_66, sh_67, sh_68, hl, Nat.reduceLT, Nat.reduceAdd, Nat.reduceMul, ne_eq, Nat.reduceEqDiff, not_false_eq_true, or_true, true_or, or_false, false_or, and_true, true_and, and_self, Nat.reduceLeDiff, am_ci, am_cr, am_cn0, Option.toList_some, Option.toList_none, List.cons_append, List.nil_append, am_s0, am_s1, am_s1r, am_s2, am_s2r, am_s3r, nI_add, am_u_ne, am_u_at, am_u_n1, am_u_n2, am_w_ne, hn, c2, c3, not_false_eq_true]
    refine hQ _ L1 (g1.u ⟨rfl, by omega, by omega⟩) k1 ⟨?_, ?_, h3, h4.ag (fun j => am_u_n1 (by omega)), h6⟩ ?_ (by rw [am_u_at, if_pos hc]) q7
    · rw [am_u_n2 (by omega)]; exact h1
    · rw [am_u_n2 (by omega)]; exact h2
    · rw [am_u_n2 (by omega)]; exact q5
  · have c1 : nI (rn x (xL x) p - p) ≤ nI 8 := nI_le (by omega) (by omega)
    rw [if_neg hc] at hQ
    simp only [c1, ↓reduceIte, rX11_letters_101, rX11_letters_103, rX11_letters_106, rX11_letters_107, ro_0_0 hR, ro_0_3 hR, ro_0_4 hR, ro_0_5 hR, ro_0_6 hR, ro_0_7 hR, ro_0_8 hR, ro_0_9 hR, ro_0_10 hR, ro_0_11 hR, ro_2_6 hR, ro_2_7 hR, ro_2_8 hR, ro_2_9 hR, ro_2_10 hR, ro_2_11 hR, ro_2_12 hR, ro_2_13 hR, ro_9_0 hR, ro_9_1 hR, ro_9_2 hR, ro_14_0 hR, ro_14_1 hR, ro_14_2 hR, ro_14_7 hR, ro_15_0 hR, ro_20_6 hR, ro_20_7 hR, ro_20_8 hR, ro_20_9 hR, ro_20_10 hR, ro_20_11 hR, ro_20_12 hR, ro_20_13 hR, ro_27_0 hR, ro_27_1 hR, ro_27_2 hR, ro_32_0 hR, ro_32_1 hR, ro_34_10 hR, ro_34_11 hR, ro_34_12 hR, ro_34_13 hR, ro_39_0 hR, ro_39_1 hR, ro_42_0 hR, ro_42_1 hR, ro_47_0 hR, ro_47_1 hR, ro_47_2 hR, ro_47_3 hR, ro_55_0 hR, ro_55_1 hR, ro_55_2 hR, ro_57_0 hR, ro_57_1 hR, ro_57_2 hR, ro_57_3 hR, ro_57_4 hR, ro_57_5 hR, ro_57_8 hR, sh_0, sh_1, sh_2, sh_3, sh_4, sh_5, sh_6, sh_7, sh_8, sh_9, sh_10, sh_11, sh_12, sh_13, sh_14, sh_15, sh_16, sh_17, sh_18, sh_19, sh_20, sh_21, sh_22, sh_23, sh_24, sh_25, sh_26, sh_27, sh_28, sh_29, sh_30, sh_31, sh_32, sh_33, sh_34, sh_35, sh_36, sh_37, sh_38, sh_39, sh_40, sh_41, sh_42, sh_43, sh_44, sh_45, sh_46, sh_47, sh_48, sh_49, sh_50, sh_51, sh_52, sh_53, sh_54, sh_55, sh_56, sh_57, sh_58, sh_59, sh_60, sh_61, sh_62, sh_63, sh_64, sh_65, sh_66, sh_67, sh_68, hl, Nat.reduceLT, Nat.reduceAdd, Nat.reduceMul, ne_eq, Nat.reduceEqDiff, not_false_eq_true, or_true, true_or, or_false, false_or, and_true, true_and, and_self, Nat.reduceLeDiff, am_ci, am_cr, am_cn0, Option.toList_some, Option.toList_none, List.cons_append, List.nil_append, am_s0, am_s1, am_s1r, am_s2, am_s2r, am_s3r, nI_add, am_u_ne, am_u_at, am_u_n1, am_u_n2, am_w_ne, hn]
    refine l_words (l := nmX x p (rn x (xL x) p)) hR hN hn (hW.ag k1) q7 nmX_ok (by rw [nmX_len]; omega) am_u_at (fun I2 g2 q4 => ?_) 20 0 (by omega) (Nat.zero_le _)
    have e : ∀ k j, ¬ (k = 15 ∧ j = 4) → I2 k j = I1 k j := fun k j hk => by
      rw [g2 k j hk]
      by_cases e : k = 15
      · subst e; exact am_u_n2 (fun z => hk ⟨rfl, z⟩)
      · exact am_u_n1 e
    refine hQ I2 L1 (g1.trans (fun k j hk => e k j (fun z => hk (by unfold tkP; omega)))) k1 ⟨by rw [e 15 2 (by omega)]; exact h1, by rw [e 15 3 (by omega)]; exact h2, h3, h4.ag (fun j => e 1 j (by omega)), h6⟩ (by rw [e 15 5 (by omega)]; exact q5) q4 q7
theorem c_digits {p : Nat} (hR : am_OR R) (hN : 116 ≤ n) (hn : n ≤ 1000) (H : tkA I R x p) (h5 : I 15 5 = nI p) (hQ : ∀ I', am_ag tkP I I' → tkA I' R x (rn x (xD x) p) → I' 15 5 = nI p → I' 15 4 = nI (if 4 < rn x (xD x) p - p then 23 else 21) → I' 15 6 = nI (cdW 10 (dgX x p (rn x (xD x) p))) → Q none (n, I', L, R)) : am_E X d mX11_digits 0 [some (.ref 15)] [] (n, I, L, R) Q := by
  have hl := am_lt hN
  obtain ⟨a1, a2, a3, a4, a5⟩ := id H
  simp only [rX11_digits_0, rX11_digits_1, rX11_digits_2, ro_0_0 hR, ro_0_3 hR, ro_0_4 hR, ro_0_5 hR, ro_0_6 hR, ro_0_7 hR, ro_0_8 hR, ro_0_9 hR, ro_0_10 hR, ro_0_11 hR, ro_2_6 hR, ro_2_7 hR, ro_2_8 hR, ro_2_9 hR, ro_2_10 hR, ro_2_11 hR, ro_2_12 hR, ro_2_13 hR, ro_9_0 hR, ro_9_1 hR, ro_9_2 hR, ro_14_0 hR, ro_14_1 hR, ro_14_2 hR, ro_14_7 hR, ro_15_0 hR, ro_20_6 hR, ro_20_7 hR, ro_20_8 hR, ro_20_9 hR, ro_20_10 hR, ro_20_11 hR, ro_20_12 hR, ro_20_13 hR, ro_27_0 hR, ro_27_1 hR, ro_27_2 hR, ro_32_0 hR, ro_32_1 hR, ro_34_10 hR, ro_34_11 hR, ro_34_12 hR, ro_34_13 hR, ro_39_0 hR, ro_39_1 hR, ro_42_0 hR, ro_42_1 hR, ro_47_0 hR, ro_47_1 hR, ro_47_2 hR, ro_47_3 hR, ro_55_0 hR, ro_55_1 hR, ro_55_2 hR, ro_57_0 hR, ro_57_1 hR, ro_57_2 hR, ro_57_3 hR, ro_57_4 hR, ro_57_5 hR, ro_57_8 hR, sh_0, sh_1, sh_2, sh_3, sh_4, sh_5, sh_6, sh_7, sh_8, sh_9, sh_10, sh_11, sh_12, sh_13, sh_14, sh_15, sh_16, sh_17, sh_18, sh_19, sh_20, sh_21, sh_22, sh_23, sh_24, sh_25, sh_26, sh_27, sh_28, sh_29, sh_30, sh_31, sh_32, sh_33, sh_34, sh_35, sh_36, sh_37, sh_38, sh_39, sh_40, sh_41, sh_42, sh_43, sh_44, sh_45, sh_46, sh_47, sh_48, sh_49, sh_50, sh_51, sh_52, sh_53, sh_54, sh_55, sh_56, sh_57, sh_58, sh_59, sh_60, sh_61, sh_62, sh_63, sh_64, sh_65, sh_66, sh_67, sh_68, hl, Nat.reduceLT, Nat.reduceAdd, Nat.reduceMul, ne_eq, Nat.reduceEqDiff, not_false_eq_true, or_true, true_or, or_false, false_or, and_true, true_and, and_self, Nat.reduceLeDiff, am_ci, am_cr, am_cn0, Option.toList_some, Option.toList_none, List.cons_append, List.nil_append, am_s0, am_s1, am_s1r, am_s2, am_s2r, am_s3r, nI_add, am_u_ne, am_u_at, am_u_n1, am_u_n2, am_w_ne, hn]
  refine l_digits (p := p) (I := I) hR hN hn (x.1 - p) p _ rfl (Nat.le_refl _) (am_ag.refl.u ⟨rfl, by omega, by omega⟩) ⟨by rw [am_u_n2 (by omega)]; exact a1, by rw [am_u_n2 (by omega)]; exact a2, a3, a4.ag (fun j => am_u_n1 (by omega)), a5⟩ (by rw [am_u_n2 (by omega)]; exact h5) (by rw [am_u_at, dgX_0]; rfl) (fun I1 g1 H1 q5 q6 => ?_)
  obtain ⟨h1, h2, h3, h4, h6⟩ := id H1
  have hge := rn_ge (x := x) (p := xD x) (i := p)
  have hT := h4.1
  have s1 : nI (rn x (xD x) p) - nI p = nI (rn x (xD x) p - p) := pk_sub hge
  simp only [rX11_digits_81, rX11_digits_82, rX11_digits_83, rX11_digits_86, rX11_digits_87, rX11_digits_90, rX11_digits_91, ro_0_0 hR, ro_0_3 hR, ro_0_4 hR, ro_0_5 hR, ro_0_6 hR, ro_0_7 hR, ro_0_8 hR, ro_0_9 hR, ro_0_10 hR, ro_0_11 hR, ro_2_6 hR, ro_2_7 hR, ro_2_8 hR, ro_2_9 hR, ro_2_10 hR, ro_2_11 hR, ro_2_12 hR, ro_2_13 hR, ro_9_0 hR, ro_9_1 hR, ro_9_2 hR, ro_14_0 hR, ro_14_1 hR, ro_14_2 hR, ro_14_7 hR, ro_15_0 hR, ro_20_6 hR, ro_20_7 hR, ro_20_8 hR, ro_20_9 hR, ro_20_10 hR, ro_20_11 hR, ro_20_12 hR, ro_20_13 hR, ro_27_0 hR, ro_27_1 hR, ro_27_2 hR, ro_32_0 hR, ro_32_1 hR, ro_34_10 hR, ro_34_11 hR, ro_34_12 hR, ro_34_13 hR, ro_39_0 hR, ro_39_1 hR, ro_42_0 hR, ro_42_1 hR, ro_47_0 hR, ro_47_1 hR, ro_47_2 hR, ro_47_3 hR, ro_55_0 hR, ro_55_1 hR, ro_55_2 hR, ro_57_0 hR, ro_57_1 hR, ro_57_2 hR, ro_57_3 hR, ro_57_4 hR, ro_57_5 hR, ro_57_8 hR, sh_0, sh_1, sh_2, sh_3, sh_4, sh_5, sh_6, sh_7, sh_8, sh_9, sh_10, sh_11, sh_12, sh_13, sh_14, sh_15, sh_16, sh_17, sh_18, sh_19, sh_20, sh_21, sh_22, sh_23, sh_24, sh_25, sh_26, sh_27, sh_28, sh_29, sh_30, sh_31, sh_32, sh_33, sh_34, sh_35, sh_36, sh_37, sh_38, sh_39, sh_40, sh_41, sh_42, sh_43, sh_44, sh_45, sh_46, sh_47, sh_48, sh_49, sh_50, sh_51, sh_52, sh_53, sh_54, sh_55, sh_56, sh_57, sh_58, sh_59, sh_60, sh_61, sh_62, sh_63, sh_64, sh_65, sh_66, sh_67, sh_68, hl, Nat.reduceLT, Nat.reduceAdd, Nat.reduceMul, ne_eq, Nat.reduceEqDiff, not_false_eq_true, or_true, true_or, or_false, false_or, and_true, true_and, and_self, Nat.reduceLeDiff, am_ci, am_cr, am_cn0, Option.toList_some, Option.toList_none, List.cons_append, List.nil_append, am_s0, am_s1, am_s1r, am_s2, am_s2r, am_s3r, nI_add, am_u_ne, am_u_at, am_u_n1, am_u_n2, am_w_ne, h2, q5, s1, rX11_digits_92]
  by_cases hc : 4 < rn x (xD x) p - p
  · have c1 : ¬ nI (rn x (xD x) p - p) ≤ nI 4 := nI_ge hc (by omega)
    simp only [c1, ↓reduceIte, rX11_digits_95, rX11_digits_97, rX11_digits_102, rX11_digits_105, ro_0_0 hR, ro_0_3 hR, ro_0_4 hR, ro_0_5 hR, ro_0_6 hR, ro_0_7 hR, ro_0_8 hR, ro_0_9 hR, ro_0_10 hR, ro_0_11 hR, ro_2_6 hR, ro_2_7 hR, ro_2_8 hR, ro_2_9 hR, ro_2_10 hR, ro_2_11 hR, ro_2_12 hR, ro_2_13 hR, ro_9_0 hR, ro_9_1 hR, ro_9_2 hR, ro_14_0 hR, ro_14_1 hR, ro_14_2 hR, ro_14_7 hR, ro_15_0 hR, ro_20_6 hR, ro_20_7 hR, ro_20_8 hR, ro_20_9 hR, ro_20_10 hR, ro_20_11 hR, ro_20_12 hR, ro_20_13 hR, ro_27_0 hR, ro_27_1 hR, ro_27_2 hR, ro_32_0 hR, ro_32_1 hR, ro_34_10 hR, ro_34_11 hR, ro_34_12 hR, ro_34_13 hR, ro_39_0 hR, ro_39_1 hR, ro_42_0 hR, ro_42_1 hR, ro_47_0 hR, ro_47_1 hR, ro_47_2 hR, ro_47_3 hR, ro_55_0 hR, ro_55_1 hR, ro_55_2 hR, ro_57_0 hR, ro_57_1 hR, ro_57_2 hR, ro_57_3 hR, ro_57_4 hR, ro_57_5 hR, ro_57_8 hR, sh_0, sh_1, sh_2, sh_3, sh_4, sh_5, sh_6, sh_7, sh_8, sh_9, sh_10, sh_11, sh_12, sh_13, sh_14, sh_15, sh_16, sh_17, sh_18, sh_19, sh_20, sh_21, sh_22, sh_23, sh_24, sh_25, sh_26, sh_27, sh_28, sh_29, sh_30, sh_31, sh_32, sh_33, sh_34, sh_35, sh_36, sh_37, sh_38, sh_39, sh_40, sh_41, sh_42, sh_43, sh_44, sh_45, sh_46, sh_47, sh_48, sh_49, sh_50, sh_51, sh_52, sh_53, sh_54, sh_55, sh_56, sh_57, sh_58, sh_59, sh_60, sh_61, sh_62, sh_63, sh_64, sh_65, sh_66, sh_67, sh_68, hl, Nat.reduceLT, Nat.reduceAdd, Nat.reduceMul, ne_eq, Nat.reduceEqDiff, not_false_eq_true, or_true, true_or, or_false, false_or, and_true, true_and, and_self, Nat.reduceLeDiff, am_ci, am_cr, am_cn0, Option.toList_some, Option.toList_none, List.cons_append, List.nil_append, am_s0, am_s1, am_s1r, am_s2, am_s2r, am_s3r, nI_add, am_u_ne, am_u_at, am_u_n1, am_u_n2, am_w_ne, hn]
    refine hQ _ (g1.u ⟨rfl, by omega, by omega⟩) ⟨?_, ?_, h3, h4.ag (fun j => am_u_n1 (by omega)), h6⟩ ?_ (by rw [am_u_at, if_pos hc]) ?_
    · rw [am_u_n2 (by omega)]; exact h1
    · rw [am_u_n2 (by omega)]; exact h2
    · rw [am_u_n2 (by omega)]; exact q5
    · rw [am_u_n2 (by omega)]; exact q6
  · have c1 : nI (rn x (xD x) p - p) ≤ nI 4 := nI_le (by omega) (by omega)
    simp only [c1, ↓reduceIte, rX11_digits_100, rX11_digits_102, rX11_digits_105, ro_0_0 hR, ro_0_3 hR, ro_0_4 hR, ro_0_5 hR, ro_0_6 hR, ro_0_7 hR, ro_0_8 hR, ro_0_9 hR, ro_0_10 hR, ro_0_11 hR, ro_2_6 hR, ro_2_7 hR, ro_2_8 hR, ro_2_9 hR, ro_2_10 hR, ro_2_11 hR, ro_2_12 hR, ro_2_13 hR, ro_9_0 hR, ro_9_1 hR, ro_9_2 hR, ro_14_0 hR, ro_14_1 hR, ro_14_2 hR, ro_14_7 hR, ro_15_0 hR, ro_20_6 hR, ro_20_7 hR, ro_20_8 hR, ro_20_9 hR, ro_20_10 hR, ro_20_11 hR, ro_20_12 hR, ro_20_13 hR, ro_27_0 hR, ro_27_1 hR, ro_27_2 hR, ro_32_0 hR, ro_32_1 hR, ro_34_10 hR, ro_34_11 hR, ro_34_12 hR, ro_34_13 hR, ro_39_0 hR, ro_39_1 hR, ro_42_0 hR, ro_42_1 hR, ro_47_0 hR, ro_47_1 hR, ro_47_2 hR, ro_47_3 hR, ro_55_0 hR, ro_55_1 hR, ro_55_2 hR, ro_57_0 hR, ro_57_1 hR, ro_57_2 hR, ro_57_3 hR, ro_57_4 hR, ro_57_5 hR, ro_57_8 hR, sh_0, sh_1, sh_2, sh_3, sh_4, sh_5, sh_6, sh_7, sh_8, sh_9, sh_10, sh_11, sh_12, sh_13, sh_14, sh_15, sh_16, sh_17, sh_18, sh_19, sh_20, sh_21, sh_22, sh_23, sh_24, sh_25, sh_26, sh_27, sh_28, sh_29, sh_30, sh_31, sh_32, sh_33, sh_34, sh_35, sh_36, sh_37, sh_38, sh_39, sh_40, sh_41, sh_42, sh_43, sh_44, sh_45, sh_46, sh_47, sh_48, sh_49, sh_50, sh_51, sh_52, sh_53, sh_54, sh_55, sh_56, sh_57, sh_58, sh_59, sh_60, sh_61, sh_62, sh_63, sh_64, sh_65, sh_66, sh_67, sh_68, hl, Nat.reduceLT, Nat.reduceAdd, Nat.reduceMul, ne_eq, Nat.reduceEqDiff, not_false_eq_true, or_true, true_or, or_false, false_or, and_true, true_and, and_self, Nat.reduceLeDiff, am_ci, am_cr, am_cn0, Option.toList_some, Option.toList_none, List.cons_append, List.nil_append, am_s0, am_s1, am_s1r, am_s2, am_s2r, am_s3r, nI_add, am_u_ne, am_u_at, am_u_n1, am_u_n2, am_w_ne, hn]
    refine hQ _ (g1.u ⟨rfl, by omega, by omega⟩) ⟨?_, ?_, h3, h4.ag (fun j => am_u_n1 (by omega)), h6⟩ ?_ (by rw [am_u_at, if_neg hc]) ?_
    · rw [am_u_n2 (by omega)]; exact h1
    · rw [am_u_n2 (by omega)]; exact h2
    · rw [am_u_n2 (by omega)]; exact q5
    · rw [am_u_n2 (by omega)]; exact q6
/-- the class stands at the token that begins at position i -/
def tkT (I : Nat → Nat → Int32) (L : Nat → Nat → Int64) (R : Nat → Nat → Option Nat) (x : txt) (i : Nat) : Prop := tkA I R x (tN x i) ∧ I 15 4 = nI (tK x i) ∧ I 15 5 = nI (tP x i) ∧ (tK x i = 21 → I 15 6 = nI (tV x i)) ∧ (tK x i ≤ 20 → L 15 7 = lN (cdW 32 (tM x i)))
theorem c_advance {i : Nat} (hR : am_OR R) (hN : 116 ≤ n) (hn : n ≤ 1000) (hW : relW L) (H : tkA I R x i) (hQ : ∀ I' L', am_ag tkP I I' → agL L L' → tkT I' L' R x i → Q none (n, I', L', R)) : am_E X (d + 5) mX11_advance 0 [some (.ref 15), none] [] (n, I, L, R) Q := by
  have hl := am_lt hN
  refine l_skipB (I := I) hR hN hn (x.1 - i) i I rfl am_ag.refl H (fun I1 g1 H1 => ?_)
  obtain ⟨h1, h2, h3, h4, h6⟩ := id H1
  have hT := h4.1
  have hp : rn x (xB x) i = tP x i := rfl
  rw [hp] at h2 h6
  simp only [rX11_advance_39, rX11_advance_40, rX11_advance_41, rX11_advance_44, rX11_advance_47, rX11_advance_48, rX11_advance_51, rX11_advance_52, ro_0_0 hR, ro_0_3 hR, ro_0_4 hR, ro_0_5 hR, ro_0_6 hR, ro_0_7 hR, ro_0_8 hR, ro_0_9 hR, ro_0_10 hR, ro_0_11 hR, ro_2_6 hR, ro_2_7 hR, ro_2_8 hR, ro_2_9 hR, ro_2_10 hR, ro_2_11 hR, ro_2_12 hR, ro_2_13 hR, ro_9_0 hR, ro_9_1 hR, ro_9_2 hR, ro_14_0 hR, ro_14_1 hR, ro_14_2 hR, ro_14_7 hR, ro_15_0 hR, ro_20_6 hR, ro_20_7 hR, ro_20_8 hR, ro_20_9 hR, ro_20_10 hR, ro_20_11 hR, ro_20_12 hR, ro_20_13 hR, ro_27_0 hR, ro_27_1 hR, ro_27_2 hR, ro_32_0 hR, ro_32_1 hR, ro_34_10 hR, ro_34_11 hR, ro_34_12 hR, ro_34_13 hR, ro_39_0 hR, ro_39_1 hR, ro_42_0 hR, ro_42_1 hR, ro_47_0 hR, ro_47_1 hR, ro_47_2 hR, ro_47_3 hR, ro_55_0 hR, ro_55_1 hR, ro_55_2 hR, ro_57_0 hR, ro_57_1 hR, ro_57_2 hR, ro_57_3 hR, ro_57_4 hR, ro_57_5 hR, ro_57_8 hR, sh_0, sh_1, sh_2, sh_3, sh_4, sh_5, sh_6, sh_7, sh_8, sh_9, sh_10, sh_11, sh_12, sh_13, sh_14, sh_15, sh_16, sh_17, sh_18, sh_19, sh_20, sh_21, sh_22, sh_23, sh_24, sh_25, sh_26, sh_27, sh_28, sh_29, sh_30, sh_31, sh_32, sh_33, sh_34, sh_35, sh_36, sh_37, sh_38, sh_39, sh_40, sh_41, sh_42, sh_43, sh_44, sh_45, sh_46, sh_47, sh_48, sh_49, sh_50, sh_51, sh_52, sh_53, sh_54, sh_55, sh_56, sh_57, sh_58, sh_59, sh_60, sh_61, sh_62, sh_63, sh_64, sh_65, sh_66, sh_67, sh_68, hl, Nat.reduceLT, Nat.reduceAdd, Nat.reduceMul, ne_eq, Nat.reduceEqDiff, not_false_eq_true, or_true, true_or, or_false, false_or, and_true, true_and, and_self, Nat.reduceLeDiff, am_ci, am_cr, am_cn0, Option.toList_some, Option.toList_none, List.cons_append, List.nil_append, am_s0, am_s1, am_s1r, am_s2, am_s2r, am_s3r, nI_add, am_u_ne, am_u_at, am_u_n1, am_u_n2, am_w_ne, hn, h1, h2, rX11_advance_55]
  have g2 : am_ag tkP I (am_u I1 15 5 (nI (tP x i))) := g1.u ⟨rfl, by omega, by omega⟩
  have H2 : tkA (am_u I1 15 5 (nI (tP x i))) R x (tP x i) := ⟨by rw [am_u_n2 (by omega)]; exact h1, by rw [am_u_n2 (by omega)]; exact h2, h3, h4.ag (fun j => am_u_n1 (by omega)), h6⟩
  have q5 : am_u I1 15 5 (nI (tP x i)) 15 5 = nI (tP x i) := am_u_at
  generalize am_u I1 15 5 (nI (tP x i)) = I2 at g2 H2 q5 ⊢
  obtain ⟨k1, k2, k3, k4, k6⟩ := id H2
  by_cases hE : x.1 ≤ tP x i
  · have c1 : ¬ nI (tP x i) < nI x.1 := nI_nlt hE (by omega)
    simp only [c1, ↓reduceIte, rX11_advance_58, rX11_advance_59, rX11_advance_61, rX11_advance_64, rX11_advance_181, ro_0_0 hR, ro_0_3 hR, ro_0_4 hR, ro_0_5 hR, ro_0_6 hR, ro_0_7 hR, ro_0_8 hR, ro_0_9 hR, ro_0_10 hR, ro_0_11 hR, ro_2_6 hR, ro_2_7 hR, ro_2_8 hR, ro_2_9 hR, ro_2_10 hR, ro_2_11 hR, ro_2_12 hR, ro_2_13 hR, ro_9_0 hR, ro_9_1 hR, ro_9_2 hR, ro_14_0 hR, ro_14_1 hR, ro_14_2 hR, ro_14_7 hR, ro_15_0 hR, ro_20_6 hR, ro_20_7 hR, ro_20_8 hR, ro_20_9 hR, ro_20_10 hR, ro_20_11 hR, ro_20_12 hR, ro_20_13 hR, ro_27_0 hR, ro_27_1 hR, ro_27_2 hR, ro_32_0 hR, ro_32_1 hR, ro_34_10 hR, ro_34_11 hR, ro_34_12 hR, ro_34_13 hR, ro_39_0 hR, ro_39_1 hR, ro_42_0 hR, ro_42_1 hR, ro_47_0 hR, ro_47_1 hR, ro_47_2 hR, ro_47_3 hR, ro_55_0 hR, ro_55_1 hR, ro_55_2 hR, ro_57_0 hR, ro_57_1 hR, ro_57_2 hR, ro_57_3 hR, ro_57_4 hR, ro_57_5 hR, ro_57_8 hR, sh_0, sh_1, sh_2, sh_3, sh_4, sh_5, sh_6, sh_7, sh_8, sh_9, sh_10, sh_11, sh_12, sh_13, sh_14, sh_15, sh_16, sh_17, sh_18, sh_19, sh_20, sh_21, sh_22, sh_23, sh_24, sh_25, sh_26, sh_27, sh_28, sh_29, sh_30, sh_31, sh_32, sh_33, sh_34, sh_35, sh_36, sh_37, sh_38, sh_39, sh_40, sh_41, sh_42, sh_43, sh_44, sh_45, sh_46, sh_47, sh_48, sh_49, sh_50, sh_51, sh_52, sh_53, sh_54, sh_55, sh_56, sh_57, sh_58, sh_59, sh_60, sh_61, sh_62, sh_63, sh_64, sh_65, sh_66, sh_67, sh_68, hl, Nat.reduceLT, Nat.reduceAdd, Nat.reduceMul, ne_eq, Nat.reduceEqDiff, not_false_eq_true, or_true, true_or, or_false, false_or, and_true, true_and, and_self, Nat.reduceLeDiff, am_ci, am_cr, am_cn0, Option.toList_some, Option.toList_none, List.cons_append, List.nil_append, am_s0, am_s1, am_s1r, am_s2, am_s2r, am_s3r, nI_add, am_u_ne, am_u_at, am_u_n1, am_u_n2, am_w_ne, hn]
    have eK : tK x i = 22 := by unfold tK; rw [if_pos hE]
    have eN : tN x i = tP x i := by unfold tN; rw [if_pos hE]
    refine hQ _ L (g2.u ⟨rfl, by omega, by omega⟩) agL.refl ⟨?_, ?_, ?_, fun z => by omega, fun z => by omega⟩
    · rw [eN]
      exact ⟨by rw [am_u_n2 (by omega)]; exact k1, by rw [am_u_n2 (by omega)]; exact k2, k3, k4.ag (fun j => am_u_n1 (by omega)), k6⟩
    · rw [am_u_at, eK]
    · rw [am_u_n2 (by omega)]; exact q5
  · have c1 : nI (tP x i) < nI x.1 := nI_lt (by omega) (by omega)
    have p2 : tP x i < 2000 := by omega
    obtain ⟨b1, b2⟩ := k4.2 (tP x i) (by omega)
    have lo := cdB_lo b1 (a := 97) (by omega)
    have hi := cdB_hi b1 (a := 122) (by omega)
    have lo2 := cdB_lo b1 (a := 48) (by omega)
    have hi2 := cdB_hi b1 (a := 57) (by omega)
    rw [← b2] at lo hi lo2 hi2
    by_cases hLt : xL x (tP x i) = true
    · have hb2 := (of_decide_eq_true hLt).2
      have m1 : ¬ I2 1 (tP x i) < nI 97 := fun z => lo.mp z ⟨hb2.1, by omega⟩
      have m2 : ¬ nI 122 < I2 1 (tP x i) := fun z => by have := hi.mp z; omega
      simp only [c1, ↓reduceIte, rX11_advance_67, rX11_advance_68, rX11_advance_71, rX11_advance_72, rX11_advance_75, rX11_advance_76, rX11_advance_78, rX11_advance_81, rX11_advance_82, rX11_advance_85, rX11_advance_86, rX11_advance_89, rX11_advance_90, rX11_advance_92, rX11_advance_95, rX11_advance_96, ro_0_0 hR, ro_0_3 hR, ro_0_4 hR, ro_0_5 hR, ro_0_6 hR, ro_0_7 hR, ro_0_8 hR, ro_0_9 hR, ro_0_10 hR, ro_0_11 hR, ro_2_6 hR, ro_2_7 hR, ro_2_8 hR, ro_2_9 hR, ro_2_10 hR, ro_2_11 hR, ro_2_12 hR, ro_2_13 hR, ro_9_0 hR, ro_9_1 hR, ro_9_2 hR, ro_14_0 hR, ro_14_1 hR, ro_14_2 hR, ro_14_7 hR, ro_15_0 hR, ro_20_6 hR, ro_20_7 hR, ro_20_8 hR, ro_20_9 hR, ro_20_10 hR, ro_20_11 hR, ro_20_12 hR, ro_20_13 hR, ro_27_0 hR, ro_27_1 hR, ro_27_2 hR, ro_32_0 hR, ro_32_1 hR, ro_34_10 hR, ro_34_11 hR, ro_34_12 hR, ro_34_13 hR, ro_39_0 hR, ro_39_1 hR, ro_42_0 hR, ro_42_1 hR, ro_47_0 hR, ro_47_1 hR, ro_47_2 hR, ro_47_3 hR, ro_55_0 hR, ro_55_1 hR, ro_55_2 hR, ro_57_0 hR, ro_57_1 hR, ro_57_2 hR, ro_57_3 hR, ro_57_4 hR, ro_57_5 hR, ro_57_8 hR, sh_0, sh_1, sh_2, sh_3, sh_4, sh_5, sh_6, sh_7, sh_8, sh_9, sh_10, sh_11, sh_12, sh_13, sh_14, sh_15, sh_16, sh_17, sh_18, sh_19, sh_20, sh_21, sh_22, sh_23, sh_24, sh_25, sh_26, sh_27, sh_28, sh_29, sh_30, sh_31, sh_32, sh_33, sh_34, sh_35, sh_36, sh_37, sh_38, sh_39, sh_40, sh_41, sh_42, sh_43, sh_44, sh_45, sh_46, sh_47, sh_48, sh_49, sh_50, sh_51, sh_52, sh_53, sh_54, sh_55, sh_56, sh_57, sh_58, sh_59, sh_60, sh_61, sh_62, sh_63, sh_64, sh_65, sh_66, sh_67, sh_68, hl, Nat.reduceLT, Nat.reduceAdd, Nat.reduceMul, ne_eq, Nat.reduceEqDiff, not_false_eq_true, or_true, true_or, or_false, false_or, and_true, true_and, and_self, Nat.reduceLeDiff, am_ci, am_cr, am_cn0, Option.toList_some, Option.toList_none, List.cons_append, List.nil_append, am_s0, am_s1, am_s1r, am_s2, am_s2r, am_s3r, nI_add, am_u_ne, am_u_at, am_u_n1, am_u_n2, am_w_ne, k2, H2.rf, p2, m1, m2]
      refine c_letters (x := x) (p := tP x i) hR hN hn hW H2 q5 (fun I3 L3 g3 l3 H3 y5 y4 y7 => ?_)
      simp only [Option.toList_none, List.nil_append, rX11_advance_99, rX11_advance_181]
      have eN : tN x i = rn x (xL x) (tP x i) := by unfold tN; rw [if_neg hE, if_pos hLt]
      have eK : tK x i = if 8 < rn x (xL x) (tP x i) - tP x i then 23 else wIx (nmX x (tP x i) (rn x (xL x) (tP x i))) := by unfold tK; rw [if_neg hE, if_pos hLt]; rfl
      have wl := wIx_le (nmX x (tP x i) (rn x (xL x) (tP x i)))
      refine hQ I3 L3 (g2.trans g3) l3 ⟨by rw [eN]; exact H3, by rw [eK]; exact y4, y5, fun z => ?_, fun _ => y7⟩
      rw [eK] at z
      split at z <;> omega
    · have hLf : xL x (tP x i) = false := by simpa using hLt
      have nl : ¬ (97 ≤ x.2 (tP x i) ∧ x.2 (tP x i) ≤ 122) := fun z => of_decide_eq_false hLf ⟨by omega, z⟩
      have toD : am_E X (d + 5) mX11_advance 102 [some (.ref 15), none] [] (n, I2, L, R) Q := by
        by_cases hD : xD x (tP x i) = true
        · have hb2 := (of_decide_eq_true hD).2
          have m1 : ¬ I2 1 (tP x i) < nI 48 := fun z => lo2.mp z ⟨hb2.1, by omega⟩
          have m2 : ¬ nI 57 < I2 1 (tP x i) := fun z => by have := hi2.mp z; omega
          simp only [↓reduceIte, rX11_advance_102, rX11_advance_103, rX11_advance_106, rX11_advance_107, rX11_advance_110, rX11_advance_111, rX11_advance_113, rX11_advance_116, rX11_advance_117, rX11_advance_120, rX11_advance_121, rX11_advance_124, rX11_advance_125, rX11_advance_127, rX11_advance_130, rX11_advance_131, ro_0_0 hR, ro_0_3 hR, ro_0_4 hR, ro_0_5 hR, ro_0_6 hR, ro_0_7 hR, ro_0_8 hR, ro_0_9 hR, ro_0_10 hR, ro_0_11 hR, ro_2_6 hR, ro_2_7 hR, ro_2_8 hR, ro_2_9 hR, ro_2_10 hR, ro_2_11 hR, ro_2_12 hR, ro_2_13 hR, ro_9_0 hR, ro_9_1 hR, ro_9_2 hR, ro_14_0 hR, ro_14_1 hR, ro_14_2 hR, ro_14_7 hR, ro_15_0 hR, ro_20_6 hR, ro_20_7 hR, ro_20_8 hR, ro_20_9 hR, ro_20_10 hR, ro_20_11 hR, ro_20_12 hR, ro_20_13 hR, ro_27_0 hR, ro_27_1 hR, ro_27_2 hR, ro_32_0 hR, ro_32_1 hR, ro_34_10 hR, ro_34_11 hR, ro_34_12 hR, ro_34_13 hR, ro_39_0 hR, ro_39_1 hR, ro_42_0 hR, ro_42_1 hR, ro_47_0 hR, ro_47_1 hR, ro_47_2 hR, ro_47_3 hR, ro_55_0 hR, ro_55_1 hR, ro_55_2 hR, ro_57_0 hR, ro_57_1 hR, ro_57_2 hR, ro_57_3 hR, ro_57_4 hR, ro_57_5 hR, ro_57_8 hR, sh_0, sh_1, sh_2, sh_3, sh_4, sh_5, sh_6, sh_7, sh_8, sh_9, sh_10, sh_11, sh_12, sh_13, sh_14, sh_15, sh_16, sh_17, sh_18, sh_19, sh_20, sh_21, sh_22, sh_23, sh_24, sh_25, sh_26, sh_27, sh_28, sh_29, sh_30, sh_31, sh_32, sh_33, sh_34, sh_35, sh_36, sh_37, sh_38, sh_39, sh_40, sh_41, sh_42, sh_43, sh_44, sh_45, sh_46, sh_47, sh_48, sh_49, sh_50, sh_51, sh_52, sh_53, sh_54, sh_55, sh_56, sh_57, sh_58, sh_59, sh_60, sh_61, sh_62, sh_63, sh_64, sh_65, sh_66, sh_67, sh_68, hl, Nat.reduceLT, Nat.reduceAdd, Nat.reduceMul, ne_eq, Nat.reduceEqDiff, not_false_eq_true, or_true, true_or, or_false, false_or, and_true, true_and, and_self, Nat.reduceLeDiff, am_ci, am_cr, am_cn0, Option.toList_some, Option.toList_none, List.cons_append, List.nil_append, am_s0, am_s1, am_s1r, am_s2, am_s2r, am_s3r, nI_add, am_u_ne, am_u_at, am_u_n1, am_u_n2, am_w_ne, k2, H2.rf, p2, m1, m2]
          refine c_digits (x := x) (p := tP x i) hR hN hn H2 q5 (fun I3 g3 H3 y5 y4 y6 => ?_)
          simp only [Option.toList_none, List.nil_append, rX11_advance_134, rX11_advance_181]
          have eN : tN x i = rn x (xD x) (tP x i) := by unfold tN; rw [if_neg hE, if_neg hLt, if_pos hD]
          have eK : tK x i = if 4 < rn x (xD x) (tP x i) - tP x i then 23 else 21 := by unfold tK; rw [if_neg hE, if_neg hLt, if_pos hD]
          refine hQ I3 L (g2.trans g3) agL.refl ⟨by rw [eN]; exact H3, by rw [eK]; exact y4, y5, fun _ => y6, fun z => ?_⟩
          rw [eK] at z
          split at z <;> omega
        · have hDf : xD x (tP x i) = false := by simpa using hD
          have nd : ¬ (48 ≤ x.2 (tP x i) ∧ x.2 (tP x i) ≤ 57) := fun z => of_decide_eq_false hDf ⟨by omega, z⟩
          have eN : tN x i = tP x i + 1 := by unfold tN; rw [if_neg hE, if_neg hLt, if_neg hD]
          have eK : tK x i = if isSg (x.2 (tP x i)) = true then x.2 (tP x i) else 23 := by unfold tK; rw [if_neg hE, if_neg hLt, if_neg hD]
          have c256 : x.2 (tP x i) < 256 := by rw [b2]; exact cdB_lt _
          have eand : I2 1 (tP x i) &&& nI 255 = nI (x.2 (tP x i)) := by rw [cdB_and, b2]
          have ech : ((nI (x.2 (tP x i))).toUInt32 % 65536).toInt32 = nI (x.2 (tP x i)) := by
            rw [pk_char, pk_tn (by omega)]
            exact congrArg nI (by omega)
          have fin : ∀ kv, kv = tK x i → Q none (n, am_u (am_u I2 15 4 (nI kv)) 15 3 (nI (tP x i + 1)), L, R) := fun kv hkv => by
            refine hQ _ L ((g2.u ⟨rfl, by omega, by omega⟩).u ⟨rfl, by omega, by omega⟩) agL.refl ⟨⟨?_, ?_, k3, k4.ag (fun j => by rw [am_u_n1 (by omega), am_u_n1 (by omega)]), ?_⟩, ?_, ?_, fun z => ?_, fun z => ?_⟩
            · rw [am_u_n2 (by omega), am_u_n2 (by omega)]; exact k1
            · rw [am_u_at, eN]
            · rw [eN]; omega
            · rw [am_u_n2 (by omega), am_u_at, hkv]
            · rw [am_u_n2 (by omega), am_u_n2 (by omega)]; exact q5
            · rw [eK] at z
              split at z
              · next h4 => have := of_decide_eq_true h4; omega
              · omega
            · rw [eK] at z
              split at z
              · next h4 => have := of_decide_eq_true h4; omega
              · omega
          have sgn : am_E X (d + 5) mX11_advance 137 [some (.ref 15), none] [] (n, I2, L, R) Q := by
            simp only [rX11_advance_137, rX11_advance_138, rX11_advance_141, rX11_advance_142, rX11_advance_145, rX11_advance_146, rX11_advance_149, rX11_advance_150, rX11_advance_151, rX11_advance_152, rX11_advance_154, rX11_advance_155, ro_0_0 hR, ro_0_3 hR, ro_0_4 hR, ro_0_5 hR, ro_0_6 hR, ro_0_7 hR, ro_0_8 hR, ro_0_9 hR, ro_0_10 hR, ro_0_11 hR, ro_2_6 hR, ro_2_7 hR, ro_2_8 hR, ro_2_9 hR, ro_2_10 hR, ro_2_11 hR, ro_2_12 hR, ro_2_13 hR, ro_9_0 hR, ro_9_1 hR, ro_9_2 hR, ro_14_0 hR, ro_14_1 hR, ro_14_2 hR, ro_14_7 hR, ro_15_0 hR, ro_20_6 hR, ro_20_7 hR, ro_20_8 hR, ro_20_9 hR, ro_20_10 hR, ro_20_11 hR, ro_20_12 hR, ro_20_13 hR, ro_27_0 hR, ro_27_1 hR, ro_27_2 hR, ro_32_0 hR, ro_32_1 hR, ro_34_10 hR, ro_34_11 hR, ro_34_12 hR, ro_34_13 hR, ro_39_0 hR, ro_39_1 hR, ro_42_0 hR, ro_42_1 hR, ro_47_0 hR, ro_47_1 hR, ro_47_2 hR, ro_47_3 hR, ro_55_0 hR, ro_55_1 hR, ro_55_2 hR, ro_57_0 hR, ro_57_1 hR, ro_57_2 hR, ro_57_3 hR, ro_57_4 hR, ro_57_5 hR, ro_57_8 hR, sh_0, sh_1, sh_2, sh_3, sh_4, sh_5, sh_6, sh_7, sh_8, sh_9, sh_10, sh_11, sh_12, sh_13, sh_14, sh_15, sh_16, sh_17, sh_18, sh_19, sh_20, sh_21, sh_22, sh_23, sh_24, sh_25, sh_26, sh_27, sh_28, sh_29, sh_30, sh_31, sh_32, sh_33, sh_34, sh_35, sh_36, sh_37, sh_38, sh_39, sh_40, sh_41, sh_42, sh_43, sh_44, sh_45, sh_46, sh_47, sh_48, sh_49, sh_50, sh_51, sh_52, sh_53, sh_54, sh_55, sh_56, sh_57, sh_58, sh_59, sh_60, sh_61, sh_62, sh_63, sh_64, sh_65, sh_66, sh_67, sh_68, hl, Nat.reduceLT, Nat.reduceAdd, Nat.reduceMul, ne_eq, Nat.reduceEqDiff, not_false_eq_true, or_true, true_or, or_false, false_or, and_true, true_and, and_self, Nat.reduceLeDiff, am_ci, am_cr, am_cn0, Option.toList_some, Option.toList_none, List.cons_append, List.nil_append, am_s0, am_s1, am_s1r, am_s2, am_s2r, am_s3r, nI_add, am_u_ne, am_u_at, am_u_n1, am_u_n2, am_w_ne, k2, H2.rf, p2, eand, ech]
            have h := sr_virt (X := X) (d := d + 4) (n := n) (I := I2) (L := L) (R := R) (Q := Q) (μ := mX11_advance) (ls := [some (.ref 15), some (.int (nI (x.2 (tP x i))))]) (st := [.ref 15]) (a := 1000002) (as := [.int (nI (x.2 (tP x i)))]) dX11_advance_156 lk_11_69 (Nat.not_lt.mpr (Nat.le_of_ble_eq_true rfl)) (by decide) rfl rfl
            refine h.mpr ?_
            show am_E X (d + 4) mJ0_indexOf_0f7a4 0 [some (.ref 1000002), some (.int (nI (x.2 (tP x i))))] [] (n, I2, L, R) _
            refine c_indexOf c256 (fun r hr => ?_)
            simp only [Nat.reduceAdd, Option.toList_some, List.cons_append, List.nil_append, rX11_advance_159]
            by_cases hs : isSg (x.2 (tP x i)) = true
            · have c3 : ¬ r < 0 := fun z => by rw [hr.mp z] at hs; cases hs
              simp only [c3, ↓reduceIte, rX11_advance_162, rX11_advance_163, rX11_advance_168, rX11_advance_171, rX11_advance_172, rX11_advance_173, rX11_advance_176, rX11_advance_177, rX11_advance_178, rX11_advance_181, ro_0_0 hR, ro_0_3 hR, ro_0_4 hR, ro_0_5 hR, ro_0_6 hR, ro_0_7 hR, ro_0_8 hR, ro_0_9 hR, ro_0_10 hR, ro_0_11 hR, ro_2_6 hR, ro_2_7 hR, ro_2_8 hR, ro_2_9 hR, ro_2_10 hR, ro_2_11 hR, ro_2_12 hR, ro_2_13 hR, ro_9_0 hR, ro_9_1 hR, ro_9_2 hR, ro_14_0 hR, ro_14_1 hR, ro_14_2 hR, ro_14_7 hR, ro_15_0 hR, ro_20_6 hR, ro_20_7 hR, ro_20_8 hR, ro_20_9 hR, ro_20_10 hR, ro_20_11 hR, ro_20_12 hR, ro_20_13 hR, ro_27_0 hR, ro_27_1 hR, ro_27_2 hR, ro_32_0 hR, ro_32_1 hR, ro_34_10 hR, ro_34_11 hR, ro_34_12 hR, ro_34_13 hR, ro_39_0 hR, ro_39_1 hR, ro_42_0 hR, ro_42_1 hR, ro_47_0 hR, ro_47_1 hR, ro_47_2 hR, ro_47_3 hR, ro_55_0 hR, ro_55_1 hR, ro_55_2 hR, ro_57_0 hR, ro_57_1 hR, ro_57_2 hR, ro_57_3 hR, ro_57_4 hR, ro_57_5 hR, ro_57_8 hR, sh_0, sh_1, sh_2, sh_3, sh_4, sh_5, sh_6, sh_7, sh_8, sh_9, sh_10, sh_11, sh_12, sh_13, sh_14, sh_15, sh_16, sh_17, sh_18, sh_19, sh_20, sh_21, sh_22, sh_23, sh_24, sh_25, sh_26, sh_27, sh_28, sh_29, sh_30, sh_31, sh_32, sh_33, sh_34, sh_35, sh_36, sh_37, sh_38, sh_39, sh_40, sh_41, sh_42, sh_43, sh_44, sh_45, sh_46, sh_47, sh_48, sh_49, sh_50, sh_51, sh_52, sh_53, sh_54, sh_55, sh_56, sh_57, sh_58, sh_59, sh_60, sh_61, sh_62, sh_63, sh_64, sh_65, sh_66, sh_67, sh_68, hl, Nat.reduceLT, Nat.reduceAdd, Nat.reduceMul, ne_eq, Nat.reduceEqDiff, not_false_eq_true, or_true, true_or, or_false, false_or, and_true, true_and, and_self, Nat.reduceLeDiff, am_ci, am_cr, am_cn0, Option.toList_some, Option.toList_none, List.cons_append, List.nil_append, am_s0, am_s1, am_s1r, am_s2, am_s2r, am_s3r, nI_add, am_u_ne, am_u_at, am_u_n1, am_u_n2, am_w_ne, hn, k2]
              exact fin _ (by rw [eK, if_pos hs])
            · have c3 : r < 0 := hr.mpr (by simpa using hs)
              simp only [c3, ↓reduceIte, rX11_advance_166, rX11_advance_168, rX11_advance_171, rX11_advance_172, rX11_advance_173, rX11_advance_176, rX11_advance_177, rX11_advance_178, rX11_advance_181, ro_0_0 hR, ro_0_3 hR, ro_0_4 hR, ro_0_5 hR, ro_0_6 hR, ro_0_7 hR, ro_0_8 hR, ro_0_9 hR, ro_0_10 hR, ro_0_11 hR, ro_2_6 hR, ro_2_7 hR, ro_2_8 hR, ro_2_9 hR, ro_2_10 hR, ro_2_11 hR, ro_2_12 hR, ro_2_13 hR, ro_9_0 hR, ro_9_1 hR, ro_9_2 hR, ro_14_0 hR, ro_14_1 hR, ro_14_2 hR, ro_14_7 hR, ro_15_0 hR, ro_20_6 hR, ro_20_7 hR, ro_20_8 hR, ro_20_9 hR, ro_20_10 hR, ro_20_11 hR, ro_20_12 hR, ro_20_13 hR, ro_27_0 hR, ro_27_1 hR, ro_27_2 hR, ro_32_0 hR, ro_32_1 hR, ro_34_10 hR, ro_34_11 hR, ro_34_12 hR, ro_34_13 hR, ro_39_0 hR, ro_39_1 hR, ro_42_0 hR, ro_42_1 hR, ro_47_0 hR, ro_47_1 hR, ro_47_2 hR, ro_47_3 hR, ro_55_0 hR, ro_55_1 hR, ro_55_2 hR, ro_57_0 hR, ro_57_1 hR, ro_57_2 hR, ro_57_3 hR, ro_57_4 hR, ro_57_5 hR, ro_57_8 hR, sh_0, sh_1, sh_2, sh_3, sh_4, sh_5, sh_6, sh_7, sh_8, sh_9, sh_10, sh_11, sh_12, sh_13, sh_14, sh_15, sh_16, sh_17, sh_18, sh_19, sh_20, sh_21, sh_22, sh_23, sh_24, sh_25, sh_26, sh_27, sh_28, sh_29, sh_30, sh_31, sh_32, sh_33, sh_34, sh_35, sh_36, sh_37, sh_38, sh_39, sh_40, sh_41, sh_42, sh_43, sh_44, sh_45, sh_46, sh_47, sh_48, sh_49, sh_50, sh_51, sh_52, sh_53, sh_54, sh_55, sh_56, sh_57, sh_58, sh_59, sh_60, sh_61, sh_62, sh_63, sh_64, sh_65, sh_66, sh_67, sh_68, hl, Nat.reduceLT, Nat.reduceAdd, Nat.reduceMul, ne_eq, Nat.reduceEqDiff, not_false_eq_true, or_true, true_or, or_false, false_or, and_true, true_and, and_self, Nat.reduceLeDiff, am_ci, am_cr, am_cn0, Option.toList_some, Option.toList_none, List.cons_append, List.nil_append, am_s0, am_s1, am_s1r, am_s2, am_s2r, am_s3r, nI_add, am_u_ne, am_u_at, am_u_n1, am_u_n2, am_w_ne, hn, k2]
              exact fin _ (by rw [eK, if_neg hs])
          by_cases m1 : I2 1 (tP x i) < nI 48
          · simp only [↓reduceIte, rX11_advance_102, rX11_advance_103, rX11_advance_106, rX11_advance_107, rX11_advance_110, rX11_advance_111, rX11_advance_113, ro_0_0 hR, ro_0_3 hR, ro_0_4 hR, ro_0_5 hR, ro_0_6 hR, ro_0_7 hR, ro_0_8 hR, ro_0_9 hR, ro_0_10 hR, ro_0_11 hR, ro_2_6 hR, ro_2_7 hR, ro_2_8 hR, ro_2_9 hR, ro_2_10 hR, ro_2_11 hR, ro_2_12 hR, ro_2_13 hR, ro_9_0 hR, ro_9_1 hR, ro_9_2 hR, ro_14_0 hR, ro_14_1 hR, ro_14_2 hR, ro_14_7 hR, ro_15_0 hR, ro_20_6 hR, ro_20_7 hR, ro_20_8 hR, ro_20_9 hR, ro_20_10 hR, ro_20_11 hR, ro_20_12 hR, ro_20_13 hR, ro_27_0 hR, ro_27_1 hR, ro_27_2 hR, ro_32_0 hR, ro_32_1 hR, ro_34_10 hR, ro_34_11 hR, ro_34_12 hR, ro_34_13 hR, ro_39_0 hR, ro_39_1 hR, ro_42_0 hR, ro_42_1 hR, ro_47_0 hR, ro_47_1 hR, ro_47_2 hR, ro_47_3 hR, ro_55_0 hR, ro_55_1 hR, ro_55_2 hR, ro_57_0 hR, ro_57_1 hR, ro_57_2 hR, ro_57_3 hR, ro_57_4 hR, ro_57_5 hR, ro_57_8 hR, sh_0, sh_1, sh_2, sh_3, sh_4, sh_5, sh_6, sh_7, sh_8, sh_9, sh_10, sh_11, sh_12, sh_13, sh_14, sh_15, sh_16, sh_17, sh_18, sh_19, sh_20, sh_21, sh_22, sh_23, sh_24, sh_25, sh_26, sh_27, sh_28, sh_29, sh_30, sh_31, sh_32, sh_33, sh_34, sh_35, sh_36, sh_37, sh_38, sh_39, sh_40, sh_41, sh_42, sh_43, sh_44, sh_45, sh_46, sh_47, sh_48, sh_49, sh_50, sh_51, sh_52, sh_53, sh_54, sh_55, sh_56, sh_57, sh_58, sh_59, sh_60, sh_61, sh_62, sh_63, sh_64, sh_65, sh_66, sh_67, sh_68, hl, Nat.reduceLT, Nat.reduceAdd, Nat.reduceMul, ne_eq, Nat.reduceEqDiff, not_false_eq_true, or_true, true_or, or_false, false_or, and_true, true_and, and_self, Nat.reduceLeDiff, am_ci, am_cr, am_cn0, Option.toList_some, Option.toList_none, List.cons_append, List.nil_append, am_s0, am_s1, am_s1r, am_s2, am_s2r, am_s3r, nI_add, am_u_ne, am_u_at, am_u_n1, am_u_n2, am_w_ne, k2, H2.rf, p2, m1]
            exact sgn
          · have m2 : nI 57 < I2 1 (tP x i) := hi2.mpr (by
              have : 48 ≤ x.2 (tP x i) ∧ x.2 (tP x i) ≤ 127 := Classical.byContradiction (fun z => m1 (lo2.mpr z))
              omega)
            simp only [↓reduceIte, rX11_advance_102, rX11_advance_103, rX11_advance_106, rX11_advance_107, rX11_advance_110, rX11_advance_111, rX11_advance_113, rX11_advance_116, rX11_advance_117, rX11_advance_120, rX11_advance_121, rX11_advance_124, rX11_advance_125, rX11_advance_127, ro_0_0 hR, ro_0_3 hR, ro_0_4 hR, ro_0_5 hR, ro_0_6 hR, ro_0_7 hR, ro_0_8 hR, ro_0_9 hR, ro_0_10 hR, ro_0_11 hR, ro_2_6 hR, ro_2_7 hR, ro_2_8 hR, ro_2_9 hR, ro_2_10 hR, ro_2_11 hR, ro_2_12 hR, ro_2_13 hR, ro_9_0 hR, ro_9_1 hR, ro_9_2 hR, ro_14_0 hR, ro_14_1 hR, ro_14_2 hR, ro_14_7 hR, ro_15_0 hR, ro_20_6 hR, ro_20_7 hR, ro_20_8 hR, ro_20_9 hR, ro_20_10 hR, ro_20_11 hR, ro_20_12 hR, ro_20_13 hR, ro_27_0 hR, ro_27_1 hR, ro_27_2 hR, ro_32_0 hR, ro_32_1 hR, ro_34_10 hR, ro_34_11 hR, ro_34_12 hR, ro_34_13 hR, ro_39_0 hR, ro_39_1 hR, ro_42_0 hR, ro_42_1 hR, ro_47_0 hR, ro_47_1 hR, ro_47_2 hR, ro_47_3 hR, ro_55_0 hR, ro_55_1 hR, ro_55_2 hR, ro_57_0 hR, ro_57_1 hR, ro_57_2 hR, ro_57_3 hR, ro_57_4 hR, ro_57_5 hR, ro_57_8 hR, sh_0, sh_1, sh_2, sh_3, sh_4, sh_5, sh_6, sh_7, sh_8, sh_9, sh_10, sh_11, sh_12, sh_13, sh_14, sh_15, sh_16, sh_17, sh_18, sh_19, sh_20, sh_21, sh_22, sh_23, sh_24, sh_25, sh_26, sh_27, sh_28, sh_29, sh_30, sh_31, sh_32, sh_33, sh_34, sh_35, sh_36, sh_37, sh_38, sh_39, sh_40, sh_41, sh_42, sh_43, sh_44, sh_45, sh_46, sh_47, sh_48, sh_49, sh_50, sh_51, sh_52, sh_53, sh_54, sh_55, sh_56, sh_57, sh_58, sh_59, sh_60, sh_61, sh_62, sh_63, sh_64, sh_65, sh_66, sh_67, sh_68, hl, Nat.reduceLT, Nat.reduceAdd, Nat.reduceMul, ne_eq, Nat.reduceEqDiff, not_false_eq_true, or_true, true_or, or_false, false_or, and_true, true_and, and_self, Nat.reduceLeDiff, am_ci, am_cr, am_cn0, Option.toList_some, Option.toList_none, List.cons_append, List.nil_append, am_s0, am_s1, am_s1r, am_s2, am_s2r, am_s3r, nI_add, am_u_ne, am_u_at, am_u_n1, am_u_n2, am_w_ne, k2, H2.rf, p2, m1, m2]
            exact sgn
      by_cases m1 : I2 1 (tP x i) < nI 97
      · simp only [c1, ↓reduceIte, rX11_advance_67, rX11_advance_68, rX11_advance_71, rX11_advance_72, rX11_advance_75, rX11_advance_76, rX11_advance_78, ro_0_0 hR, ro_0_3 hR, ro_0_4 hR, ro_0_5 hR, ro_0_6 hR, ro_0_7 hR, ro_0_8 hR, ro_0_9 hR, ro_0_10 hR, ro_0_11 hR, ro_2_6 hR, ro_2_7 hR, ro_2_8 hR, ro_2_9 hR, ro_2_10 hR, ro_2_11 hR, ro_2_12 hR, ro_2_13 hR, ro_9_0 hR, ro_9_1 hR, ro_9_2 hR, ro_14_0 hR, ro_14_1 hR, ro_14_2 hR, ro_14_7 hR, ro_15_0 hR, ro_20_6 hR, ro_20_7 hR, ro_20_8 hR, ro_20_9 hR, ro_20_10 hR, ro_20_11 hR, ro_20_12 hR, ro_20_13 hR, ro_27_0 hR, ro_27_1 hR, ro_27_2 hR, ro_32_0 hR, ro_32_1 hR, ro_34_10 hR, ro_34_11 hR, ro_34_12 hR, ro_34_13 hR, ro_39_0 hR, ro_39_1 hR, ro_42_0 hR, ro_42_1 hR, ro_47_0 hR, ro_47_1 hR, ro_47_2 hR, ro_47_3 hR, ro_55_0 hR, ro_55_1 hR, ro_55_2 hR, ro_57_0 hR, ro_57_1 hR, ro_57_2 hR, ro_57_3 hR, ro_57_4 hR, ro_57_5 hR, ro_57_8 hR, sh_0, sh_1, sh_2, sh_3, sh_4, sh_5, sh_6, sh_7, sh_8, sh_9, sh_10, sh_11, sh_12, sh_13, sh_14, sh_15, sh_16, sh_17, sh_18, sh_19, sh_20, sh_21, sh_22, sh_23, sh_24, sh_25, sh_26, sh_27, sh_28, sh_29, sh_30, sh_31, sh_32, sh_33, sh_34, sh_35, sh_36, sh_37, sh_38, sh_39, sh_40, sh_41, sh_42, sh_43, sh_44, sh_45, sh_46, sh_47, sh_48, sh_49, sh_50, sh_51, sh_52, sh_53, sh_54, sh_55, sh_56, sh_57, sh_58, sh_59, sh_60, sh_61, sh_62, sh_63, sh_64, sh_65, sh_66, sh_67, sh_68, hl, Nat.reduceLT, Nat.reduceAdd, Nat.reduceMul, ne_eq, Nat.reduceEqDiff, not_false_eq_true, or_true, true_or, or_false, false_or, and_true, true_and, and_self, Nat.reduceLeDiff, am_ci, am_cr, am_cn0, Option.toList_some, Option.toList_none, List.cons_append, List.nil_append, am_s0, am_s1, am_s1r, am_s2, am_s2r, am_s3r, nI_add, am_u_ne, am_u_at, am_u_n1, am_u_n2, am_w_ne, k2, H2.rf, p2, m1]
        exact toD
      · have m2 : nI 122 < I2 1 (tP x i) := hi.mpr (by
          have : 97 ≤ x.2 (tP x i) ∧ x.2 (tP x i) ≤ 127 := Classical.byContradiction (fun z => m1 (lo.mpr z))
          omega)
        simp only [c1, ↓reduceIte, rX11_advance_67, rX11_advance_68, rX11_advance_71, rX11_advance_72, rX11_advance_75, rX11_advance_76, rX11_advance_78, rX11_advance_81, rX11_advance_82, rX11_advance_85, rX11_advance_86, rX11_advance_89, rX11_advance_90, rX11_advance_92, ro_0_0 hR, ro_0_3 hR, ro_0_4 hR, ro_0_5 hR, ro_0_6 hR, ro_0_7 hR, ro_0_8 hR, ro_0_9 hR, ro_0_10 hR, ro_0_11 hR, ro_2_6 hR, ro_2_7 hR, ro_2_8 hR, ro_2_9 hR, ro_2_10 hR, ro_2_11 hR, ro_2_12 hR, ro_2_13 hR, ro_9_0 hR, ro_9_1 hR, ro_9_2 hR, ro_14_0 hR, ro_14_1 hR, ro_14_2 hR, ro_14_7 hR, ro_15_0 hR, ro_20_6 hR, ro_20_7 hR, ro_20_8 hR, ro_20_9 hR, ro_20_10 hR, ro_20_11 hR, ro_20_12 hR, ro_20_13 hR, ro_27_0 hR, ro_27_1 hR, ro_27_2 hR, ro_32_0 hR, ro_32_1 hR, ro_34_10 hR, ro_34_11 hR, ro_34_12 hR, ro_34_13 hR, ro_39_0 hR, ro_39_1 hR, ro_42_0 hR, ro_42_1 hR, ro_47_0 hR, ro_47_1 hR, ro_47_2 hR, ro_47_3 hR, ro_55_0 hR, ro_55_1 hR, ro_55_2 hR, ro_57_0 hR, ro_57_1 hR, ro_57_2 hR, ro_57_3 hR, ro_57_4 hR, ro_57_5 hR, ro_57_8 hR, sh_0, sh_1, sh_2, sh_3, sh_4, sh_5, sh_6, sh_7, sh_8, sh_9, sh_10, sh_11, sh_12, sh_13, sh_14, sh_15, sh_16, sh_17, sh_18, sh_19, sh_20, sh_21, sh_22, sh_23, sh_24, sh_25, sh_26, sh_27, sh_28, sh_29, sh_30, sh_31, sh_32, sh_33, sh_34, sh_35, sh_36, sh_37, sh_38, sh_39, sh_40, sh_41, sh_42, sh_43, sh_44, sh_45, sh_46, sh_47, sh_48, sh_49, sh_50, sh_51, sh_52, sh_53, sh_54, sh_55, sh_56, sh_57, sh_58, sh_59, sh_60, sh_61, sh_62, sh_63, sh_64, sh_65, sh_66, sh_67, sh_68, hl, Nat.reduceLT, Nat.reduceAdd, Nat.reduceMul, ne_eq, Nat.reduceEqDiff, not_false_eq_true, or_true, true_or, or_false, false_or, and_true, true_and, and_self, Nat.reduceLeDiff, am_ci, am_cr, am_cn0, Option.toList_some, Option.toList_none, List.cons_append, List.nil_append, am_s0, am_s1, am_s1r, am_s2, am_s2r, am_s3r, nI_add, am_u_ne, am_u_at, am_u_n1, am_u_n2, am_w_ne, k2, H2.rf, p2, m1, m2]
        exact toD
end AV
