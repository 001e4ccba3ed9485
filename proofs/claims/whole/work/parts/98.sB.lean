--! 98
/-! TEXTS: what is read becomes the script -/
theorem gtD {α : Type} {l : List α} {a : α} {i : Nat} (h : i < l.length) : l[i]? = some (l[i]?.getD a) := by
  rw [List.getElem?_eq_getElem h]; rfl
def s_v (s : pst) (i : Nat) : Nat × Nat × Int32 × Nat := (s_S s)[i]?.getD (0, 0, 0, 0)
def sgm (pt : Nat) (s : pst) : rfP := (pt, (s_P s).length, (s_S s).length, (s_C s).length, fun i => (s_v s i).1, fun i => (s_v s i).2.2.1, fun i => nI (s_v s i).2.1, fun i => nI (s_v s i).2.2.2, s_l s)
/-- what copyFrom copies -/
def cpS (I I' : Nat → Nat → Int32) : Prop := (∀ j, j < 6 → I' 2 j = I 20 j) ∧ (∀ j, j < 5 → I' 3 j = I 21 j) ∧ (∀ k j, 4 ≤ k → k ≤ 8 → j < 7 → I' k j = I (k + 18) j) ∧ I' 9 3 = I 27 3 ∧ (∀ j, j < 406 → I' 10 j = I 28 j) ∧ ∀ j, j < 3 → I' 11 j = I 29 j
theorem rbE.rg {I J : Nat → Nat → Int32} {f c pt : Nat} {b : pfx × pfx × pfx} (h : rbE I f b c) (hf : 130 * pt ≤ f ∧ f < 130 * pt + 130) (hc : c ≤ 420 * pt + 420) (g : rgA pt I J) : rbE J f b c := by
  obtain ⟨a1, h1, h2, h3, h4, h5, h6, h7, ⟨q1, q2, q3, q4, q5⟩, h9, h10⟩ := h
  have hq : 420 * pt ≤ a1 := by omega
  have g1 : ∀ k, 93 ≤ k → k ≤ 97 → J k f = I k f := fun k k1 k2 => g k f (Or.inl ⟨⟨k1, k2⟩, hf⟩)
  have g2 : ∀ k j, k = 98 ∨ k = 99 → a1 ≤ j → j < c → J k j = I k j := fun k j hk j1 j2 => g k j (Or.inr ⟨hk, by omega, by omega⟩)
  exact ⟨a1, by rw [g1 93 (by omega) (by omega)]; exact h1, by rw [g1 94 (by omega) (by omega)]; exact h2, by rw [g1 95 (by omega) (by omega)]; exact h3, rf_seg_g h4 (fun k j hk lo hj => g2 k j hk (by omega) (by omega)), h5, rf_seg_g h6 (fun k j hk lo hj => g2 k j hk (by omega) (by omega)), h7, ⟨by rw [g1 96 (by omega) (by omega)]; exact q1, by rw [g1 97 (by omega) (by omega)]; exact q2, q3, rf_seg_g q4 (fun k j hk lo hj => g2 k j hk (by omega) (by omega)), q5⟩, h9, h10⟩
theorem rf_pre.rg {I J : Nat → Nat → Int32} {c pt : Nat} (hc : c ≤ 420 * pt + 420) (g : rgA pt I J) : ∀ {r : lawB} {f : Nat}, rf_pre I c f r → 130 * pt ≤ f → f + r.length ≤ 130 * pt + 130 → rf_pre J c f r := by
  intro r
  induction r with
  | nil => intro f _ _ _; trivial
  | cons b r ih =>
    rintro f ⟨h1, h2⟩ f1 f2
    rw [List.length_cons] at f2
    exact ⟨h1.rg ⟨f1, by omega⟩ hc g, ih h2 (by omega) (by omega)⟩
theorem rfB.rg {I J : Nat → Nat → Int32} {c f pt : Nat} {acc : lawB} {e : pfx} (h : rfB I c f acc e) (hc : c ≤ 420 * pt + 420) (f1 : 130 * pt ≤ f) (f2 : f + acc.length + 1 ≤ 130 * pt + 130) (g : rgA pt I J) : rf_brs J e f acc := by
  obtain ⟨h1, h2, a3, ⟨q1, q2, q3, q4, q5⟩, h4, h5⟩ := h
  have g1 : ∀ k, 93 ≤ k → k ≤ 97 → J k (f + acc.length) = I k (f + acc.length) := fun k k1 k2 => g k _ (Or.inl ⟨⟨k1, k2⟩, by omega, by omega⟩)
  exact rf_pre.fin (h1.rg hc g f1 (by omega)) (by rw [g1 93 (by omega) (by omega)]; exact h2) ⟨a3, by rw [g1 96 (by omega) (by omega)]; exact q1, by rw [g1 97 (by omega) (by omega)]; exact q2, q3, rf_seg_g q4 (fun k j hk lo hj => g k j (Or.inr ⟨hk, by omega, by omega⟩)), q5⟩
section SB
variable {X : am_X} {d n : Nat} {I J : Nat → Nat → Int32} {L K : Nat → Nat → Int64} {R : Nat → Nat → Option Nat} {Q : Option Value → am_M → Prop} {x : txt} {s : pst} {pt : Nat}
theorem rf_sgm {J2 : Nat → Nat → Int32} (S : RS J K x pt s) (hpt : pt < 2) (g : ∀ k j, 79 ≤ k → k ≤ 99 → J2 k j = J k j) (h18 : J2 69 18 = nI pt) (hf : (s_f s).1 = 0) (B : bdA s) : rf_S J2 (sgm pt s) := by
  obtain ⟨T, F, O, H, HD, h19, h12, tp, ts, tc, ⟨hm, hd⟩, b, c, w1, w2, w3, w4, w5⟩ := id S
  have t4 := T.2.2.1
  have tp := tp.ag (J := J2) (fun k j k1 k2 => g k j (by omega) (by omega))
  have ts := ts.ag (J := J2) (z' := (s_f s).1) id (fun k j k1 k2 => g k j (by omega) (by omega))
  have tc := tc.ag (J := J2) (fun k j k1 k2 => g k j (by omega) (by omega))
  have w5 : ∀ k, k < 3 → rfO J2 (3 * pt + k) b c (s_l s k) := fun k hk => (w5 k hk).ag (Nat.le_refl _) (Nat.le_refl _) ⟨g 91 _ (by omega) (by omega), g 92 _ (by omega) (by omega)⟩ (fun k j hk _ => g k j (by omega) (by omega)) (fun k j k1 k2 _ => g k j (by omega) (by omega))
  refine ⟨h18, hpt, tp.1, tp.2.1, ts.1, ts.2.1, tc.1, tc.2.1, fun i hi => ?_, fun k hk => ?_⟩
  · have hi : i < (s_S s).length := hi
    have e : (s_S s)[i]? = some (s_v s i) := gtD hi
    obtain ⟨a1, a2, a3, a4⟩ := ts.2.2 i _ e
    exact ⟨a1 hf, ((B.2 hf).2 _ (List.mem_of_getElem? e)).1, a3, a2, a4⟩
  · show rf_law J2 (3 * pt + k) (s_l s k)
    have h := w5 k hk
    cases hl : s_l s k with
    | none => rw [hl] at h; exact h
    | some q =>
      rw [hl] at h
      obtain ⟨r, e⟩ := q
      obtain ⟨f, f1, f2, f3, f4, f5⟩ := h
      have e3 : (3 * pt + k) / 3 = pt := by omega
      rw [e3] at f5
      exact ⟨f, by omega, f2, f3, fun J' g => f4.rg (by omega) f5 (by omega) (by rw [e3] at g; exact g)⟩
theorem cl_sgm (D : DR I s) (t4 : s_t s ≤ 400) (hf : (s_f s).1 = 0) (C : cpS I J) : cl_S J (sgm pt s) := by
  obtain ⟨d1, d2, d3, d4, d5, d6, d7, d8, d9, d10, d11, d12, z, z1, z2, z3⟩ := D
  obtain ⟨c1, c2, c3, c4, c5, c6⟩ := C
  refine ⟨?_, ?_, ?_, fun i hi => ?_, z, by omega, by rw [c4]; exact z2, fun k hk => ?_⟩
  · rw [c1 0 (by omega)]; exact d4
  · rw [c1 1 (by omega)]; exact d5
  · rw [c1 2 (by omega)]; exact d6
  · have hi : i < (s_S s).length := hi
    have e : (s_S s)[i]? = some (s_v s i) := gtD hi
    obtain ⟨a1, a2, a3, a4⟩ := d11 i _ e
    refine ⟨?_, ?_, ?_, ?_⟩
    · rw [c3 4 i (by omega) (by omega) (by omega)]; exact a1 hf
    · rw [c3 6 i (by omega) (by omega) (by omega)]; exact a3
    · rw [c3 5 i (by omega) (by omega) (by omega)]; exact a2
    · rw [c3 7 i (by omega) (by omega) (by omega)]; exact a4
  · obtain ⟨fk, e1, e2⟩ := z3 k hk
    exact ⟨fk, by rw [c6 k hk]; exact e1, cl_brs_sz (Nat.le_refl _) (fun j hj => c5 j (by omega)) e2⟩
theorem fb_ok : ∀ a, a < 10 → (nI a + nI 9).toNatClampNeg ≤ 18 ∧ nI a = nI (nI a + nI 9).toNatClampNeg - nI 9 ∧ (-(nI a) + nI 9).toNatClampNeg ≤ 18 ∧ -(nI a) = nI (-(nI a) + nI 9).toNatClampNeg - nI 9 := by decide
theorem ft_ok : ∀ a, a < 4 → (nI a).toNatClampNeg < 4 ∧ nI a = nI (nI a).toNatClampNeg := by decide
theorem ok_sgm (B : bdA s) (hf : (s_f s).1 = 0) (h1 : (s_P s).length ≤ 5) (h2 : (s_S s).length ≤ 7) (h3 : (s_C s).length ≤ 7) : ok_S (sgm pt s) := by
  refine ⟨h1, h2, h3, fun i hi => ?_⟩
  have hi : i < (s_S s).length := hi
  have e : (s_S s)[i]? = some (s_v s i) := gtD hi
  obtain ⟨b1, ⟨a, ha, hb⟩, b3⟩ := (B.2 hf).2 _ (List.mem_of_getElem? e)
  obtain ⟨f1, f2, f3, f4⟩ := fb_ok a (by omega)
  obtain ⟨t1, t2⟩ := ft_ok (s_v s i).2.2.2 (by omega)
  refine ⟨b1, ?_, ?_, t1, t2⟩
  · show ((s_v s i).2.2.1 + nI 9).toNatClampNeg ≤ 18
    rcases hb with hb | hb
    · rw [hb]; exact f1
    · rw [hb]; exact f3
  · show (s_v s i).2.2.1 = nI ((s_v s i).2.2.1 + nI 9).toNatClampNeg - nI 9
    rcases hb with hb | hb
    · rw [hb]; exact f2
    · rw [hb]; exact f4
theorem ps_sgm (tp : tpR J pt (s_P s)) (h : ∀ v, v ∈ s_P s → v.1 ≤ 9) : psr (pkS (s_P s) 0) (s_P s).length (opR J (sgm pt s)) := by
  obtain ⟨k1, k2⟩ := pk_bd (s_P s) h
  have l5 := tp.2.1
  have lt : pkS (s_P s) 0 < 2 ^ 20 := Nat.lt_of_lt_of_le k1 (Nat.le_trans (Nat.pow_le_pow_right (by omega) l5) (by decide))
  have z : ∀ q, 20 ≤ q → pkS (s_P s) 0 / 2 ^ q % 2 = 0 := fun q hq => by
    rw [Nat.div_eq_of_lt (Nat.lt_of_lt_of_le lt (Nat.pow_le_pow_right (by omega) hq))]
  have big : ∀ j, (s_P s).length ≤ j → opR J (sgm pt s) j = nI 0 := fun j hj => if_neg (by show ¬ j < (s_P s).length; omega)
  refine ⟨Nat.lt_trans lt (by decide), fun p hp => ⟨?_, ?_, ?_, ?_⟩, fun p p1 p2 => ?_⟩
  · by_cases hq : p < (s_P s).length
    · have e := gtD (a := (0, 0)) hq
      have := (tp.2.2 p _ e).1
      show (if p < (s_P s).length then J 80 (5 * pt + p) else nI 0) = _
      rw [if_pos hq, this, k2 p, e]
      rfl
    · rw [big p (by omega), k2 p, List.getElem?_eq_none (by omega)]
      rfl
  · rw [big (5 + p) (by omega)]
    exact congrArg nI (z (20 + p) (by omega)).symm
  · rw [big (10 + p) (by omega)]
    exact congrArg nI (z (25 + p) (by omega)).symm
  · rw [k2 p]
    by_cases hq : p < (s_P s).length
    · have e := gtD (a := (0, 0)) hq
      rw [e]
      exact h _ (List.mem_of_getElem? e)
    · rw [List.getElem?_eq_none (by omega)]
      exact Nat.zero_le _
  · rw [k2 p, List.getElem?_eq_none p1]
    rfl
set_option maxRecDepth 40000 in
theorem c_scriptCopy (hR : am_OR R) (hN : 116 ≤ n) (hn : n ≤ 1000) (hQ : ∀ I', am_ag (fun k _ => 2 ≤ k ∧ k ≤ 11) I I' → cpS I I' → Q none (n, I', L, R)) : am_E X (d + 1) mX10_copyFrom 0 [some (.ref 2), some (.ref 20)] [] (n, I, L, R) Q := by
  have hl := am_lt hN
  have hvw9 := am_lw hN
  simp only [am_lv_of, rX10_copyFrom_0, rX10_copyFrom_1, rX10_copyFrom_2, rX10_copyFrom_5, rX10_copyFrom_8, rX10_copyFrom_9, rX10_copyFrom_10, rX10_copyFrom_13, rX10_copyFrom_16, rX10_copyFrom_17, rX10_copyFrom_18, rX10_copyFrom_21, rX10_copyFrom_24, rX10_copyFrom_25, rX10_copyFrom_26, rX10_copyFrom_29, rX10_copyFrom_32, rX10_copyFrom_33, rX10_copyFrom_34, rX10_copyFrom_37, rX10_copyFrom_40, rX10_copyFrom_41, rX10_copyFrom_42, rX10_copyFrom_45, rX10_copyFrom_48, rX10_copyFrom_49, rX10_copyFrom_52, rX10_copyFrom_53, rX10_copyFrom_54, rX10_copyFrom_57, rX10_copyFrom_58, rX10_copyFrom_59, rX10_copyFrom_62, rX10_copyFrom_63, rX10_copyFrom_66, rX10_copyFrom_67, rX10_copyFrom_70, rX10_copyFrom_71, rX10_copyFrom_72, rX10_copyFrom_75, rX10_copyFrom_76, rX10_copyFrom_77, rX10_copyFrom_80, rX10_copyFrom_81, rX10_copyFrom_84, rX10_copyFrom_85, rX10_copyFrom_88, rX10_copyFrom_89, rX10_copyFrom_90, rX10_copyFrom_93, rX10_copyFrom_94, rX10_copyFrom_95, rX10_copyFrom_98, rX10_copyFrom_99, rX10_copyFrom_102, rX10_copyFrom_103, rX10_copyFrom_106, rX10_copyFrom_107, rX10_copyFrom_108, rX10_copyFrom_111, rX10_copyFrom_112, rX10_copyFrom_113, rX10_copyFrom_116, rX10_copyFrom_117, rX10_copyFrom_120, rX10_copyFrom_121, rX10_copyFrom_124, rX10_copyFrom_125, rX10_copyFrom_126, rX10_copyFrom_129, rX10_copyFrom_130, rX10_copyFrom_131, rX10_copyFrom_134, rX10_copyFrom_135, rX10_copyFrom_138, rX10_copyFrom_139, rX10_copyFrom_142, rX10_copyFrom_143, rX10_copyFrom_144, rX10_copyFrom_147, rX10_copyFrom_148, rX10_copyFrom_149, rX10_copyFrom_152, rX10_copyFrom_153, rX10_copyFrom_156, rX10_copyFrom_157, rX10_copyFrom_160, rX10_copyFrom_161, rX10_copyFrom_164, rX10_copyFrom_167, rX1_copyFrom_0, rX1_copyFrom_1, rX1_copyFrom_4, rX1_copyFrom_5, rX1_copyFrom_6, rX1_copyFrom_9, rX1_copyFrom_10, rX1_copyFrom_11, rX1_copyFrom_14, rX1_copyFrom_15, rX1_copyFrom_18, rX1_copyFrom_19, rX1_copyFrom_22, rX1_copyFrom_23, rX1_copyFrom_24, rX1_copyFrom_27, rX1_copyFrom_28, rX1_copyFrom_29, rX1_copyFrom_32, rX1_copyFrom_33, rX1_copyFrom_36, rX1_copyFrom_37, rX1_copyFrom_38, rX1_copyFrom_41, rX1_copyFrom_44, am_copy_eq, ro_0_0 hR, ro_0_3 hR, ro_0_4 hR, ro_0_5 hR, ro_0_6 hR, ro_0_7 hR, ro_0_8 hR, ro_0_9 hR, ro_0_10 hR, ro_0_11 hR, ro_2_6 hR, ro_2_7 hR, ro_2_8 hR, ro_2_9 hR, ro_2_10 hR, ro_2_11 hR, ro_2_12 hR, ro_2_13 hR, ro_9_0 hR, ro_9_1 hR, ro_9_2 hR, ro_14_0 hR, ro_14_1 hR, ro_14_2 hR, ro_14_7 hR, ro_15_0 hR, ro_15_1 hR, ro_15_2 hR, ro_15_3 hR, ro_20_6 hR, ro_20_7 hR, ro_20_8 hR, ro_20_9 hR, ro_20_10 hR, ro_20_11 hR, ro_20_12 hR, ro_20_13 hR, ro_27_0 hR, ro_27_1 hR, ro_27_2 hR, ro_32_0 hR, ro_32_1 hR, ro_34_10 hR, ro_34_11 hR, ro_34_12 hR, ro_34_13 hR, ro_39_0 hR, ro_39_1 hR, ro_42_0 hR, ro_42_1 hR, ro_47_0 hR, ro_47_1 hR, ro_47_2 hR, ro_47_3 hR, ro_55_0 hR, ro_55_1 hR, ro_55_2 hR, ro_57_0 hR, ro_57_1 hR, ro_57_2 hR, ro_57_3 hR, ro_57_4 hR, ro_57_5 hR, ro_57_8 hR, sh_0, sh_1, sh_2, sh_3, sh_4, sh_5, sh_6, sh_7, sh_8, sh_9, sh_10, sh_11, sh_12, sh_13, sh_14, sh_15, sh_16, sh_17, sh_18, sh_19, sh_20, sh_21, sh_22, sh_23, sh_24, sh_25, sh_26, sh_27, sh_28, sh_29, sh_30, sh_31, sh_32, sh_33, sh_34, sh_35, sh_36, sh_37, sh_38, sh_39, sh_40, sh_41, sh_42, sh_43, sh_44, sh_45, sh_46, sh_47, sh_48, sh_49, sh_50, sh_51, sh_52, sh_53, sh_54, sh_55, sh_56, sh_57, sh_58, sh_59, sh_60, sh_61, sh_62, sh_63, sh_64, sh_65, sh_66, sh_67, sh_68, hl, hvw9, Nat.reduceLT, Nat.reduceAdd, Nat.reduceMul, ne_eq, Nat.reduceEqDiff, not_false_eq_true, or_true, true_or, or_false, false_or, and_true, true_and, and_self, Nat.reduceLeDiff, am_ci, am_cr, am_cn0, Option.toList_some, Option.toList_none, List.cons_append, List.nil_append, am_s0, am_s1, am_s1r, am_s2, am_s2r, am_s3r, nI_add, am_u_ne, am_u_at, am_u_n1, am_u_n2, am_w_ne, hn, Nat.reduceLeDiff, Nat.zero_add, Nat.le_refl]
  refine hQ _ (fun k j hk => ?_) ⟨fun j hj => ?_, fun j hj => ?_, fun k j k1 k2 hj => ?_, ?_, fun j hj => ?_, fun j hj => ?_⟩
  · simp [am_w, am_u, show ¬ k = 2 by omega, show ¬ k = 3 by omega, show ¬ k = 4 by omega, show ¬ k = 5 by omega, show ¬ k = 6 by omega, show ¬ k = 7 by omega, show ¬ k = 8 by omega, show ¬ k = 9 by omega, show ¬ k = 10 by omega, show ¬ k = 11 by omega]
  · have : j = 0 ∨ j = 1 ∨ j = 2 ∨ j = 3 ∨ j = 4 ∨ j = 5 := by omega
    rcases this with rfl | rfl | rfl | rfl | rfl | rfl <;> simp [am_w, am_u]
  · simp only [am_w, am_u, Nat.reduceEqDiff, ↓reduceIte]
    rw [pk_cpy_in (by omega) (by omega)]
    simp
  · have : k = 4 ∨ k = 5 ∨ k = 6 ∨ k = 7 ∨ k = 8 := by omega
    rcases this with rfl | rfl | rfl | rfl | rfl <;> simp only [am_w, am_u, Nat.reduceEqDiff, Nat.reduceAdd, ↓reduceIte] <;> rw [pk_cpy_in (by omega) (by omega)] <;> simp
  · simp [am_w, am_u]
  · simp only [am_w, am_u, Nat.reduceEqDiff, ↓reduceIte]
    rw [pk_cpy_in (by omega) (by omega)]
    simp
  · simp only [am_w, am_u, Nat.reduceEqDiff, ↓reduceIte]
    rw [pk_cpy_in (by omega) (by omega)]
    simp
/-- a fresh course -/
def cr0 (I : Nat → Nat → Int32) (w : Int32) : Prop := I 34 0 = w ∧ (∀ j, 1 ≤ j → j < 10 → j ≠ 4 → I 34 j = nI 0) ∧ I 34 4 = nI 1 ∧ ∀ j, j < 7 → I 35 j = nI 0
theorem c_beginC {w : Int32} (hR : am_OR R) (hN : 116 ≤ n) (hn : n ≤ 1000) (hQ : ∀ I', am_ag (fun k _ => k = 34 ∨ k = 35) I I' → cr0 I' w → Q none (n, I', L, R)) : am_E X (d + 1) mX3_begin 0 [some (.ref 34), some (.int w)] [] (n, I, L, R) Q := by
  have hl := am_lt hN
  have hvw9 := am_lw hN
  have l35 : 35 < n := by omega
  simp only [am_lv_of, rX3_begin_0, rX3_begin_1, rX3_begin_2, rX3_begin_5, rX3_begin_6, rX3_begin_7, rX3_begin_10, rX3_begin_11, rX3_begin_12, rX3_begin_15, rX3_begin_16, rX3_begin_17, rX3_begin_20, rX3_begin_21, rX3_begin_22, rX3_begin_25, rX3_begin_26, rX3_begin_27, rX3_begin_30, rX3_begin_31, rX3_begin_34, rX3_begin_35, ro_0_0 hR, ro_0_3 hR, ro_0_4 hR, ro_0_5 hR, ro_0_6 hR, ro_0_7 hR, ro_0_8 hR, ro_0_9 hR, ro_0_10 hR, ro_0_11 hR, ro_2_6 hR, ro_2_7 hR, ro_2_8 hR, ro_2_9 hR, ro_2_10 hR, ro_2_11 hR, ro_2_12 hR, ro_2_13 hR, ro_9_0 hR, ro_9_1 hR, ro_9_2 hR, ro_14_0 hR, ro_14_1 hR, ro_14_2 hR, ro_14_7 hR, ro_15_0 hR, ro_15_1 hR, ro_15_2 hR, ro_15_3 hR, ro_20_6 hR, ro_20_7 hR, ro_20_8 hR, ro_20_9 hR, ro_20_10 hR, ro_20_11 hR, ro_20_12 hR, ro_20_13 hR, ro_27_0 hR, ro_27_1 hR, ro_27_2 hR, ro_32_0 hR, ro_32_1 hR, ro_34_10 hR, ro_34_11 hR, ro_34_12 hR, ro_34_13 hR, ro_39_0 hR, ro_39_1 hR, ro_42_0 hR, ro_42_1 hR, ro_47_0 hR, ro_47_1 hR, ro_47_2 hR, ro_47_3 hR, ro_55_0 hR, ro_55_1 hR, ro_55_2 hR, ro_57_0 hR, ro_57_1 hR, ro_57_2 hR, ro_57_3 hR, ro_57_4 hR, ro_57_5 hR, ro_57_8 hR, sh_0, sh_1, sh_2, sh_3, sh_4, sh_5, sh_6, sh_7, sh_8, sh_9, sh_10, sh_11, sh_12, sh_13, sh_14, sh_15, sh_16, sh_17, sh_18, sh_19, sh_20, sh_21, sh_22, sh_23, sh_24, sh_25, sh_26, sh_27, sh_28, sh_29, sh_30, sh_31, sh_32, sh_33, sh_34, sh_35, sh_36, sh_37, sh_38, sh_39, sh_40, sh_41, sh_42, sh_43, sh_44, sh_45, sh_46, sh_47, sh_48, sh_49, sh_50, sh_51, sh_52, sh_53, sh_54, sh_55, sh_56, sh_57, sh_58, sh_59, sh_60, sh_61, sh_62, sh_63, sh_64, sh_65, sh_66, sh_67, sh_68, hl, hvw9, Nat.reduceLT, Nat.reduceAdd, Nat.reduceMul, ne_eq, Nat.reduceEqDiff, not_false_eq_true, or_true, true_or, or_false, false_or, and_true, true_and, and_self, Nat.reduceLeDiff, am_ci, am_cr, am_cn0, Option.toList_some, Option.toList_none, List.cons_append, List.nil_append, am_s0, am_s1, am_s1r, am_s2, am_s2r, am_s3r, nI_add, am_u_ne, am_u_at, am_u_n1, am_u_n2, am_w_ne, hn]
  refine c_fill (a := 35) (N := 7) hn l35 sh_35 (by omega) (fun I1 g1 e1 => ?_)
  have q : ∀ j, 4 ≤ j → j < 10 → I1 34 j = nI 0 := fun j j1 j2 => by
    rw [g1 34 j (by omega)]
    have : j = 4 ∨ j = 5 ∨ j = 6 ∨ j = 7 ∨ j = 8 ∨ j = 9 := by omega
    rcases this with rfl | rfl | rfl | rfl | rfl | rfl <;> simp [am_u]
  have G1 : am_ag (fun k _ => k = 34 ∨ k = 35) I I1 := by
    refine am_ag.trans ?_ (g1.mono (fun k j z => Or.inr z))
    repeat (first | exact am_ag.refl | (refine am_ag.u ?_ (Or.inl rfl)))
  simp only [am_lv_of, Option.toList_none, List.nil_append, rX3_begin_38, rX3_begin_39, rX3_begin_40, rX3_begin_43, rX3_openCase_0, rX3_openCase_1, rX3_openCase_2, rX3_openCase_5, rX3_openCase_6, rX3_openCase_7, rX3_openCase_10, rX3_openCase_11, rX3_openCase_12, rX3_openCase_15, rX3_openCase_16, rX3_openCase_17, rX3_openCase_20, rX3_openCase_21, rX3_openCase_22, rX3_openCase_25, rX3_openCase_26, rX3_openCase_27, rX3_openCase_30, ro_0_0 hR, ro_0_3 hR, ro_0_4 hR, ro_0_5 hR, ro_0_6 hR, ro_0_7 hR, ro_0_8 hR, ro_0_9 hR, ro_0_10 hR, ro_0_11 hR, ro_2_6 hR, ro_2_7 hR, ro_2_8 hR, ro_2_9 hR, ro_2_10 hR, ro_2_11 hR, ro_2_12 hR, ro_2_13 hR, ro_9_0 hR, ro_9_1 hR, ro_9_2 hR, ro_14_0 hR, ro_14_1 hR, ro_14_2 hR, ro_14_7 hR, ro_15_0 hR, ro_15_1 hR, ro_15_2 hR, ro_15_3 hR, ro_20_6 hR, ro_20_7 hR, ro_20_8 hR, ro_20_9 hR, ro_20_10 hR, ro_20_11 hR, ro_20_12 hR, ro_20_13 hR, ro_27_0 hR, ro_27_1 hR, ro_27_2 hR, ro_32_0 hR, ro_32_1 hR, ro_34_10 hR, ro_34_11 hR, ro_34_12 hR, ro_34_13 hR, ro_39_0 hR, ro_39_1 hR, ro_42_0 hR, ro_42_1 hR, ro_47_0 hR, ro_47_1 hR, ro_47_2 hR, ro_47_3 hR, ro_55_0 hR, ro_55_1 hR, ro_55_2 hR, ro_57_0 hR, ro_57_1 hR, ro_57_2 hR, ro_57_3 hR, ro_57_4 hR, ro_57_5 hR, ro_57_8 hR, sh_0, sh_1, sh_2, sh_3, sh_4, sh_5, sh_6, sh_7, sh_8, sh_9, sh_10, sh_11, sh_12, sh_13, sh_14, sh_15, sh_16, sh_17, sh_18, sh_19, sh_20, sh_21, sh_22, sh_23, sh_24, sh_25, sh_26, sh_27, sh_28, sh_29, sh_30, sh_31, sh_32, sh_33, sh_34, sh_35, sh_36, sh_37, sh_38, sh_39, sh_40, sh_41, sh_42, sh_43, sh_44, sh_45, sh_46, sh_47, sh_48, sh_49, sh_50, sh_51, sh_52, sh_53, sh_54, sh_55, sh_56, sh_57, sh_58, sh_59, sh_60, sh_61, sh_62, sh_63, sh_64, sh_65, sh_66, sh_67, sh_68, hl, hvw9, Nat.reduceLT, Nat.reduceAdd, Nat.reduceMul, ne_eq, Nat.reduceEqDiff, not_false_eq_true, or_true, true_or, or_false, false_or, and_true, true_and, and_self, Nat.reduceLeDiff, am_ci, am_cr, am_cn0, Option.toList_some, Option.toList_none, List.cons_append, List.nil_append, am_s0, am_s1, am_s1r, am_s2, am_s2r, am_s3r, nI_add, am_u_ne, am_u_at, am_u_n1, am_u_n2, am_w_ne, hn, q 4 (by omega) (by omega)]
  refine hQ _ ?_ ⟨by simp [am_u], fun j j1 j2 j3 => ?_, by simp [am_u], fun j hj => ?_⟩
  · repeat (first | exact G1 | (refine am_ag.u ?_ (Or.inl rfl)))
  · by_cases h4 : 4 < j
    · rw [← q j (by omega) j2]
      simp [am_u, show ¬ j = 0 by omega, show ¬ j = 1 by omega, show ¬ j = 2 by omega, show ¬ j = 3 by omega, show ¬ j = 4 by omega]
    · have : j = 1 ∨ j = 2 ∨ j = 3 := by omega
      rcases this with rfl | rfl | rfl <;> simp [am_u]
  · rw [← e1 j hj]
    simp [am_u]
theorem l_begR (hR : am_OR R) (hN : 116 ≤ n) (hn : n ≤ 1000) : ∀ (m i : Nat) (J : Nat → Nat → Int32), i + m = 68 → am_ag (fun k _ => k = 104) I J → (∀ j, j < i → J 104 j = nI 0) → (∀ I', am_ag (fun k _ => k = 104) I I' → (∀ j, j < 68 → I' 104 j = nI 0) → am_E X d mX13_begins 21 [some (.ref 69), some (.int (nI 68))] [] (n, I', L, R) Q) → am_E X d mX13_begins 2 [some (.ref 69), some (.int (nI i))] [] (n, J, L, R) Q := by
  have hl := am_lt hN
  have hvw9 := am_lw hN
  intro m
  induction m with
  | zero =>
    intro i J hi hJ hc hQ
    have hi : i = 68 := by omega
    subst hi
    have h1 : nI 68 ≤ nI 68 := by decide
    simp only [am_lv_of, rX13_begins_2, rX13_begins_3, rX13_begins_5, ro_69_1 hR, ro_69_3 hR, ro_69_5 hR, ro_69_6 hR, ro_69_7 hR, ro_69_8 hR, ro_69_9 hR, ro_69_21 hR, ro_69_22 hR, ro_69_23 hR, ro_69_24 hR, ro_69_25 hR, ro_69_26 hR, ro_69_27 hR, ro_69_28 hR, ro_69_29 hR, ro_69_30 hR, ro_69_31 hR, ro_69_32 hR, ro_69_33 hR, ro_69_34 hR, ro_69_35 hR, ro_69_36 hR, ro_69_38 hR, ro_69_39 hR, ro_69_40 hR, ro_69_41 hR, ro_69_42 hR, ro_69_44 hR, ro_69_45 hR, ro_69_46 hR, ro_69_48 hR, ro_69_49 hR, ro_69_51 hR, ro_69_52 hR, ro_69_55 hR, ro_69_56 hR, ro_69_57 hR, ro_69_58 hR, ro_69_59 hR, ro_69_61 hR, ro_69_62 hR, ro_69_63 hR, ro_69_64 hR, ro_69_65 hR, ro_69_66 hR, sh_69, sh_70, sh_71, sh_72, sh_73, sh_74, sh_75, sh_76, sh_77, sh_78, sh_79, sh_80, sh_81, sh_82, sh_83, sh_84, sh_85, sh_86, sh_87, sh_88, sh_89, sh_90, sh_91, sh_92, sh_93, sh_94, sh_95, sh_96, sh_97, sh_98, sh_99, sh_100, sh_101, sh_102, sh_103, sh_104, sh_105, sh_106, sh_107, sh_108, sh_109, sh_110, sh_111, sh_112, sh_113, sh_114, sh_115, hl, hvw9, Nat.reduceLT, Nat.reduceAdd, Nat.reduceMul, ne_eq, Nat.reduceEqDiff, not_false_eq_true, or_true, true_or, or_false, false_or, and_true, true_and, and_self, Nat.reduceLeDiff, am_ci, am_cr, am_cn0, Option.toList_some, Option.toList_none, List.cons_append, List.nil_append, am_s0, am_s1, am_s1r, am_s2, am_s2r, am_s3r, nI_add, am_u_ne, am_u_at, am_u_n1, am_u_n2, am_w_ne, ↓reduceIte, h1]
    exact hQ J hJ hc
  | succ m ih =>
    intro i J hi hJ hc hQ
    have h1 : ¬ nI 68 ≤ nI i := nI_ge (by omega) (by omega)
    have h2 : i < 68 := by omega
    rw [rX13_begins_2]
    simp only [am_lv_of, rX13_begins_3, rX13_begins_5, rX13_begins_8, rX13_begins_9, rX13_begins_12, rX13_begins_13, rX13_begins_14, rX13_begins_15, rX13_begins_18, ro_69_1 hR, ro_69_3 hR, ro_69_5 hR, ro_69_6 hR, ro_69_7 hR, ro_69_8 hR, ro_69_9 hR, ro_69_21 hR, ro_69_22 hR, ro_69_23 hR, ro_69_24 hR, ro_69_25 hR, ro_69_26 hR, ro_69_27 hR, ro_69_28 hR, ro_69_29 hR, ro_69_30 hR, ro_69_31 hR, ro_69_32 hR, ro_69_33 hR, ro_69_34 hR, ro_69_35 hR, ro_69_36 hR, ro_69_38 hR, ro_69_39 hR, ro_69_40 hR, ro_69_41 hR, ro_69_42 hR, ro_69_44 hR, ro_69_45 hR, ro_69_46 hR, ro_69_48 hR, ro_69_49 hR, ro_69_51 hR, ro_69_52 hR, ro_69_55 hR, ro_69_56 hR, ro_69_57 hR, ro_69_58 hR, ro_69_59 hR, ro_69_61 hR, ro_69_62 hR, ro_69_63 hR, ro_69_64 hR, ro_69_65 hR, ro_69_66 hR, sh_69, sh_70, sh_71, sh_72, sh_73, sh_74, sh_75, sh_76, sh_77, sh_78, sh_79, sh_80, sh_81, sh_82, sh_83, sh_84, sh_85, sh_86, sh_87, sh_88, sh_89, sh_90, sh_91, sh_92, sh_93, sh_94, sh_95, sh_96, sh_97, sh_98, sh_99, sh_100, sh_101, sh_102, sh_103, sh_104, sh_105, sh_106, sh_107, sh_108, sh_109, sh_110, sh_111, sh_112, sh_113, sh_114, sh_115, hl, hvw9, Nat.reduceLT, Nat.reduceAdd, Nat.reduceMul, ne_eq, Nat.reduceEqDiff, not_false_eq_true, or_true, true_or, or_false, false_or, and_true, true_and, and_self, Nat.reduceLeDiff, am_ci, am_cr, am_cn0, Option.toList_some, Option.toList_none, List.cons_append, List.nil_append, am_s0, am_s1, am_s1r, am_s2, am_s2r, am_s3r, nI_add, am_u_ne, am_u_at, am_u_n1, am_u_n2, am_w_ne, ↓reduceIte, hn, h1, h2]
    refine ih (i + 1) _ (by omega) (hJ.u rfl) (fun j hj => ?_) hQ
    by_cases e : j = i
    · rw [e, am_u_at]
    · rw [am_u_n2 e]; exact hc j (by omega)
theorem c_begins {σ : rfP} (hR : am_OR R) (hN : 116 ≤ n) (hn : n ≤ 1000) (H : rf_S I σ) (hQ : ∀ I', am_ag (fun k j => k = 104 ∨ (k = 69 ∧ j = 53)) I I' → (∀ j, j < 68 → I' 104 j = rOp I σ (fun _ => nI 0) j) → Q none (n, I', L, R)) : am_E X (d + 1) mX13_begins 0 [some (.ref 69), none] [] (n, I, L, R) Q := by
  have hl := am_lt hN
  have hvw9 := am_lw hN
  simp only [am_lv_of, rX13_begins_0, rX13_begins_1, hl, hvw9, Nat.reduceLT, Nat.reduceAdd, Nat.reduceMul, ne_eq, Nat.reduceEqDiff, not_false_eq_true, or_true, true_or, or_false, false_or, and_true, true_and, and_self, Nat.reduceLeDiff, am_ci, am_cr, am_cn0, Option.toList_some, Option.toList_none, List.cons_append, List.nil_append, am_s0, am_s1, am_s1r, am_s2, am_s2r, am_s3r, nI_add, am_u_ne, am_u_at, am_u_n1, am_u_n2, am_w_ne]
  refine l_begR hR hN hn 68 0 I (by omega) am_ag.refl (fun j hj => absurd hj (by omega)) (fun I1 g1 e1 => ?_)
  have H1 := H.ag (g1.mono (fun k j z => Or.inr (Or.inl z)))
  simp only [am_lv_of, rX13_begins_21, rX13_begins_22, sh_69, hl, hvw9, Nat.reduceLT, Nat.reduceAdd, Nat.reduceMul, ne_eq, Nat.reduceEqDiff, not_false_eq_true, or_true, true_or, or_false, false_or, and_true, true_and, and_self, Nat.reduceLeDiff, am_ci, am_cr, am_cn0, Option.toList_some, Option.toList_none, List.cons_append, List.nil_append, am_s0, am_s1, am_s1r, am_s2, am_s2r, am_s3r, nI_add, am_u_ne, am_u_at, am_u_n1, am_u_n2, am_w_ne]
  refine c_opens hR hN hn H1 (fun I2 g2 e2 => ?_)
  have H2 := H1.ag (g2.mono (fun k j z => Or.inr (Or.inl z)))
  have q18 := H2.1
  have q2 := H2.2.1
  simp only [am_lv_of, Option.toList_none, List.nil_append, rX13_begins_25, rX13_begins_26, rX13_begins_27, rX13_begins_30, rX13_begins_31, rX13_begins_34, rX13_begins_35, rX13_begins_38, ro_69_1 hR, ro_69_3 hR, ro_69_5 hR, ro_69_6 hR, ro_69_7 hR, ro_69_8 hR, ro_69_9 hR, ro_69_21 hR, ro_69_22 hR, ro_69_23 hR, ro_69_24 hR, ro_69_25 hR, ro_69_26 hR, ro_69_27 hR, ro_69_28 hR, ro_69_29 hR, ro_69_30 hR, ro_69_31 hR, ro_69_32 hR, ro_69_33 hR, ro_69_34 hR, ro_69_35 hR, ro_69_36 hR, ro_69_38 hR, ro_69_39 hR, ro_69_40 hR, ro_69_41 hR, ro_69_42 hR, ro_69_44 hR, ro_69_45 hR, ro_69_46 hR, ro_69_48 hR, ro_69_49 hR, ro_69_51 hR, ro_69_52 hR, ro_69_55 hR, ro_69_56 hR, ro_69_57 hR, ro_69_58 hR, ro_69_59 hR, ro_69_61 hR, ro_69_62 hR, ro_69_63 hR, ro_69_64 hR, ro_69_65 hR, ro_69_66 hR, sh_69, sh_70, sh_71, sh_72, sh_73, sh_74, sh_75, sh_76, sh_77, sh_78, sh_79, sh_80, sh_81, sh_82, sh_83, sh_84, sh_85, sh_86, sh_87, sh_88, sh_89, sh_90, sh_91, sh_92, sh_93, sh_94, sh_95, sh_96, sh_97, sh_98, sh_99, sh_100, sh_101, sh_102, sh_103, sh_104, sh_105, sh_106, sh_107, sh_108, sh_109, sh_110, sh_111, sh_112, sh_113, sh_114, sh_115, hl, hvw9, Nat.reduceLT, Nat.reduceAdd, Nat.reduceMul, ne_eq, Nat.reduceEqDiff, not_false_eq_true, or_true, true_or, or_false, false_or, and_true, true_and, and_self, Nat.reduceLeDiff, am_ci, am_cr, am_cn0, Option.toList_some, Option.toList_none, List.cons_append, List.nil_append, am_s0, am_s1, am_s1r, am_s2, am_s2r, am_s3r, nI_add, am_u_ne, am_u_at, am_u_n1, am_u_n2, am_w_ne, hn, q18, q2]
  refine hQ _ (((g1.mono (fun k j z => Or.inl z)).trans (g2.mono (fun k j z => Or.inl z))).u (Or.inr ⟨rfl, rfl⟩)) (fun j hj => ?_)
  rw [am_u_n1 (by omega), e2 j]
  unfold rOp
  rw [g1 80 _ (by omega), e1 18 (by omega), e1 j hj]
def gdP (k j : Nat) : Prop := k = 103 ∨ k = 104 ∨ k = 114 ∨ (k = 69 ∧ (j = 18 ∨ j = 53 ∨ j = 54 ∨ j = 60))
theorem zn0 : vp_nar .boolean (nI 0) = nI 0 := by decide
theorem c_goodR {σ : rfP} {v : Int32} (hR : am_OR R) (hN : 116 ≤ n) (hn : n ≤ 1000) (h19 : I 69 19 = nI pt) (H : rf_S (am_u I 69 18 (nI pt)) σ) (hQ : ∀ I', am_ag gdP I I' → (∀ j, j < 68 → I' 103 j = rOp I σ (fun _ => nI 0) j) → I' 69 18 = nI pt → I' 69 54 = nI 0 → I' 69 60 = nI 0 → (∀ j, j < 3 → I' 114 j = nI 0) → Q (some (.int (nI 0))) (n, I', L, R)) : am_E X (d + 2) mX13_read 191 [some (.ref 69), some (.int v)] [] (n, I, L, R) Q := by
  have hl := am_lt hN
  have hvw9 := am_lw hN
  simp only [am_lv_of, rX13_read_191, rX13_read_192, rX13_read_193, rX13_read_196, rX13_read_199, rX13_read_200, ro_69_1 hR, ro_69_3 hR, ro_69_5 hR, ro_69_6 hR, ro_69_7 hR, ro_69_8 hR, ro_69_9 hR, ro_69_21 hR, ro_69_22 hR, ro_69_23 hR, ro_69_24 hR, ro_69_25 hR, ro_69_26 hR, ro_69_27 hR, ro_69_28 hR, ro_69_29 hR, ro_69_30 hR, ro_69_31 hR, ro_69_32 hR, ro_69_33 hR, ro_69_34 hR, ro_69_35 hR, ro_69_36 hR, ro_69_38 hR, ro_69_39 hR, ro_69_40 hR, ro_69_41 hR, ro_69_42 hR, ro_69_44 hR, ro_69_45 hR, ro_69_46 hR, ro_69_48 hR, ro_69_49 hR, ro_69_51 hR, ro_69_52 hR, ro_69_55 hR, ro_69_56 hR, ro_69_57 hR, ro_69_58 hR, ro_69_59 hR, ro_69_61 hR, ro_69_62 hR, ro_69_63 hR, ro_69_64 hR, ro_69_65 hR, ro_69_66 hR, sh_69, sh_70, sh_71, sh_72, sh_73, sh_74, sh_75, sh_76, sh_77, sh_78, sh_79, sh_80, sh_81, sh_82, sh_83, sh_84, sh_85, sh_86, sh_87, sh_88, sh_89, sh_90, sh_91, sh_92, sh_93, sh_94, sh_95, sh_96, sh_97, sh_98, sh_99, sh_100, sh_101, sh_102, sh_103, sh_104, sh_105, sh_106, sh_107, sh_108, sh_109, sh_110, sh_111, sh_112, sh_113, sh_114, sh_115, hl, hvw9, Nat.reduceLT, Nat.reduceAdd, Nat.reduceMul, ne_eq, Nat.reduceEqDiff, not_false_eq_true, or_true, true_or, or_false, false_or, and_true, true_and, and_self, Nat.reduceLeDiff, am_ci, am_cr, am_cn0, Option.toList_some, Option.toList_none, List.cons_append, List.nil_append, am_s0, am_s1, am_s1r, am_s2, am_s2r, am_s3r, nI_add, am_u_ne, am_u_at, am_u_n1, am_u_n2, am_w_ne, hn, h19]
  refine c_begins hR hN hn H (fun I1 g1 e1 => ?_)
  simp only [am_lv_of, Option.toList_none, List.nil_append, rX13_read_203, rX13_read_204, ro_69_1 hR, ro_69_3 hR, ro_69_5 hR, ro_69_6 hR, ro_69_7 hR, ro_69_8 hR, ro_69_9 hR, ro_69_21 hR, ro_69_22 hR, ro_69_23 hR, ro_69_24 hR, ro_69_25 hR, ro_69_26 hR, ro_69_27 hR, ro_69_28 hR, ro_69_29 hR, ro_69_30 hR, ro_69_31 hR, ro_69_32 hR, ro_69_33 hR, ro_69_34 hR, ro_69_35 hR, ro_69_36 hR, ro_69_38 hR, ro_69_39 hR, ro_69_40 hR, ro_69_41 hR, ro_69_42 hR, ro_69_44 hR, ro_69_45 hR, ro_69_46 hR, ro_69_48 hR, ro_69_49 hR, ro_69_51 hR, ro_69_52 hR, ro_69_55 hR, ro_69_56 hR, ro_69_57 hR, ro_69_58 hR, ro_69_59 hR, ro_69_61 hR, ro_69_62 hR, ro_69_63 hR, ro_69_64 hR, ro_69_65 hR, ro_69_66 hR, sh_69, sh_70, sh_71, sh_72, sh_73, sh_74, sh_75, sh_76, sh_77, sh_78, sh_79, sh_80, sh_81, sh_82, sh_83, sh_84, sh_85, sh_86, sh_87, sh_88, sh_89, sh_90, sh_91, sh_92, sh_93, sh_94, sh_95, sh_96, sh_97, sh_98, sh_99, sh_100, sh_101, sh_102, sh_103, sh_104, sh_105, sh_106, sh_107, sh_108, sh_109, sh_110, sh_111, sh_112, sh_113, sh_114, sh_115, hl, hvw9, Nat.reduceLT, Nat.reduceAdd, Nat.reduceMul, ne_eq, Nat.reduceEqDiff, not_false_eq_true, or_true, true_or, or_false, false_or, and_true, true_and, and_self, Nat.reduceLeDiff, am_ci, am_cr, am_cn0, Option.toList_some, Option.toList_none, List.cons_append, List.nil_append, am_s0, am_s1, am_s1r, am_s2, am_s2r, am_s3r, nI_add, am_u_ne, am_u_at, am_u_n1, am_u_n2, am_w_ne]
  refine c_keepsRow hR hN hn (fun I2 g2 e2 => ?_)
  have c0 : ¬ nI 3 ≤ nI 0 := by decide
  have c1 : ¬ nI 3 ≤ nI 1 := by decide
  have c2 : ¬ nI 3 ≤ nI 2 := by decide
  have c3 : nI 3 ≤ nI 3 := by decide
  simp only [am_lv_of, Option.toList_none, List.nil_append, rX13_read_207, rX13_read_208, rX13_read_209, rX13_read_212, rX13_read_213, rX13_read_214, rX13_read_217, rX13_read_218, rX13_read_219, rX13_read_220, rX13_read_221, rX13_read_224, rX13_read_225, rX13_read_228, rX13_read_229, rX13_read_230z, rX13_read_231, rX13_read_234, rX13_read_237, rX13_read_238, ro_69_1 hR, ro_69_3 hR, ro_69_5 hR, ro_69_6 hR, ro_69_7 hR, ro_69_8 hR, ro_69_9 hR, ro_69_21 hR, ro_69_22 hR, ro_69_23 hR, ro_69_24 hR, ro_69_25 hR, ro_69_26 hR, ro_69_27 hR, ro_69_28 hR, ro_69_29 hR, ro_69_30 hR, ro_69_31 hR, ro_69_32 hR, ro_69_33 hR, ro_69_34 hR, ro_69_35 hR, ro_69_36 hR, ro_69_38 hR, ro_69_39 hR, ro_69_40 hR, ro_69_41 hR, ro_69_42 hR, ro_69_44 hR, ro_69_45 hR, ro_69_46 hR, ro_69_48 hR, ro_69_49 hR, ro_69_51 hR, ro_69_52 hR, ro_69_55 hR, ro_69_56 hR, ro_69_57 hR, ro_69_58 hR, ro_69_59 hR, ro_69_61 hR, ro_69_62 hR, ro_69_63 hR, ro_69_64 hR, ro_69_65 hR, ro_69_66 hR, sh_69, sh_70, sh_71, sh_72, sh_73, sh_74, sh_75, sh_76, sh_77, sh_78, sh_79, sh_80, sh_81, sh_82, sh_83, sh_84, sh_85, sh_86, sh_87, sh_88, sh_89, sh_90, sh_91, sh_92, sh_93, sh_94, sh_95, sh_96, sh_97, sh_98, sh_99, sh_100, sh_101, sh_102, sh_103, sh_104, sh_105, sh_106, sh_107, sh_108, sh_109, sh_110, sh_111, sh_112, sh_113, sh_114, sh_115, hl, hvw9, Nat.reduceLT, Nat.reduceAdd, Nat.reduceMul, ne_eq, Nat.reduceEqDiff, not_false_eq_true, or_true, true_or, or_false, false_or, and_true, true_and, and_self, Nat.reduceLeDiff, am_ci, am_cr, am_cn0, Option.toList_some, Option.toList_none, List.cons_append, List.nil_append, am_s0, am_s1, am_s1r, am_s2, am_s2r, am_s3r, nI_add, am_u_ne, am_u_at, am_u_n1, am_u_n2, am_w_ne, hn, ↓reduceIte, c0, c1, c2, c3, zn0]
  have G2 : am_ag gdP I I2 := ((am_ag.refl.u (by unfold gdP; omega)).trans (g1.mono (fun k j z => by unfold gdP; omega))).trans (g2.mono (fun k j z => by unfold gdP; omega))
  refine hQ _ ?_ (fun j hj => ?_) ?_ ?_ ?_ (fun j hj => ?_)
  · repeat (first | exact G2 | (refine am_ag.u ?_ (by unfold gdP; omega)))
  · simp only [am_u, Nat.reduceEqDiff, ↓reduceIte]
    rw [e2 j hj, e1 j hj]
    unfold rOp
    rw [am_u_n1 (by omega)]
  · simp only [am_u, Nat.reduceEqDiff, ↓reduceIte]
    rw [g2 69 18 (by omega), g1 69 18 (by omega), am_u_at]
  · simp only [am_u, Nat.reduceEqDiff, ↓reduceIte]
  · simp only [am_u, Nat.reduceEqDiff, ↓reduceIte]
  · have : j = 0 ∨ j = 1 ∨ j = 2 := by omega
    rcases this with rfl | rfl | rfl <;> simp [am_u]
end SB
