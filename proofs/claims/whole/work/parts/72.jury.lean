--! 71
/-! PROMISES 22, 23, 24: verdicts, half, jury -/
/-- in how many of 10 ^ c cases just m of the first c vote for the plaintiff -/
def Wy (vt : Nat → Nat) : Nat → Nat → Nat
  | 0, m => if m = 0 then 1 else 0
  | c + 1, m => Wy vt c m * (10 - vt c) + (if 0 < m then Wy vt c (m - 1) * vt c else 0)
theorem Wy_le {vt : Nat → Nat} (h : ∀ c, vt c ≤ 10) : ∀ c m, Wy vt c m ≤ 10 ^ c := by
  intro c
  induction c with
  | zero => intro m; rw [Wy]; split <;> simp
  | succ c ih =>
    intro m
    rw [Wy]
    have h1 : Wy vt c m * (10 - vt c) ≤ 10 ^ c * (10 - vt c) := Nat.mul_le_mul_right _ (ih m)
    have h2 : (if 0 < m then Wy vt c (m - 1) * vt c else 0) ≤ 10 ^ c * vt c := by
      split
      · exact Nat.mul_le_mul_right _ (ih (m - 1))
      · exact Nat.zero_le _
    have h3 : 10 ^ (c + 1) = 10 ^ c * (10 - vt c) + 10 ^ c * vt c := by
      rw [← Nat.mul_add, Nat.sub_add_cancel (h c), Nat.pow_succ]
    omega
theorem Wy_0 {vt : Nat → Nat} : ∀ c m, c < m → Wy vt c m = 0 := by
  intro c
  induction c with
  | zero => intro m hm; rw [Wy, if_neg (by omega)]
  | succ c ih =>
    intro m hm
    rw [Wy, ih m (by omega), ih (m - 1) (by omega)]
    simp
theorem cut10_ok (x : Int32) : ∃ v, v ≤ 10 ∧ cut10 x = nI v := by
  unfold cut10
  by_cases h1 : x < 0
  · exact ⟨0, by omega, by rw [if_pos h1]⟩
  · rw [if_neg h1]
    by_cases h2 : nI 10 < x
    · exact ⟨10, by omega, by rw [if_pos h2]⟩
    · rw [if_neg h2]
      obtain ⟨j, hj, rfl⟩ := nI_of h1
      exact ⟨j, (nI_leI hj (by omega)).mp (Int32.not_lt.mp h2), rfl⟩
def vtN (σ : rfP) (r : Nat → Int32) (seat : Nat → Int32) (c : Nat) : Nat := (rVot σ r (seat c) c).toNatClampNeg
theorem vtN_ok {σ : rfP} {r : Nat → Int32} {seat : Nat → Int32} (c : Nat) : vtN σ r seat c ≤ 10 ∧ rVot σ r (seat c) c = nI (vtN σ r seat c) := by
  obtain ⟨v, hv, e⟩ := cut10_ok (lawO (vVot σ r (seat c) c) (nI 5) (p_lw σ 2))
  have e : rVot σ r (seat c) c = nI v := e
  unfold vtN
  rw [e, nI_clamp (by omega)]
  exact ⟨hv, rfl⟩
theorem pow10 {c : Nat} (h : c ≤ 7) : 10 ^ c ≤ 10000000 := Nat.le_trans (Nat.pow_le_pow_right (by omega) h) (by decide)
/-- Euclid -/
theorem eu_half {l r j : Nat} (hr : 0 < r) (hrl : r < l) (hl : l < 2 ^ (j + 1)) : l % r < 2 ^ j := by
  rw [Nat.pow_succ] at hl
  by_cases h : 2 * r ≤ l
  · have := Nat.mod_lt l hr
    omega
  · rw [Nat.mod_eq_sub_mod (by omega)]
    have := Nat.mod_le (l - r) r
    omega
theorem gcd_st {g l : Nat} : Nat.gcd g l = Nat.gcd l (g % l) := by
  rw [Nat.gcd_comm g l, Nat.gcd_rec l g, Nat.gcd_comm]
def lkF (f : Nat → Nat) (i : Nat) : Nat → Nat → Nat
  | 0, b => b
  | m + 1, b => lkF f (i + 1) m (if f b < f i then i else b)
theorem lkF_0 {f : Nat → Nat} : ∀ (m i b : Nat), (∀ j, i ≤ j → f j = 0) → lkF f i m b = b := by
  intro m
  induction m with
  | zero => intro i b h; rfl
  | succ m ih => intro i b h; rw [lkF, h i (Nat.le_refl _), if_neg (by omega), ih (i + 1) b (fun j hj => h j (by omega))]
theorem lkF_s {f : Nat → Nat} : ∀ (a k i b : Nat), lkF f i (a + k) b = lkF f (i + a) k (lkF f i a b) := by
  intro a
  induction a with
  | zero => intro k i b; rw [Nat.zero_add]; rfl
  | succ a ih => intro k i b; rw [show a + 1 + k = (a + k) + 1 by omega, lkF, ih, lkF, show i + 1 + a = i + (a + 1) by omega]
def smF (f : Nat → Nat) (i : Nat) : Nat → Nat
  | 0 => 0
  | m + 1 => f i + smF f (i + 1) m
theorem smF_le {f : Nat → Nat} {B : Nat} (h : ∀ j, f j ≤ B) : ∀ (m i : Nat), smF f i m ≤ m * B := by
  intro m
  induction m with
  | zero => intro i; exact Nat.zero_le _
  | succ m ih => intro i; rw [smF, Nat.succ_mul]; have := ih (i + 1); have := h i; omega
theorem half_eqN {f : Nat → Nat} {C : Nat} (hC : C ≤ 7) (h0 : ∀ j, C < j → f j = 0) : smF f (C / 2 + 1) (7 - C / 2) = smF (fun m => if C < 2 * m then f m else 0) 0 (C + 1) := by
  have : C = 0 ∨ C = 1 ∨ C = 2 ∨ C = 3 ∨ C = 4 ∨ C = 5 ∨ C = 6 ∨ C = 7 := by omega
  rcases this with rfl | rfl | rfl | rfl | rfl | rfl | rfl | rfl <;> simp [smF, h0]
section JU
variable {X : am_X} {d n : Nat} {I : Nat → Nat → Int32} {L : Nat → Nat → Int64} {R : Nat → Nat → Option Nat} {Q : Option Value → am_M → Prop} {σ : rfP}
theorem l_fill {a N : Nat} {x : Int32} (hn : n ≤ 1000) (ha : a < n) (hs : am_SV a = (20, N)) (hN : N ≤ 2720) : ∀ (m i : Nat) (J : Nat → Nat → Int32), i + m = N → am_ag (fun k _ => k = a) I J → (∀ j, j < i → J a j = x) → (∀ I', am_ag (fun k _ => k = a) I I' → (∀ j, j < N → I' a j = x) → Q none (n, I', L, R)) → am_E X d mJ7_fill_53178 5 [some (.ref a), some (.int x), some (.int (nI i)), some (.int (nI N))] [] (n, J, L, R) Q := by
  intro m
  induction m with
  | zero =>
    intro i J hi hJ hc hQ
    have hi : i = N := by omega
    subst hi
    have h1 : nI i ≤ nI i := nI_le (Nat.le_refl _) (by omega)
    simp only [am_lv_of, rJ7_fill_53178_5, rJ7_fill_53178_6, rJ7_fill_53178_7, rJ7_fill_53178_20, ↓reduceIte, h1]
    exact hQ J hJ hc
  | succ m ih =>
    intro i J hi hJ hc hQ
    have h1 : ¬ nI N ≤ nI i := nI_ge (by omega) (by omega)
    have h2 : i < N := by omega
    rw [rJ7_fill_53178_5]
    simp only [am_lv_of, rJ7_fill_53178_6, rJ7_fill_53178_7, rJ7_fill_53178_10, rJ7_fill_53178_11, rJ7_fill_53178_12, rJ7_fill_53178_13, rJ7_fill_53178_14, rJ7_fill_53178_17, ↓reduceIte, h1, h2, hs, ha, hn, am_ci, am_cr, am_cn0, nI_add]
    refine ih (i + 1) _ (by omega) (hJ.u rfl) (fun j hj => ?_) hQ
    by_cases e : j = i
    · rw [e, am_u_at]
    · rw [am_u_n2 e]; exact hc j (by omega)
theorem c_fill {a N : Nat} {x : Int32} (hn : n ≤ 1000) (ha : a < n) (hs : am_SV a = (20, N)) (hN : N ≤ 2720) (hQ : ∀ I', am_ag (fun k _ => k = a) I I' → (∀ j, j < N → I' a j = x) → Q none (n, I', L, R)) : am_E X d mJ7_fill_53178 0 [some (.ref a), some (.int x), none, none] [] (n, I, L, R) Q := by
  have hs' : 20 ≤ (am_SV a).1 ∧ (am_SV a).1 ≤ 25 := by rw [hs]; simp
  simp only [am_lv_of, rJ7_fill_53178_0, rJ7_fill_53178_1, rJ7_fill_53178_2, rJ7_fill_53178_3 (am_lv_of ha) hs', rJ7_fill_53178_4, hs, am_ci, am_cr, am_cn0]
  exact l_fill hn ha hs hN N 0 I (by omega) am_ag.refl (fun j hj => absurd hj (Nat.not_lt_zero _)) hQ
theorem l_gd : ∀ (j g l i : Nat) (l0 l1 l5 : Option Value), l < 2 ^ j → g < 2 ^ 31 → j ≤ 30 → i + 2 * j ≤ 64 → am_nl l1 → (am_E X d mX5_greatestDivisor 7 [l0, l1, some (.int (nI g)), some (.int (nI l)), some (.int (nI i)), l5] [] (n, I, L, R) Q ↔ Q (some (.int (nI (Nat.gcd g l)))) (n, I, L, R)) := by
  have done : ∀ (g i : Nat) (l0 l1 l5 : Option Value), i ≤ 64 → (am_E X d mX5_greatestDivisor 7 [l0, l1, some (.int (nI g)), some (.int (nI 0)), some (.int (nI i)), l5] [] (n, I, L, R) Q ↔ Q (some (.int (nI g))) (n, I, L, R)) := by
    intro g i l0 l1 l5 hi
    have z : (nI 0 = 0) = True := eq_true rfl
    by_cases h : i = 64
    · have h1 : nI 64 ≤ nI i := by rw [h]; decide
      simp only [am_lv_of, rX5_greatestDivisor_7, rX5_greatestDivisor_9, rX5_greatestDivisor_11, rX5_greatestDivisor_34, rX5_greatestDivisor_35, ↓reduceIte, h1]
    · have h1 : ¬ nI 64 ≤ nI i := nI_ge (by omega) (by omega)
      simp only [am_lv_of, rX5_greatestDivisor_7, rX5_greatestDivisor_9, rX5_greatestDivisor_11, rX5_greatestDivisor_14, rX5_greatestDivisor_15, rX5_greatestDivisor_34, rX5_greatestDivisor_35, ↓reduceIte, h1, z]
  have step : ∀ (g l i : Nat) (l0 l1 l5 : Option Value), 0 < l → l < 2 ^ 31 → g < 2 ^ 31 → i < 64 → am_nl l1 → (am_E X d mX5_greatestDivisor 7 [l0, l1, some (.int (nI g)), some (.int (nI l)), some (.int (nI i)), l5] [] (n, I, L, R) Q ↔ am_E X d mX5_greatestDivisor 7 [l0, l1, some (.int (nI l)), some (.int (nI (g % l))), some (.int (nI (i + 1))), some (.int (nI (g % l)))] [] (n, I, L, R) Q) := by
    intro g l i l0 l1 l5 h0 hl hg hi n1
    have h1 : ¬ nI 64 ≤ nI i := nI_ge (by omega) (by omega)
    have z : ¬ nI l = 0 := nI_ne0 h0 hl
    rw [rX5_greatestDivisor_7]
    simp only [am_lv_of, rX5_greatestDivisor_9, rX5_greatestDivisor_11, rX5_greatestDivisor_14, rX5_greatestDivisor_15, rX5_greatestDivisor_18, rX5_greatestDivisor_19, rX5_greatestDivisor_20, rX5_greatestDivisor_21, rX5_greatestDivisor_23, rX5_greatestDivisor_24, rX5_greatestDivisor_25, rX5_greatestDivisor_27, rX5_greatestDivisor_28, rX5_greatestDivisor_31, ↓reduceIte, h1, z, not_false_eq_true, n1, am_ci, am_cr, am_cn0, nI_add, pk_rem hg h0 hl]
  intro j
  induction j with
  | zero =>
    intro g l i l0 l1 l5 hl hg hj hi n1
    have : l = 0 := by omega
    subst this
    rw [done g i l0 l1 l5 (by omega), Nat.gcd_zero_right]
  | succ j ih =>
    intro g l i l0 l1 l5 hl hg hj hi n1
    have hl31 : l < 2 ^ 31 := Nat.lt_of_lt_of_le hl (Nat.pow_le_pow_right (by omega) (by omega))
    by_cases h0 : l = 0
    · subst h0
      rw [done g i l0 l1 l5 (by omega), Nat.gcd_zero_right]
    · rw [step g l i l0 l1 l5 (by omega) hl31 hg (by omega) n1]
      have hr := Nat.mod_lt g (show 0 < l by omega)
      by_cases h1 : g % l = 0
      · rw [h1, done l (i + 1) _ _ _ (by omega), gcd_st (g := g), h1, Nat.gcd_zero_right]
      · rw [step l (g % l) (i + 1) _ _ _ (by omega) (by omega) hl31 (by omega) n1, ih (g % l) (l % (g % l)) (i + 1 + 1) _ _ _ (eu_half (by omega) hr hl) (by omega) (by omega) (by omega) n1, gcd_st (g := g), gcd_st (g := l)]
theorem c_gd {g l : Nat} (hg : g < 2 ^ 31) (hl : l < 2 ^ 30) : am_E X d mX5_greatestDivisor 0 [some (.int (nI g)), some (.int (nI l)), none, none, none, none] [] (n, I, L, R) Q ↔ Q (some (.int (nI (Nat.gcd g l)))) (n, I, L, R) := by
  simp only [am_lv_of, rX5_greatestDivisor_0, rX5_greatestDivisor_1, rX5_greatestDivisor_2, rX5_greatestDivisor_3, rX5_greatestDivisor_4, rX5_greatestDivisor_5, am_ci, am_cr, am_cn0]
  exact l_gd 30 g l 0 _ _ _ hl hg (by omega) (by omega) am_ci
theorem l_common : ∀ (N x y : Nat) (l0 l1 l4 : Option Value), y ≤ N → x < 2 ^ 31 → y < 2 ^ 31 → am_nl l1 → (am_E X d mX13_common 4 [l0, l1, some (.int (nI x)), some (.int (nI y)), l4] [] (n, I, L, R) Q ↔ Q (some (.int (nI (Nat.gcd x y)))) (n, I, L, R)) := by
  have done : ∀ (g : Nat) (l0 l1 l4 : Option Value), (am_E X d mX13_common 4 [l0, l1, some (.int (nI g)), some (.int (nI 0)), l4] [] (n, I, L, R) Q ↔ Q (some (.int (nI g))) (n, I, L, R)) := by
    intro g l0 l1 l4
    have z : (nI 0 = 0) = True := eq_true rfl
    simp only [am_lv_of, rX13_common_4, rX13_common_5, rX13_common_21, rX13_common_22, ↓reduceIte, z]
  intro N
  induction N with
  | zero =>
    intro x y l0 l1 l4 hy hx hy2 n1
    have : y = 0 := by omega
    subst this
    rw [done, Nat.gcd_zero_right]
  | succ N ih =>
    intro x y l0 l1 l4 hy hx hy2 n1
    by_cases h0 : y = 0
    · subst h0
      rw [done, Nat.gcd_zero_right]
    · have z : ¬ nI y = 0 := nI_ne0 (by omega) hy2
      have hr := Nat.mod_lt x (show 0 < y by omega)
      rw [rX13_common_4]
      simp only [am_lv_of, rX13_common_5, rX13_common_8, rX13_common_9, rX13_common_10, rX13_common_11, rX13_common_13, rX13_common_14, rX13_common_15, rX13_common_17, rX13_common_18, ↓reduceIte, z, not_false_eq_true, n1, am_ci, am_cr, am_cn0, pk_rem hx (show 0 < y by omega) hy2]
      rw [ih y (x % y) _ _ _ (by omega) hy2 (by omega) n1, gcd_st (g := x)]
theorem c_common {x y : Nat} (hx : x < 2 ^ 31) (hy : y < 2 ^ 31) : am_E X d mX13_common 0 [some (.int (nI x)), some (.int (nI y)), none, none, none] [] (n, I, L, R) Q ↔ Q (some (.int (nI (Nat.gcd x y)))) (n, I, L, R) := by
  simp only [am_lv_of, rX13_common_0, rX13_common_1, rX13_common_2, rX13_common_3, am_ci, am_cr, am_cn0]
  exact l_common y x y _ _ _ (Nat.le_refl _) hx hy am_ci
theorem c_share {al so : Nat} {b : Int32} (hN : 116 ≤ n) (h3 : I 55 3 = nI al) (h0 : 0 < al) (ha : al < 2 ^ 31) (hs : so < 2 ^ 30) : am_E X (d + 1) mX5_share 0 [some (.ref 55), some (.int (nI so)), some (.int b), none] [] (n, I, L, R) Q ↔ Q (some (.int (nI ((if b = 0 then so else al) / Nat.gcd so al)))) (n, I, L, R) := by
  have hl := am_lt hN
  have hvw9 := am_lw hN
  have hg : 0 < Nat.gcd al so := Nat.gcd_pos_of_pos_left _ h0
  have hg2 : Nat.gcd al so ≤ al := Nat.gcd_le_left _ h0
  have z : ¬ nI (Nat.gcd al so) = 0 := nI_ne0 hg (by omega)
  rw [Nat.gcd_comm so al]
  by_cases hb : b = 0
  · simp only [am_lv_of, rX5_share_0, rX5_share_1, rX5_share_4, rX5_share_5, rX5_share_8, rX5_share_9, rX5_share_10, rX5_share_13, rX5_share_14, rX5_share_15, rX5_share_16, rX5_share_19, rX5_share_20, rX5_share_23, rX5_share_26, rX5_share_27, rX5_share_28, rX5_share_29, sh_55, hl, hvw9, Nat.reduceLT, Nat.reduceAdd, Nat.reduceMul, ne_eq, Nat.reduceEqDiff, not_false_eq_true, or_true, true_or, or_false, false_or, and_true, true_and, and_self, Nat.reduceLeDiff, am_ci, am_cr, am_cn0, Option.toList_some, Option.toList_none, List.cons_append, List.nil_append, am_s0, am_s1, am_s1r, am_s2, am_s2r, am_s3r, nI_add, am_u_ne, am_u_at, am_u_n1, am_u_n2, am_w_ne, ↓reduceIte, h3, c_gd ha hs, z, hb, pk_div (show so < 2 ^ 31 by omega) hg (show Nat.gcd al so < 2 ^ 31 by omega)]
  · simp only [am_lv_of, rX5_share_0, rX5_share_1, rX5_share_4, rX5_share_5, rX5_share_8, rX5_share_9, rX5_share_10, rX5_share_13, rX5_share_14, rX5_share_15, rX5_share_16, rX5_share_19, rX5_share_20, rX5_share_23, rX5_share_26, rX5_share_27, rX5_share_28, rX5_share_29, sh_55, hl, hvw9, Nat.reduceLT, Nat.reduceAdd, Nat.reduceMul, ne_eq, Nat.reduceEqDiff, not_false_eq_true, or_true, true_or, or_false, false_or, and_true, true_and, and_self, Nat.reduceLeDiff, am_ci, am_cr, am_cn0, Option.toList_some, Option.toList_none, List.cons_append, List.nil_append, am_s0, am_s1, am_s1r, am_s2, am_s2r, am_s3r, nI_add, am_u_ne, am_u_at, am_u_n1, am_u_n2, am_w_ne, ↓reduceIte, h3, c_gd ha hs, z, hb, pk_div ha hg (show Nat.gcd al so < 2 ^ 31 by omega)]
theorem l_lineOf {C : Nat} {l1 l2 : Option Value} (hR : am_OR R) (hN : 116 ≤ n) (H : rf_S I σ) (hC : p_C σ = C) (n2 : am_nl l2) : ∀ (m i : Nat), i + m = C → (am_E X (d + 1) mX13_lineOf 5 [some (.ref 69), l1, l2, some (.int (nI (10 ^ i))), some (.int (nI i))] [] (n, I, L, R) Q ↔ am_E X (d + 1) mX13_lineOf 30 [some (.ref 69), l1, l2, some (.int (nI (10 ^ C))), some (.int (nI C))] [] (n, I, L, R) Q) := by
  have hl := am_lt hN
  have hvw9 := am_lw hN
  obtain ⟨f1, f2, f3, f4, f5, f6, f7, f8, -⟩ := id H
  rw [hC] at f7 f8
  intro m
  induction m with
  | zero =>
    intro i hi
    have hi : i = C := by omega
    subst hi
    have h1 : nI i ≤ nI i := nI_le (Nat.le_refl _) (by omega)
    simp only [am_lv_of, rX13_lineOf_5, rX13_lineOf_7, rX13_lineOf_8, rX13_lineOf_11, rX13_lineOf_12, rX13_lineOf_15, rX13_lineOf_16, ro_69_1 hR, ro_69_3 hR, ro_69_5 hR, ro_69_6 hR, ro_69_7 hR, ro_69_8 hR, ro_69_9 hR, ro_69_21 hR, ro_69_22 hR, ro_69_23 hR, ro_69_24 hR, ro_69_25 hR, ro_69_26 hR, ro_69_27 hR, ro_69_28 hR, ro_69_29 hR, ro_69_30 hR, ro_69_31 hR, ro_69_32 hR, ro_69_33 hR, ro_69_34 hR, ro_69_35 hR, ro_69_36 hR, ro_69_38 hR, ro_69_39 hR, ro_69_40 hR, ro_69_41 hR, ro_69_42 hR, ro_69_44 hR, ro_69_45 hR, ro_69_46 hR, ro_69_48 hR, ro_69_49 hR, ro_69_51 hR, ro_69_52 hR, ro_69_55 hR, ro_69_56 hR, ro_69_57 hR, ro_69_58 hR, ro_69_59 hR, ro_69_61 hR, ro_69_62 hR, ro_69_63 hR, ro_69_64 hR, ro_69_65 hR, ro_69_66 hR, sh_69, sh_70, sh_71, sh_72, sh_73, sh_74, sh_75, sh_76, sh_77, sh_78, sh_79, sh_80, sh_81, sh_82, sh_83, sh_84, sh_85, sh_86, sh_87, sh_88, sh_89, sh_90, sh_91, sh_92, sh_93, sh_94, sh_95, sh_96, sh_97, sh_98, sh_99, sh_100, sh_101, sh_102, sh_103, sh_104, sh_105, sh_106, sh_107, sh_108, sh_109, sh_110, sh_111, sh_112, sh_113, sh_114, sh_115, hl, hvw9, Nat.reduceLT, Nat.reduceAdd, Nat.reduceMul, ne_eq, Nat.reduceEqDiff, not_false_eq_true, or_true, true_or, or_false, false_or, and_true, true_and, and_self, Nat.reduceLeDiff, am_ci, am_cr, am_cn0, Option.toList_some, Option.toList_none, List.cons_append, List.nil_append, am_s0, am_s1, am_s1r, am_s2, am_s2r, am_s3r, nI_add, am_u_ne, am_u_at, am_u_n1, am_u_n2, am_w_ne, ↓reduceIte, f1, f2, f7, h1]
  | succ m ih =>
    intro i hi
    have h1 : ¬ nI C ≤ nI i := nI_ge (by omega) (by omega)
    have e : 10 ^ i * 10 = 10 ^ (i + 1) := by rw [Nat.pow_succ]
    rw [rX13_lineOf_5]
    simp only [am_lv_of, rX13_lineOf_7, rX13_lineOf_8, rX13_lineOf_11, rX13_lineOf_12, rX13_lineOf_15, rX13_lineOf_16, rX13_lineOf_19, rX13_lineOf_20, rX13_lineOf_22, rX13_lineOf_23, rX13_lineOf_24, rX13_lineOf_27, ro_69_1 hR, ro_69_3 hR, ro_69_5 hR, ro_69_6 hR, ro_69_7 hR, ro_69_8 hR, ro_69_9 hR, ro_69_21 hR, ro_69_22 hR, ro_69_23 hR, ro_69_24 hR, ro_69_25 hR, ro_69_26 hR, ro_69_27 hR, ro_69_28 hR, ro_69_29 hR, ro_69_30 hR, ro_69_31 hR, ro_69_32 hR, ro_69_33 hR, ro_69_34 hR, ro_69_35 hR, ro_69_36 hR, ro_69_38 hR, ro_69_39 hR, ro_69_40 hR, ro_69_41 hR, ro_69_42 hR, ro_69_44 hR, ro_69_45 hR, ro_69_46 hR, ro_69_48 hR, ro_69_49 hR, ro_69_51 hR, ro_69_52 hR, ro_69_55 hR, ro_69_56 hR, ro_69_57 hR, ro_69_58 hR, ro_69_59 hR, ro_69_61 hR, ro_69_62 hR, ro_69_63 hR, ro_69_64 hR, ro_69_65 hR, ro_69_66 hR, sh_69, sh_70, sh_71, sh_72, sh_73, sh_74, sh_75, sh_76, sh_77, sh_78, sh_79, sh_80, sh_81, sh_82, sh_83, sh_84, sh_85, sh_86, sh_87, sh_88, sh_89, sh_90, sh_91, sh_92, sh_93, sh_94, sh_95, sh_96, sh_97, sh_98, sh_99, sh_100, sh_101, sh_102, sh_103, sh_104, sh_105, sh_106, sh_107, sh_108, sh_109, sh_110, sh_111, sh_112, sh_113, sh_114, sh_115, hl, hvw9, Nat.reduceLT, Nat.reduceAdd, Nat.reduceMul, ne_eq, Nat.reduceEqDiff, not_false_eq_true, or_true, true_or, or_false, false_or, and_true, true_and, and_self, Nat.reduceLeDiff, am_ci, am_cr, am_cn0, Option.toList_some, Option.toList_none, List.cons_append, List.nil_append, am_s0, am_s1, am_s1r, am_s2, am_s2r, am_s3r, nI_add, am_u_ne, am_u_at, am_u_n1, am_u_n2, am_w_ne, ↓reduceIte, f1, f2, f7, h1, n2, pk_mul, e]
    rw [ih (i + 1) (by omega)]
theorem c_lineOf {so : Nat} {b : Int32} (hR : am_OR R) (hN : 116 ≤ n) (H : rf_S I σ) (hs : so < 2 ^ 30) : am_E X (d + 1) mX13_lineOf 0 [some (.ref 69), some (.int (nI so)), some (.int b), none, none] [] (n, I, L, R) Q ↔ Q (some (.int (nI ((if b = 0 then so else 10 ^ p_C σ) / Nat.gcd so (10 ^ p_C σ))))) (n, I, L, R) := by
  have hl := am_lt hN
  have hvw9 := am_lw hN
  have hp := pow10 H.2.2.2.2.2.2.2.1
  have h0 : 0 < 10 ^ p_C σ := Nat.pow_pos (by omega)
  have hg : 0 < Nat.gcd so (10 ^ p_C σ) := Nat.gcd_pos_of_pos_right _ h0
  have hg2 : Nat.gcd so (10 ^ p_C σ) ≤ 10 ^ p_C σ := Nat.gcd_le_right _ h0
  have z : ¬ nI (Nat.gcd so (10 ^ p_C σ)) = 0 := nI_ne0 hg (by omega)
  have e1 : nI 1 = nI (10 ^ 0) := rfl
  simp only [am_lv_of, rX13_lineOf_0, rX13_lineOf_1, rX13_lineOf_2, rX13_lineOf_3, hl, hvw9, Nat.reduceLT, Nat.reduceAdd, Nat.reduceMul, ne_eq, Nat.reduceEqDiff, not_false_eq_true, or_true, true_or, or_false, false_or, and_true, true_and, and_self, Nat.reduceLeDiff, am_ci, am_cr, am_cn0, Option.toList_some, Option.toList_none, List.cons_append, List.nil_append, am_s0, am_s1, am_s1r, am_s2, am_s2r, am_s3r, nI_add, am_u_ne, am_u_at, am_u_n1, am_u_n2, am_w_ne]
  rw [e1, l_lineOf hR hN H rfl am_ci (p_C σ) 0 (by omega)]
  by_cases hb : b = 0
  · simp only [am_lv_of, rX13_lineOf_30, rX13_lineOf_31, rX13_lineOf_32, rX13_lineOf_35, rX13_lineOf_37, rX13_lineOf_38, rX13_lineOf_41, rX13_lineOf_42, rX13_lineOf_45, rX13_lineOf_46, rX13_lineOf_48, rX13_lineOf_49, hl, hvw9, Nat.reduceLT, Nat.reduceAdd, Nat.reduceMul, ne_eq, Nat.reduceEqDiff, not_false_eq_true, or_true, true_or, or_false, false_or, and_true, true_and, and_self, Nat.reduceLeDiff, am_ci, am_cr, am_cn0, Option.toList_some, Option.toList_none, List.cons_append, List.nil_append, am_s0, am_s1, am_s1r, am_s2, am_s2r, am_s3r, nI_add, am_u_ne, am_u_at, am_u_n1, am_u_n2, am_w_ne, ↓reduceIte, c_common (show so < 2 ^ 31 by omega) (show 10 ^ p_C σ < 2 ^ 31 by omega), z, hb, pk_div (show so < 2 ^ 31 by omega) hg (show Nat.gcd so (10 ^ p_C σ) < 2 ^ 31 by omega)]
  · simp only [am_lv_of, rX13_lineOf_30, rX13_lineOf_31, rX13_lineOf_32, rX13_lineOf_35, rX13_lineOf_37, rX13_lineOf_38, rX13_lineOf_41, rX13_lineOf_42, rX13_lineOf_45, rX13_lineOf_46, rX13_lineOf_48, rX13_lineOf_49, hl, hvw9, Nat.reduceLT, Nat.reduceAdd, Nat.reduceMul, ne_eq, Nat.reduceEqDiff, not_false_eq_true, or_true, true_or, or_false, false_or, and_true, true_and, and_self, Nat.reduceLeDiff, am_ci, am_cr, am_cn0, Option.toList_some, Option.toList_none, List.cons_append, List.nil_append, am_s0, am_s1, am_s1r, am_s2, am_s2r, am_s3r, nI_add, am_u_ne, am_u_at, am_u_n1, am_u_n2, am_w_ne, ↓reduceIte, c_common (show so < 2 ^ 31 by omega) (show 10 ^ p_C σ < 2 ^ 31 by omega), z, hb, pk_div (show 10 ^ p_C σ < 2 ^ 31 by omega) hg (show Nat.gcd so (10 ^ p_C σ) < 2 ^ 31 by omega)]
/-- ways behind one child more -/
def wNx (w : Nat → Nat) (v m : Nat) : Nat := w m * (10 - v) + (if 0 < m then w (m - 1) * v else 0)
theorem l_pollIn {w : Nat → Nat} {v : Nat} {l1 l2 : Option Value} (hR : am_OR R) (hN : 116 ≤ n) (hn : n ≤ 1000) (hv : v ≤ 10) (n2 : am_nl l2) : ∀ (m : Nat) (J : Nat → Nat → Int32), m < 8 → am_ag (fun k _ => k = 56) I J → (∀ j, j < 8 → J 56 j = nI (if m < j then wNx w v j else w j)) → (∀ I', am_ag (fun k _ => k = 56) I I' → (∀ j, j < 8 → I' 56 j = nI (if 0 < j then wNx w v j else w j)) → am_E X d mX5_poll 96 [some (.ref 55), l1, l2, some (.int (nI v)), some (.int (nI 0))] [] (n, I', L, R) Q) → am_E X d mX5_poll 54 [some (.ref 55), l1, l2, some (.int (nI v)), some (.int (nI m))] [] (n, J, L, R) Q := by
  have hl := am_lt hN
  have hvw9 := am_lw hN
  have ev : nI 10 - nI v = nI (10 - v) := pk_sub hv
  intro m
  induction m with
  | zero =>
    intro J hm hJ hc hQ
    have h1 : nI 0 ≤ (0 : Int32) := by decide
    simp only [am_lv_of, rX5_poll_54, rX5_poll_56, ↓reduceIte, h1]
    exact hQ J hJ hc
  | succ m ih =>
    intro J hm hJ hc hQ
    have h1 : ¬ nI (m + 1) ≤ (0 : Int32) := nI_nle (by omega) (by omega)
    have e1 : nI (m + 1) - nI 1 = nI m := by rw [pk_sub (by omega)]; rfl
    have i1 : m + 1 < 8 := hm
    have i2 : m < 8 := by omega
    have c1 : J 56 (m + 1) = nI (w (m + 1)) := by rw [hc _ i1, if_neg (by omega)]
    have c2 : J 56 m = nI (w m) := by rw [hc _ i2, if_neg (by omega)]
    rw [rX5_poll_54]
    simp only [am_lv_of, rX5_poll_56, rX5_poll_59, rX5_poll_60, rX5_poll_63, rX5_poll_65, rX5_poll_66, rX5_poll_69, rX5_poll_71, rX5_poll_72, rX5_poll_74, rX5_poll_75, rX5_poll_76, rX5_poll_77, rX5_poll_78, rX5_poll_81, rX5_poll_83, rX5_poll_84, rX5_poll_85, rX5_poll_86, rX5_poll_87, rX5_poll_88, rX5_poll_89, rX5_poll_90, rX5_poll_93, ro_0_0 hR, ro_0_3 hR, ro_0_4 hR, ro_0_5 hR, ro_0_6 hR, ro_0_7 hR, ro_0_8 hR, ro_0_9 hR, ro_0_10 hR, ro_0_11 hR, ro_2_6 hR, ro_2_7 hR, ro_2_8 hR, ro_2_9 hR, ro_2_10 hR, ro_2_11 hR, ro_2_12 hR, ro_2_13 hR, ro_9_0 hR, ro_9_1 hR, ro_9_2 hR, ro_14_0 hR, ro_14_1 hR, ro_14_2 hR, ro_14_7 hR, ro_15_0 hR, ro_15_1 hR, ro_15_2 hR, ro_15_3 hR, ro_20_6 hR, ro_20_7 hR, ro_20_8 hR, ro_20_9 hR, ro_20_10 hR, ro_20_11 hR, ro_20_12 hR, ro_20_13 hR, ro_27_0 hR, ro_27_1 hR, ro_27_2 hR, ro_32_0 hR, ro_32_1 hR, ro_34_10 hR, ro_34_11 hR, ro_34_12 hR, ro_34_13 hR, ro_39_0 hR, ro_39_1 hR, ro_42_0 hR, ro_42_1 hR, ro_47_0 hR, ro_47_1 hR, ro_47_2 hR, ro_47_3 hR, ro_55_0 hR, ro_55_1 hR, ro_55_2 hR, ro_57_0 hR, ro_57_1 hR, ro_57_2 hR, ro_57_3 hR, ro_57_4 hR, ro_57_5 hR, ro_57_8 hR, sh_0, sh_1, sh_2, sh_3, sh_4, sh_5, sh_6, sh_7, sh_8, sh_9, sh_10, sh_11, sh_12, sh_13, sh_14, sh_15, sh_16, sh_17, sh_18, sh_19, sh_20, sh_21, sh_22, sh_23, sh_24, sh_25, sh_26, sh_27, sh_28, sh_29, sh_30, sh_31, sh_32, sh_33, sh_34, sh_35, sh_36, sh_37, sh_38, sh_39, sh_40, sh_41, sh_42, sh_43, sh_44, sh_45, sh_46, sh_47, sh_48, sh_49, sh_50, sh_51, sh_52, sh_53, sh_54, sh_55, sh_56, sh_57, sh_58, sh_59, sh_60, sh_61, sh_62, sh_63, sh_64, sh_65, sh_66, sh_67, sh_68, hl, hvw9, Nat.reduceLT, Nat.reduceAdd, Nat.reduceMul, ne_eq, Nat.reduceEqDiff, not_false_eq_true, or_true, true_or, or_false, false_or, and_true, true_and, and_self, Nat.reduceLeDiff, am_ci, am_cr, am_cn0, Option.toList_some, Option.toList_none, List.cons_append, List.nil_append, am_s0, am_s1, am_s1r, am_s2, am_s2r, am_s3r, nI_add, am_u_ne, am_u_at, am_u_n1, am_u_n2, am_w_ne, ↓reduceIte, hn, h1, e1, i1, i2, c1, c2, ev, pk_mul, pk_m1]
    refine ih _ (by omega) (hJ.u rfl) (fun j hj => ?_) hQ
    by_cases e : j = m + 1
    · subst e
      rw [am_u_at, if_pos (by omega)]
      unfold wNx
      rw [if_pos (by omega)]
      rfl
    · rw [am_u_n2 e, hc j hj]
      by_cases h : m + 1 < j
      · rw [if_pos h, if_pos (by omega)]
      · rw [if_neg h, if_neg (by omega)]
/-- what a poll writes -/
def plP (k j : Nat) : Prop := skc k j ∨ k = 56 ∨ (k = 55 ∧ j = 3)
theorem l_poll {wp : Nat} {r : Nat → Int32} {l3 l4 : Option Value} (hR : am_OR R) (hN : 116 ≤ n) (hn : n ≤ 1000) (ho : ok_S σ) (H : cl_S I σ) (cw : I 34 0 = nI wp) (c16 : I 34 1 = r 16) (h : psr wp (p_P σ) r) : ∀ (m c : Nat) (J : Nat → Nat → Int32) (l3 l4 : Option Value), c + m = p_C σ → am_ag plP I J → (∀ j, j < 8 → J 56 j = nI (Wy (vtN σ r (I 8)) c j)) → J 55 3 = nI (10 ^ c) → am_nl l3 → am_nl l4 → (∀ I', am_ag plP I I' → (∀ j, j < 8 → I' 56 j = nI (Wy (vtN σ r (I 8)) (p_C σ) j)) → I' 55 3 = nI (10 ^ p_C σ) → Q none (n, I', L, R)) → am_E X (d + 4) mX5_poll 22 [some (.ref 55), some (.ref 34), some (.int (nI c)), l3, l4] [] (n, J, L, R) Q := by
  have hl := am_lt hN
  have hvw9 := am_lw hN
  have C7 := ho.2.2.1
  intro m
  induction m with
  | zero =>
    intro c J l3 l4 hc hJ hw ha n3 n4 hQ
    have hc : c = p_C σ := by omega
    subst hc
    have h1 : nI (p_C σ) ≤ nI (p_C σ) := nI_le (Nat.le_refl _) (by omega)
    have e2 : J 2 2 = nI (p_C σ) := by rw [hJ 2 2 (by unfold plP skc; omega)]; exact H.2.2.1
    simp only [am_lv_of, rX5_poll_22, rX5_poll_23, rX5_poll_24, rX5_poll_27, rX5_poll_30, rX5_poll_126, ro_0_0 hR, ro_0_3 hR, ro_0_4 hR, ro_0_5 hR, ro_0_6 hR, ro_0_7 hR, ro_0_8 hR, ro_0_9 hR, ro_0_10 hR, ro_0_11 hR, ro_2_6 hR, ro_2_7 hR, ro_2_8 hR, ro_2_9 hR, ro_2_10 hR, ro_2_11 hR, ro_2_12 hR, ro_2_13 hR, ro_9_0 hR, ro_9_1 hR, ro_9_2 hR, ro_14_0 hR, ro_14_1 hR, ro_14_2 hR, ro_14_7 hR, ro_15_0 hR, ro_15_1 hR, ro_15_2 hR, ro_15_3 hR, ro_20_6 hR, ro_20_7 hR, ro_20_8 hR, ro_20_9 hR, ro_20_10 hR, ro_20_11 hR, ro_20_12 hR, ro_20_13 hR, ro_27_0 hR, ro_27_1 hR, ro_27_2 hR, ro_32_0 hR, ro_32_1 hR, ro_34_10 hR, ro_34_11 hR, ro_34_12 hR, ro_34_13 hR, ro_39_0 hR, ro_39_1 hR, ro_42_0 hR, ro_42_1 hR, ro_47_0 hR, ro_47_1 hR, ro_47_2 hR, ro_47_3 hR, ro_55_0 hR, ro_55_1 hR, ro_55_2 hR, ro_57_0 hR, ro_57_1 hR, ro_57_2 hR, ro_57_3 hR, ro_57_4 hR, ro_57_5 hR, ro_57_8 hR, sh_0, sh_1, sh_2, sh_3, sh_4, sh_5, sh_6, sh_7, sh_8, sh_9, sh_10, sh_11, sh_12, sh_13, sh_14, sh_15, sh_16, sh_17, sh_18, sh_19, sh_20, sh_21, sh_22, sh_23, sh_24, sh_25, sh_26, sh_27, sh_28, sh_29, sh_30, sh_31, sh_32, sh_33, sh_34, sh_35, sh_36, sh_37, sh_38, sh_39, sh_40, sh_41, sh_42, sh_43, sh_44, sh_45, sh_46, sh_47, sh_48, sh_49, sh_50, sh_51, sh_52, sh_53, sh_54, sh_55, sh_56, sh_57, sh_58, sh_59, sh_60, sh_61, sh_62, sh_63, sh_64, sh_65, sh_66, sh_67, sh_68, hl, hvw9, Nat.reduceLT, Nat.reduceAdd, Nat.reduceMul, ne_eq, Nat.reduceEqDiff, not_false_eq_true, or_true, true_or, or_false, false_or, and_true, true_and, and_self, Nat.reduceLeDiff, am_ci, am_cr, am_cn0, Option.toList_some, Option.toList_none, List.cons_append, List.nil_append, am_s0, am_s1, am_s1r, am_s2, am_s2r, am_s3r, nI_add, am_u_ne, am_u_at, am_u_n1, am_u_n2, am_w_ne, ↓reduceIte, e2, h1]
    exact hQ J hJ hw ha
  | succ m ih =>
    intro c J l3 l4 hc hJ hw ha n3 n4 hQ
    have h1 : ¬ nI (p_C σ) ≤ nI c := nI_ge (by omega) (by omega)
    have e2 : J 2 2 = nI (p_C σ) := by rw [hJ 2 2 (by unfold plP skc; omega)]; exact H.2.2.1
    have e340 : J 34 0 = nI wp := by rw [hJ 34 0 (by unfold plP skc; omega)]; exact cw
    have e341 : J 34 1 = r 16 := by rw [hJ 34 1 (by unfold plP skc; omega)]; exact c16
    have HJ : cl_S J σ := H.ag (fun k j hk => hJ k j (by unfold plP skc; omega))
    rw [rX5_poll_22]
    simp only [am_lv_of, rX5_poll_23, rX5_poll_24, rX5_poll_27, rX5_poll_30, rX5_poll_33, rX5_poll_34, rX5_poll_37, rX5_poll_38, rX5_poll_41, rX5_poll_42, rX5_poll_45, rX5_poll_46, ro_0_0 hR, ro_0_3 hR, ro_0_4 hR, ro_0_5 hR, ro_0_6 hR, ro_0_7 hR, ro_0_8 hR, ro_0_9 hR, ro_0_10 hR, ro_0_11 hR, ro_2_6 hR, ro_2_7 hR, ro_2_8 hR, ro_2_9 hR, ro_2_10 hR, ro_2_11 hR, ro_2_12 hR, ro_2_13 hR, ro_9_0 hR, ro_9_1 hR, ro_9_2 hR, ro_14_0 hR, ro_14_1 hR, ro_14_2 hR, ro_14_7 hR, ro_15_0 hR, ro_15_1 hR, ro_15_2 hR, ro_15_3 hR, ro_20_6 hR, ro_20_7 hR, ro_20_8 hR, ro_20_9 hR, ro_20_10 hR, ro_20_11 hR, ro_20_12 hR, ro_20_13 hR, ro_27_0 hR, ro_27_1 hR, ro_27_2 hR, ro_32_0 hR, ro_32_1 hR, ro_34_10 hR, ro_34_11 hR, ro_34_12 hR, ro_34_13 hR, ro_39_0 hR, ro_39_1 hR, ro_42_0 hR, ro_42_1 hR, ro_47_0 hR, ro_47_1 hR, ro_47_2 hR, ro_47_3 hR, ro_55_0 hR, ro_55_1 hR, ro_55_2 hR, ro_57_0 hR, ro_57_1 hR, ro_57_2 hR, ro_57_3 hR, ro_57_4 hR, ro_57_5 hR, ro_57_8 hR, sh_0, sh_1, sh_2, sh_3, sh_4, sh_5, sh_6, sh_7, sh_8, sh_9, sh_10, sh_11, sh_12, sh_13, sh_14, sh_15, sh_16, sh_17, sh_18, sh_19, sh_20, sh_21, sh_22, sh_23, sh_24, sh_25, sh_26, sh_27, sh_28, sh_29, sh_30, sh_31, sh_32, sh_33, sh_34, sh_35, sh_36, sh_37, sh_38, sh_39, sh_40, sh_41, sh_42, sh_43, sh_44, sh_45, sh_46, sh_47, sh_48, sh_49, sh_50, sh_51, sh_52, sh_53, sh_54, sh_55, sh_56, sh_57, sh_58, sh_59, sh_60, sh_61, sh_62, sh_63, sh_64, sh_65, sh_66, sh_67, sh_68, hl, hvw9, Nat.reduceLT, Nat.reduceAdd, Nat.reduceMul, ne_eq, Nat.reduceEqDiff, not_false_eq_true, or_true, true_or, or_false, false_or, and_true, true_and, and_self, Nat.reduceLeDiff, am_ci, am_cr, am_cn0, Option.toList_some, Option.toList_none, List.cons_append, List.nil_append, am_s0, am_s1, am_s1r, am_s2, am_s2r, am_s3r, nI_add, am_u_ne, am_u_at, am_u_n1, am_u_n2, am_w_ne, ↓reduceIte, e2, h1, e340, e341]
    refine c_votesOf hR hN hn ho HJ (by omega) h (fun J1 g1 => ?_)
    have e8 : J 8 c = I 8 c := hJ 8 c (by unfold plP skc; omega)
    obtain ⟨v1, v2⟩ := vtN_ok (σ := σ) (r := r) (seat := I 8) c
    rw [e8, v2]
    simp only [am_lv_of, Option.toList_some, List.cons_append, List.nil_append, rX5_poll_49, rX5_poll_50, rX5_poll_52, hl, hvw9, Nat.reduceLT, Nat.reduceAdd, Nat.reduceMul, ne_eq, Nat.reduceEqDiff, not_false_eq_true, or_true, true_or, or_false, false_or, and_true, true_and, and_self, Nat.reduceLeDiff, am_ci, am_cr, am_cn0, Option.toList_some, Option.toList_none, List.cons_append, List.nil_append, am_s0, am_s1, am_s1r, am_s2, am_s2r, am_s3r, nI_add, am_u_ne, am_u_at, am_u_n1, am_u_n2, am_w_ne, n3, n4]
    refine l_pollIn (w := Wy (vtN σ r (I 8)) c) hR hN hn v1 am_ci 7 J1 (by omega) am_ag.refl (fun j hj => ?_) (fun J2 g2 w2 => ?_)
    · rw [g1 56 j (by unfold skc; omega), hw j hj, if_neg (by omega)]
    · have b0 := w2 0 (by omega)
      rw [if_neg (by omega)] at b0
      have b3 : J2 55 3 = nI (10 ^ c) := by rw [g2 55 3 (by omega), g1 55 3 (by unfold skc; omega)]; exact ha
      have ev : nI 10 - nI (vtN σ r (I 8) c) = nI (10 - vtN σ r (I 8) c) := pk_sub v1
      have e10 : 10 ^ c * 10 = 10 ^ (c + 1) := by rw [Nat.pow_succ]
      simp only [am_lv_of, rX5_poll_96, rX5_poll_97, rX5_poll_100, rX5_poll_101, rX5_poll_102, rX5_poll_103, rX5_poll_105, rX5_poll_106, rX5_poll_107, rX5_poll_108, rX5_poll_109, rX5_poll_110, rX5_poll_111, rX5_poll_114, rX5_poll_116, rX5_poll_117, rX5_poll_120, rX5_poll_123, ro_0_0 hR, ro_0_3 hR, ro_0_4 hR, ro_0_5 hR, ro_0_6 hR, ro_0_7 hR, ro_0_8 hR, ro_0_9 hR, ro_0_10 hR, ro_0_11 hR, ro_2_6 hR, ro_2_7 hR, ro_2_8 hR, ro_2_9 hR, ro_2_10 hR, ro_2_11 hR, ro_2_12 hR, ro_2_13 hR, ro_9_0 hR, ro_9_1 hR, ro_9_2 hR, ro_14_0 hR, ro_14_1 hR, ro_14_2 hR, ro_14_7 hR, ro_15_0 hR, ro_15_1 hR, ro_15_2 hR, ro_15_3 hR, ro_20_6 hR, ro_20_7 hR, ro_20_8 hR, ro_20_9 hR, ro_20_10 hR, ro_20_11 hR, ro_20_12 hR, ro_20_13 hR, ro_27_0 hR, ro_27_1 hR, ro_27_2 hR, ro_32_0 hR, ro_32_1 hR, ro_34_10 hR, ro_34_11 hR, ro_34_12 hR, ro_34_13 hR, ro_39_0 hR, ro_39_1 hR, ro_42_0 hR, ro_42_1 hR, ro_47_0 hR, ro_47_1 hR, ro_47_2 hR, ro_47_3 hR, ro_55_0 hR, ro_55_1 hR, ro_55_2 hR, ro_57_0 hR, ro_57_1 hR, ro_57_2 hR, ro_57_3 hR, ro_57_4 hR, ro_57_5 hR, ro_57_8 hR, sh_0, sh_1, sh_2, sh_3, sh_4, sh_5, sh_6, sh_7, sh_8, sh_9, sh_10, sh_11, sh_12, sh_13, sh_14, sh_15, sh_16, sh_17, sh_18, sh_19, sh_20, sh_21, sh_22, sh_23, sh_24, sh_25, sh_26, sh_27, sh_28, sh_29, sh_30, sh_31, sh_32, sh_33, sh_34, sh_35, sh_36, sh_37, sh_38, sh_39, sh_40, sh_41, sh_42, sh_43, sh_44, sh_45, sh_46, sh_47, sh_48, sh_49, sh_50, sh_51, sh_52, sh_53, sh_54, sh_55, sh_56, sh_57, sh_58, sh_59, sh_60, sh_61, sh_62, sh_63, sh_64, sh_65, sh_66, sh_67, sh_68, hl, hvw9, Nat.reduceLT, Nat.reduceAdd, Nat.reduceMul, ne_eq, Nat.reduceEqDiff, not_false_eq_true, or_true, true_or, or_false, false_or, and_true, true_and, and_self, Nat.reduceLeDiff, am_ci, am_cr, am_cn0, Option.toList_some, Option.toList_none, List.cons_append, List.nil_append, am_s0, am_s1, am_s1r, am_s2, am_s2r, am_s3r, nI_add, am_u_ne, am_u_at, am_u_n1, am_u_n2, am_w_ne, hn, b0, b3, ev, pk_mul, e10]
      refine ih (c + 1) _ _ _ (by omega) ?_ (fun j hj => ?_) ?_ am_ci am_ci hQ
      · refine am_ag.u (am_ag.u ((hJ.trans (g1.mono (fun k j z => Or.inl z))).trans (g2.mono (fun k j z => Or.inr (Or.inl z)))) ?_) ?_
        · unfold plP; omega
        · unfold plP; omega
      · rw [am_u_n1 (by omega)]
        by_cases e : j = 0
        · subst e
          rw [am_u_at, Wy, if_neg (by omega), Nat.add_zero]
        · rw [am_u_n2 e, w2 j hj, if_pos (by omega)]
          rfl
      · rw [am_u_at]
theorem c_poll {wp : Nat} {r : Nat → Int32} (hR : am_OR R) (hN : 116 ≤ n) (hn : n ≤ 1000) (ho : ok_S σ) (H : cl_S I σ) (cw : I 34 0 = nI wp) (c16 : I 34 1 = r 16) (h : psr wp (p_P σ) r) (hQ : ∀ I', am_ag plP I I' → (∀ j, j < 8 → I' 56 j = nI (Wy (vtN σ r (I 8)) (p_C σ) j)) → I' 55 3 = nI (10 ^ p_C σ) → Q none (n, I', L, R)) : am_E X (d + 4) mX5_poll 0 [some (.ref 55), some (.ref 34), none, none, none] [] (n, I, L, R) Q := by
  have hl := am_lt hN
  have hvw9 := am_lw hN
  simp only [am_lv_of, rX5_poll_0, rX5_poll_1, rX5_poll_4, rX5_poll_5, ro_0_0 hR, ro_0_3 hR, ro_0_4 hR, ro_0_5 hR, ro_0_6 hR, ro_0_7 hR, ro_0_8 hR, ro_0_9 hR, ro_0_10 hR, ro_0_11 hR, ro_2_6 hR, ro_2_7 hR, ro_2_8 hR, ro_2_9 hR, ro_2_10 hR, ro_2_11 hR, ro_2_12 hR, ro_2_13 hR, ro_9_0 hR, ro_9_1 hR, ro_9_2 hR, ro_14_0 hR, ro_14_1 hR, ro_14_2 hR, ro_14_7 hR, ro_15_0 hR, ro_15_1 hR, ro_15_2 hR, ro_15_3 hR, ro_20_6 hR, ro_20_7 hR, ro_20_8 hR, ro_20_9 hR, ro_20_10 hR, ro_20_11 hR, ro_20_12 hR, ro_20_13 hR, ro_27_0 hR, ro_27_1 hR, ro_27_2 hR, ro_32_0 hR, ro_32_1 hR, ro_34_10 hR, ro_34_11 hR, ro_34_12 hR, ro_34_13 hR, ro_39_0 hR, ro_39_1 hR, ro_42_0 hR, ro_42_1 hR, ro_47_0 hR, ro_47_1 hR, ro_47_2 hR, ro_47_3 hR, ro_55_0 hR, ro_55_1 hR, ro_55_2 hR, ro_57_0 hR, ro_57_1 hR, ro_57_2 hR, ro_57_3 hR, ro_57_4 hR, ro_57_5 hR, ro_57_8 hR, sh_0, sh_1, sh_2, sh_3, sh_4, sh_5, sh_6, sh_7, sh_8, sh_9, sh_10, sh_11, sh_12, sh_13, sh_14, sh_15, sh_16, sh_17, sh_18, sh_19, sh_20, sh_21, sh_22, sh_23, sh_24, sh_25, sh_26, sh_27, sh_28, sh_29, sh_30, sh_31, sh_32, sh_33, sh_34, sh_35, sh_36, sh_37, sh_38, sh_39, sh_40, sh_41, sh_42, sh_43, sh_44, sh_45, sh_46, sh_47, sh_48, sh_49, sh_50, sh_51, sh_52, sh_53, sh_54, sh_55, sh_56, sh_57, sh_58, sh_59, sh_60, sh_61, sh_62, sh_63, sh_64, sh_65, sh_66, sh_67, sh_68, hl, hvw9, Nat.reduceLT, Nat.reduceAdd, Nat.reduceMul, ne_eq, Nat.reduceEqDiff, not_false_eq_true, or_true, true_or, or_false, false_or, and_true, true_and, and_self, Nat.reduceLeDiff, am_ci, am_cr, am_cn0, Option.toList_some, Option.toList_none, List.cons_append, List.nil_append, am_s0, am_s1, am_s1r, am_s2, am_s2r, am_s3r, nI_add, am_u_ne, am_u_at, am_u_n1, am_u_n2, am_w_ne]
  refine c_fill hn (hl 56 (by omega)) sh_56 (by omega) (fun I1 g1 e1 => ?_)
  simp only [am_lv_of, Option.toList_none, List.nil_append, rX5_poll_8, rX5_poll_9, rX5_poll_12, rX5_poll_13, rX5_poll_14, rX5_poll_15, rX5_poll_16, rX5_poll_17, rX5_poll_20, rX5_poll_21, ro_0_0 hR, ro_0_3 hR, ro_0_4 hR, ro_0_5 hR, ro_0_6 hR, ro_0_7 hR, ro_0_8 hR, ro_0_9 hR, ro_0_10 hR, ro_0_11 hR, ro_2_6 hR, ro_2_7 hR, ro_2_8 hR, ro_2_9 hR, ro_2_10 hR, ro_2_11 hR, ro_2_12 hR, ro_2_13 hR, ro_9_0 hR, ro_9_1 hR, ro_9_2 hR, ro_14_0 hR, ro_14_1 hR, ro_14_2 hR, ro_14_7 hR, ro_15_0 hR, ro_15_1 hR, ro_15_2 hR, ro_15_3 hR, ro_20_6 hR, ro_20_7 hR, ro_20_8 hR, ro_20_9 hR, ro_20_10 hR, ro_20_11 hR, ro_20_12 hR, ro_20_13 hR, ro_27_0 hR, ro_27_1 hR, ro_27_2 hR, ro_32_0 hR, ro_32_1 hR, ro_34_10 hR, ro_34_11 hR, ro_34_12 hR, ro_34_13 hR, ro_39_0 hR, ro_39_1 hR, ro_42_0 hR, ro_42_1 hR, ro_47_0 hR, ro_47_1 hR, ro_47_2 hR, ro_47_3 hR, ro_55_0 hR, ro_55_1 hR, ro_55_2 hR, ro_57_0 hR, ro_57_1 hR, ro_57_2 hR, ro_57_3 hR, ro_57_4 hR, ro_57_5 hR, ro_57_8 hR, sh_0, sh_1, sh_2, sh_3, sh_4, sh_5, sh_6, sh_7, sh_8, sh_9, sh_10, sh_11, sh_12, sh_13, sh_14, sh_15, sh_16, sh_17, sh_18, sh_19, sh_20, sh_21, sh_22, sh_23, sh_24, sh_25, sh_26, sh_27, sh_28, sh_29, sh_30, sh_31, sh_32, sh_33, sh_34, sh_35, sh_36, sh_37, sh_38, sh_39, sh_40, sh_41, sh_42, sh_43, sh_44, sh_45, sh_46, sh_47, sh_48, sh_49, sh_50, sh_51, sh_52, sh_53, sh_54, sh_55, sh_56, sh_57, sh_58, sh_59, sh_60, sh_61, sh_62, sh_63, sh_64, sh_65, sh_66, sh_67, sh_68, hl, hvw9, Nat.reduceLT, Nat.reduceAdd, Nat.reduceMul, ne_eq, Nat.reduceEqDiff, not_false_eq_true, or_true, true_or, or_false, false_or, and_true, true_and, and_self, Nat.reduceLeDiff, am_ci, am_cr, am_cn0, Option.toList_some, Option.toList_none, List.cons_append, List.nil_append, am_s0, am_s1, am_s1r, am_s2, am_s2r, am_s3r, nI_add, am_u_ne, am_u_at, am_u_n1, am_u_n2, am_w_ne, hn]
  have hag : am_ag plP I (am_u (am_u I1 56 0 (nI 1)) 55 3 (nI 1)) := am_ag.u (am_ag.u (g1.mono (fun k j z => Or.inr (Or.inl z))) (by unfold plP; omega)) (by unfold plP; omega)
  refine l_poll (l3 := none) (l4 := none) hR hN hn ho H cw c16 h (p_C σ) 0 _ _ _ (by omega) hag (fun j hj => ?_) am_u_at am_cn0 am_cn0 hQ
  rw [am_u_n1 (by omega), Wy]
  by_cases e : j = 0
  · rw [e, am_u_at, if_pos rfl]
  · rw [am_u_n2 e, if_neg e, e1 j hj]
theorem l_fvIn {w : Nat → Nat} {v : Nat} {l1 : Option Value} (hR : am_OR R) (hN : 116 ≤ n) (hn : n ≤ 1000) (hv : v ≤ 10) : ∀ (m : Nat) (J : Nat → Nat → Int32), m < 8 → am_ag (fun k _ => k = 109) I J → (∀ j, j < 8 → J 109 j = nI (if m < j then wNx w v j else w j)) → (∀ I' l3, am_ag (fun k _ => k = 109) I I' → (∀ j, j < 8 → I' 109 j = nI (wNx w v j)) → am_nl l3 → am_E X d mX13_fillsVotes 152 [some (.ref 69), l1, some (.int (nI v)), l3] [] (n, I', L, R) Q) → am_E X d mX13_fillsVotes 106 [some (.ref 69), l1, some (.int (nI v)), some (.int (nI m))] [] (n, J, L, R) Q := by
  have hl := am_lt hN
  have hvw9 := am_lw hN
  have ev : nI 10 - nI v = nI (10 - v) := pk_sub hv
  intro m
  induction m with
  | zero =>
    intro J hm hJ hc hQ
    have h1 : ¬ nI 0 < (0 : Int32) := by decide
    have h2 : nI 0 ≤ (0 : Int32) := by decide
    have h3 : nI 0 + -1 < (0 : Int32) := by decide
    have c1 : J 109 0 = nI (w 0) := by rw [hc 0 (by omega), if_neg (by omega)]
    rw [rX13_fillsVotes_106]
    simp only [am_lv_of, rX13_fillsVotes_107, rX13_fillsVotes_110, rX13_fillsVotes_111, rX13_fillsVotes_114, rX13_fillsVotes_115, rX13_fillsVotes_116, rX13_fillsVotes_119, rX13_fillsVotes_120, rX13_fillsVotes_121, rX13_fillsVotes_123, rX13_fillsVotes_124, rX13_fillsVotes_125, rX13_fillsVotes_126, rX13_fillsVotes_127, rX13_fillsVotes_130, rX13_fillsVotes_131, rX13_fillsVotes_134, rX13_fillsVotes_135, rX13_fillsVotes_136, rX13_fillsVotes_137, rX13_fillsVotes_138, rX13_fillsVotes_139, rX13_fillsVotes_140, rX13_fillsVotes_143, rX13_fillsVotes_144, rX13_fillsVotes_145, rX13_fillsVotes_146, rX13_fillsVotes_149, ro_69_1 hR, ro_69_3 hR, ro_69_5 hR, ro_69_6 hR, ro_69_7 hR, ro_69_8 hR, ro_69_9 hR, ro_69_21 hR, ro_69_22 hR, ro_69_23 hR, ro_69_24 hR, ro_69_25 hR, ro_69_26 hR, ro_69_27 hR, ro_69_28 hR, ro_69_29 hR, ro_69_30 hR, ro_69_31 hR, ro_69_32 hR, ro_69_33 hR, ro_69_34 hR, ro_69_35 hR, ro_69_36 hR, ro_69_38 hR, ro_69_39 hR, ro_69_40 hR, ro_69_41 hR, ro_69_42 hR, ro_69_44 hR, ro_69_45 hR, ro_69_46 hR, ro_69_48 hR, ro_69_49 hR, ro_69_51 hR, ro_69_52 hR, ro_69_55 hR, ro_69_56 hR, ro_69_57 hR, ro_69_58 hR, ro_69_59 hR, ro_69_61 hR, ro_69_62 hR, ro_69_63 hR, ro_69_64 hR, ro_69_65 hR, ro_69_66 hR, sh_69, sh_70, sh_71, sh_72, sh_73, sh_74, sh_75, sh_76, sh_77, sh_78, sh_79, sh_80, sh_81, sh_82, sh_83, sh_84, sh_85, sh_86, sh_87, sh_88, sh_89, sh_90, sh_91, sh_92, sh_93, sh_94, sh_95, sh_96, sh_97, sh_98, sh_99, sh_100, sh_101, sh_102, sh_103, sh_104, sh_105, sh_106, sh_107, sh_108, sh_109, sh_110, sh_111, sh_112, sh_113, sh_114, sh_115, hl, hvw9, Nat.reduceLT, Nat.reduceAdd, Nat.reduceMul, ne_eq, Nat.reduceEqDiff, not_false_eq_true, or_true, true_or, or_false, false_or, and_true, true_and, and_self, Nat.reduceLeDiff, am_ci, am_cr, am_cn0, Option.toList_some, Option.toList_none, List.cons_append, List.nil_append, am_s0, am_s1, am_s1r, am_s2, am_s2r, am_s3r, nI_add, am_u_ne, am_u_at, am_u_n1, am_u_n2, am_w_ne, ↓reduceIte, hn, h1, h2, c1, ev, pk_mul]
    rw [rX13_fillsVotes_106]
    simp only [am_lv_of, rX13_fillsVotes_107, ↓reduceIte, h3]
    refine hQ _ _ (hJ.u rfl) (fun j hj => ?_) am_ci
    by_cases e : j = 0
    · subst e
      rw [am_u_at]
      unfold wNx
      rw [if_neg (by omega)]
    · rw [am_u_n2 e, hc j hj, if_pos (by omega)]
  | succ m ih =>
    intro J hm hJ hc hQ
    have h1 : ¬ nI (m + 1) < (0 : Int32) := nI_pos (by omega)
    have h2 : ¬ nI (m + 1) ≤ (0 : Int32) := nI_nle (by omega) (by omega)
    have e1 : nI (m + 1) - nI 1 = nI m := by rw [pk_sub (by omega)]; rfl
    have i1 : m + 1 < 8 := hm
    have i2 : m < 8 := by omega
    have c1 : J 109 (m + 1) = nI (w (m + 1)) := by rw [hc _ i1, if_neg (by omega)]
    have c2 : J 109 m = nI (w m) := by rw [hc _ i2, if_neg (by omega)]
    rw [rX13_fillsVotes_106]
    simp only [am_lv_of, rX13_fillsVotes_107, rX13_fillsVotes_110, rX13_fillsVotes_111, rX13_fillsVotes_114, rX13_fillsVotes_115, rX13_fillsVotes_116, rX13_fillsVotes_119, rX13_fillsVotes_120, rX13_fillsVotes_121, rX13_fillsVotes_123, rX13_fillsVotes_124, rX13_fillsVotes_125, rX13_fillsVotes_126, rX13_fillsVotes_127, rX13_fillsVotes_130, rX13_fillsVotes_131, rX13_fillsVotes_134, rX13_fillsVotes_135, rX13_fillsVotes_136, rX13_fillsVotes_137, rX13_fillsVotes_138, rX13_fillsVotes_139, rX13_fillsVotes_140, rX13_fillsVotes_143, rX13_fillsVotes_144, rX13_fillsVotes_145, rX13_fillsVotes_146, rX13_fillsVotes_149, ro_69_1 hR, ro_69_3 hR, ro_69_5 hR, ro_69_6 hR, ro_69_7 hR, ro_69_8 hR, ro_69_9 hR, ro_69_21 hR, ro_69_22 hR, ro_69_23 hR, ro_69_24 hR, ro_69_25 hR, ro_69_26 hR, ro_69_27 hR, ro_69_28 hR, ro_69_29 hR, ro_69_30 hR, ro_69_31 hR, ro_69_32 hR, ro_69_33 hR, ro_69_34 hR, ro_69_35 hR, ro_69_36 hR, ro_69_38 hR, ro_69_39 hR, ro_69_40 hR, ro_69_41 hR, ro_69_42 hR, ro_69_44 hR, ro_69_45 hR, ro_69_46 hR, ro_69_48 hR, ro_69_49 hR, ro_69_51 hR, ro_69_52 hR, ro_69_55 hR, ro_69_56 hR, ro_69_57 hR, ro_69_58 hR, ro_69_59 hR, ro_69_61 hR, ro_69_62 hR, ro_69_63 hR, ro_69_64 hR, ro_69_65 hR, ro_69_66 hR, sh_69, sh_70, sh_71, sh_72, sh_73, sh_74, sh_75, sh_76, sh_77, sh_78, sh_79, sh_80, sh_81, sh_82, sh_83, sh_84, sh_85, sh_86, sh_87, sh_88, sh_89, sh_90, sh_91, sh_92, sh_93, sh_94, sh_95, sh_96, sh_97, sh_98, sh_99, sh_100, sh_101, sh_102, sh_103, sh_104, sh_105, sh_106, sh_107, sh_108, sh_109, sh_110, sh_111, sh_112, sh_113, sh_114, sh_115, hl, hvw9, Nat.reduceLT, Nat.reduceAdd, Nat.reduceMul, ne_eq, Nat.reduceEqDiff, not_false_eq_true, or_true, true_or, or_false, false_or, and_true, true_and, and_self, Nat.reduceLeDiff, am_ci, am_cr, am_cn0, Option.toList_some, Option.toList_none, List.cons_append, List.nil_append, am_s0, am_s1, am_s1r, am_s2, am_s2r, am_s3r, nI_add, am_u_ne, am_u_at, am_u_n1, am_u_n2, am_w_ne, ↓reduceIte, hn, h1, h2, e1, i1, i2, c1, c2, ev, pk_mul, pk_m1]
    refine ih _ (by omega) (hJ.u rfl) (fun j hj => ?_) hQ
    by_cases e : j = m + 1
    · subst e
      rw [am_u_at, if_pos (by omega)]
      unfold wNx
      rw [if_pos (by omega)]
      rfl
    · rw [am_u_n2 e, hc j hj]
      by_cases h : m + 1 < j
      · rw [if_pos h, if_pos (by omega)]
      · rw [if_neg h, if_neg (by omega)]
def fvP (k j : Nat) : Prop := sc1 k j ∨ k = 109
theorem rf_fv {J : Nat → Nat → Int32} (H : rf_S I σ) (g : am_ag fvP I J) : rf_S J σ := by
  obtain ⟨h1, h2, h3, h4, h5, h6, h7, h8, h9, h10⟩ := H
  have e : ∀ k j, k ≠ 101 → k ≠ 102 → k ≠ 109 → ¬ (k = 69 ∧ j = 50) → J k j = I k j := fun k j a1 a2 a3 a4 => g k j (by unfold fvP sc1; omega)
  refine ⟨by rw [e _ _ (by omega) (by omega) (by omega) (by omega)]; exact h1, h2, by rw [e _ _ (by omega) (by omega) (by omega) (by omega)]; exact h3, h4, by rw [e _ _ (by omega) (by omega) (by omega) (by omega)]; exact h5, h6, by rw [e _ _ (by omega) (by omega) (by omega) (by omega)]; exact h7, h8, fun s hs => ?_, fun k hk => (h10 k hk).mv (fun k j hk => e k j (by omega) (by omega) (by omega) (by omega))⟩
  rw [e 83 _ (by omega) (by omega) (by omega) (by omega), e 84 _ (by omega) (by omega) (by omega) (by omega), e 85 _ (by omega) (by omega) (by omega) (by omega), e 86 _ (by omega) (by omega) (by omega) (by omega)]
  exact h9 s hs
theorem l_fv {seat : Nat → Int32} (hR : am_OR R) (hN : 116 ≤ n) (hn : n ≤ 1000) (H : rf_S I σ) (hseat : ∀ c, c < p_C σ → I 88 (7 * p_lv σ + c) = seat c) : ∀ (m c : Nat) (J : Nat → Nat → Int32) (l2 l3 : Option Value), c + m = p_C σ → am_ag fvP I J → (∀ j, j < 8 → J 109 j = nI (Wy (vtN σ (I 104) seat) c j)) → am_nl l2 → am_nl l3 → (∀ I', am_ag fvP I I' → (∀ j, j < 8 → I' 109 j = nI (Wy (vtN σ (I 104) seat) (p_C σ) j)) → Q none (n, I', L, R)) → am_E X (d + 4) mX13_fillsVotes 35 [some (.ref 69), some (.int (nI c)), l2, l3] [] (n, J, L, R) Q := by
  have hl := am_lt hN
  have hvw9 := am_lw hN
  have C7 := H.2.2.2.2.2.2.2.1
  intro m
  induction m with
  | zero =>
    intro c J l2 l3 hc hJ hw n2 n3 hQ
    have hc : c = p_C σ := by omega
    subst hc
    have HJ := rf_fv H hJ
    have h1 : nI (p_C σ) ≤ nI (p_C σ) := nI_le (Nat.le_refl _) (by omega)
    simp only [am_lv_of, rX13_fillsVotes_35, rX13_fillsVotes_36, rX13_fillsVotes_37, rX13_fillsVotes_40, rX13_fillsVotes_41, rX13_fillsVotes_44, rX13_fillsVotes_45, rX13_fillsVotes_158, ro_69_1 hR, ro_69_3 hR, ro_69_5 hR, ro_69_6 hR, ro_69_7 hR, ro_69_8 hR, ro_69_9 hR, ro_69_21 hR, ro_69_22 hR, ro_69_23 hR, ro_69_24 hR, ro_69_25 hR, ro_69_26 hR, ro_69_27 hR, ro_69_28 hR, ro_69_29 hR, ro_69_30 hR, ro_69_31 hR, ro_69_32 hR, ro_69_33 hR, ro_69_34 hR, ro_69_35 hR, ro_69_36 hR, ro_69_38 hR, ro_69_39 hR, ro_69_40 hR, ro_69_41 hR, ro_69_42 hR, ro_69_44 hR, ro_69_45 hR, ro_69_46 hR, ro_69_48 hR, ro_69_49 hR, ro_69_51 hR, ro_69_52 hR, ro_69_55 hR, ro_69_56 hR, ro_69_57 hR, ro_69_58 hR, ro_69_59 hR, ro_69_61 hR, ro_69_62 hR, ro_69_63 hR, ro_69_64 hR, ro_69_65 hR, ro_69_66 hR, sh_69, sh_70, sh_71, sh_72, sh_73, sh_74, sh_75, sh_76, sh_77, sh_78, sh_79, sh_80, sh_81, sh_82, sh_83, sh_84, sh_85, sh_86, sh_87, sh_88, sh_89, sh_90, sh_91, sh_92, sh_93, sh_94, sh_95, sh_96, sh_97, sh_98, sh_99, sh_100, sh_101, sh_102, sh_103, sh_104, sh_105, sh_106, sh_107, sh_108, sh_109, sh_110, sh_111, sh_112, sh_113, sh_114, sh_115, hl, hvw9, Nat.reduceLT, Nat.reduceAdd, Nat.reduceMul, ne_eq, Nat.reduceEqDiff, not_false_eq_true, or_true, true_or, or_false, false_or, and_true, true_and, and_self, Nat.reduceLeDiff, am_ci, am_cr, am_cn0, Option.toList_some, Option.toList_none, List.cons_append, List.nil_append, am_s0, am_s1, am_s1r, am_s2, am_s2r, am_s3r, nI_add, am_u_ne, am_u_at, am_u_n1, am_u_n2, am_w_ne, ↓reduceIte, HJ.1, HJ.2.1, HJ.2.2.2.2.2.2.1, h1]
    exact hQ J hJ hw
  | succ m ih =>
    intro c J l2 l3 hc hJ hw n2 n3 hQ
    have HJ := rf_fv H hJ
    obtain ⟨f1, f2, f3, f4, f5, f6, f7, f8, -⟩ := id HJ
    have h1 : ¬ nI (p_C σ) ≤ nI c := nI_ge (by omega) (by omega)
    have i7 : 7 * p_lv σ + c < 14 := by omega
    rw [rX13_fillsVotes_35]
    simp only [am_lv_of, rX13_fillsVotes_36, rX13_fillsVotes_37, rX13_fillsVotes_40, rX13_fillsVotes_41, rX13_fillsVotes_44, rX13_fillsVotes_45, rX13_fillsVotes_48, rX13_fillsVotes_49, ro_69_1 hR, ro_69_3 hR, ro_69_5 hR, ro_69_6 hR, ro_69_7 hR, ro_69_8 hR, ro_69_9 hR, ro_69_21 hR, ro_69_22 hR, ro_69_23 hR, ro_69_24 hR, ro_69_25 hR, ro_69_26 hR, ro_69_27 hR, ro_69_28 hR, ro_69_29 hR, ro_69_30 hR, ro_69_31 hR, ro_69_32 hR, ro_69_33 hR, ro_69_34 hR, ro_69_35 hR, ro_69_36 hR, ro_69_38 hR, ro_69_39 hR, ro_69_40 hR, ro_69_41 hR, ro_69_42 hR, ro_69_44 hR, ro_69_45 hR, ro_69_46 hR, ro_69_48 hR, ro_69_49 hR, ro_69_51 hR, ro_69_52 hR, ro_69_55 hR, ro_69_56 hR, ro_69_57 hR, ro_69_58 hR, ro_69_59 hR, ro_69_61 hR, ro_69_62 hR, ro_69_63 hR, ro_69_64 hR, ro_69_65 hR, ro_69_66 hR, sh_69, sh_70, sh_71, sh_72, sh_73, sh_74, sh_75, sh_76, sh_77, sh_78, sh_79, sh_80, sh_81, sh_82, sh_83, sh_84, sh_85, sh_86, sh_87, sh_88, sh_89, sh_90, sh_91, sh_92, sh_93, sh_94, sh_95, sh_96, sh_97, sh_98, sh_99, sh_100, sh_101, sh_102, sh_103, sh_104, sh_105, sh_106, sh_107, sh_108, sh_109, sh_110, sh_111, sh_112, sh_113, sh_114, sh_115, hl, hvw9, Nat.reduceLT, Nat.reduceAdd, Nat.reduceMul, ne_eq, Nat.reduceEqDiff, not_false_eq_true, or_true, true_or, or_false, false_or, and_true, true_and, and_self, Nat.reduceLeDiff, am_ci, am_cr, am_cn0, Option.toList_some, Option.toList_none, List.cons_append, List.nil_append, am_s0, am_s1, am_s1r, am_s2, am_s2r, am_s3r, nI_add, am_u_ne, am_u_at, am_u_n1, am_u_n2, am_w_ne, ↓reduceIte, f1, f2, f7, h1]
    refine c_looks hR hN hn HJ (fun J1 g1 v1 => ?_)
    have e104 : J 104 = I 104 := funext fun j => hJ 104 j (by unfold fvP sc1; omega)
    have k1 : am_ag fvP I J1 := hJ.trans (g1.mono (fun k j z => Or.inl (Or.inl z)))
    have e18 : J1 69 18 = nI (p_lv σ) := (rf_fv H k1).1
    have e88 : J1 88 (7 * p_lv σ + c) = seat c := by rw [k1 88 _ (by unfold fvP sc1; omega)]; exact hseat c (by omega)
    simp only [am_lv_of, Option.toList_none, List.nil_append, rX13_fillsVotes_52, rX13_fillsVotes_53, rX13_fillsVotes_56, rX13_fillsVotes_58, rX13_fillsVotes_59, rX13_fillsVotes_62, rX13_fillsVotes_64, rX13_fillsVotes_65, rX13_fillsVotes_68, rX13_fillsVotes_69, rX13_fillsVotes_70, rX13_fillsVotes_71, rX13_fillsVotes_72, rX13_fillsVotes_73, rX13_fillsVotes_74, rX13_fillsVotes_77, rX13_fillsVotes_79, rX13_fillsVotes_80, rX13_fillsVotes_81, rX13_fillsVotes_82, rX13_fillsVotes_83, rX13_fillsVotes_84, ro_69_1 hR, ro_69_3 hR, ro_69_5 hR, ro_69_6 hR, ro_69_7 hR, ro_69_8 hR, ro_69_9 hR, ro_69_21 hR, ro_69_22 hR, ro_69_23 hR, ro_69_24 hR, ro_69_25 hR, ro_69_26 hR, ro_69_27 hR, ro_69_28 hR, ro_69_29 hR, ro_69_30 hR, ro_69_31 hR, ro_69_32 hR, ro_69_33 hR, ro_69_34 hR, ro_69_35 hR, ro_69_36 hR, ro_69_38 hR, ro_69_39 hR, ro_69_40 hR, ro_69_41 hR, ro_69_42 hR, ro_69_44 hR, ro_69_45 hR, ro_69_46 hR, ro_69_48 hR, ro_69_49 hR, ro_69_51 hR, ro_69_52 hR, ro_69_55 hR, ro_69_56 hR, ro_69_57 hR, ro_69_58 hR, ro_69_59 hR, ro_69_61 hR, ro_69_62 hR, ro_69_63 hR, ro_69_64 hR, ro_69_65 hR, ro_69_66 hR, sh_69, sh_70, sh_71, sh_72, sh_73, sh_74, sh_75, sh_76, sh_77, sh_78, sh_79, sh_80, sh_81, sh_82, sh_83, sh_84, sh_85, sh_86, sh_87, sh_88, sh_89, sh_90, sh_91, sh_92, sh_93, sh_94, sh_95, sh_96, sh_97, sh_98, sh_99, sh_100, sh_101, sh_102, sh_103, sh_104, sh_105, sh_106, sh_107, sh_108, sh_109, sh_110, sh_111, sh_112, sh_113, sh_114, sh_115, hl, hvw9, Nat.reduceLT, Nat.reduceAdd, Nat.reduceMul, ne_eq, Nat.reduceEqDiff, not_false_eq_true, or_true, true_or, or_false, false_or, and_true, true_and, and_self, Nat.reduceLeDiff, am_ci, am_cr, am_cn0, Option.toList_some, Option.toList_none, List.cons_append, List.nil_append, am_s0, am_s1, am_s1r, am_s2, am_s2r, am_s3r, nI_add, am_u_ne, am_u_at, am_u_n1, am_u_n2, am_w_ne, hn, e18, pk_mul, i7, e88]
    have k2 : am_ag fvP I (am_u (am_u J1 101 6 (seat c)) 101 7 (nI c)) := am_ag.u (am_ag.u k1 (Or.inl (Or.inl rfl))) (Or.inl (Or.inl rfl))
    have H2 := rf_fv H k2
    refine c_asks (k := 2) (lw := p_lw σ 2) (vars := vVot σ (I 104) (seat c) c) hR hN hn H2.1 H2.2.1 (by omega) (H2.2.2.2.2.2.2.2.2.2 2 (by omega)) (fun v hv => ?_) (fun J2 g2 => ?_)
    · unfold vVot
      by_cases e7 : v = 7
      · subst e7; rw [if_pos rfl, am_u_at]
      · rw [if_neg e7, am_u_n2 e7]
        by_cases e6 : v = 6
        · subst e6; rw [if_pos rfl, am_u_at]
        · rw [if_neg e6, am_u_n2 e6, v1 v hv, e104]
    · obtain ⟨u1, u2⟩ := vtN_ok (σ := σ) (r := I 104) (seat := seat) c
      have k3 : am_ag fvP I J2 := k2.trans (g2.mono (fun k j z => Or.inl (z.elim (fun z => Or.inr (Or.inl z)) (fun z => Or.inr (Or.inr z)))))
      have w3 : ∀ j, j < 8 → J2 109 j = nI (if 7 < j then wNx (Wy (vtN σ (I 104) seat) c) (vtN σ (I 104) seat c) j else Wy (vtN σ (I 104) seat) c j) := fun j hj => by
        rw [if_neg (by omega), g2 109 j (by unfold sc0; omega), am_u_n1 (by omega), am_u_n1 (by omega), g1 109 j (by omega)]
        exact hw j hj
      have fin : am_E X (d + 4) mX13_fillsVotes 103 [some (.ref 69), some (.int (nI c)), some (.int (nI (vtN σ (I 104) seat c))), l3] [] (n, J2, L, R) Q := by
        simp only [am_lv_of, rX13_fillsVotes_103, rX13_fillsVotes_105, hl, hvw9, Nat.reduceLT, Nat.reduceAdd, Nat.reduceMul, ne_eq, Nat.reduceEqDiff, not_false_eq_true, or_true, true_or, or_false, false_or, and_true, true_and, and_self, Nat.reduceLeDiff, am_ci, am_cr, am_cn0, Option.toList_some, Option.toList_none, List.cons_append, List.nil_append, am_s0, am_s1, am_s1r, am_s2, am_s2r, am_s3r, nI_add, am_u_ne, am_u_at, am_u_n1, am_u_n2, am_w_ne]
        refine l_fvIn (w := Wy (vtN σ (I 104) seat) c) hR hN hn u1 7 J2 (by omega) am_ag.refl w3 (fun J3 l3' g3 w4 n3' => ?_)
        simp only [am_lv_of, rX13_fillsVotes_152, rX13_fillsVotes_155, hl, hvw9, Nat.reduceLT, Nat.reduceAdd, Nat.reduceMul, ne_eq, Nat.reduceEqDiff, not_false_eq_true, or_true, true_or, or_false, false_or, and_true, true_and, and_self, Nat.reduceLeDiff, am_ci, am_cr, am_cn0, Option.toList_some, Option.toList_none, List.cons_append, List.nil_append, am_s0, am_s1, am_s1r, am_s2, am_s2r, am_s3r, nI_add, am_u_ne, am_u_at, am_u_n1, am_u_n2, am_w_ne]
        exact ih (c + 1) J3 _ _ (by omega) (k3.trans (g3.mono (fun k j z => Or.inr z))) w4 am_ci n3' hQ
      have u2' : cut10 (lawO (vVot σ (I 104) (seat c) c) (nI 5) (p_lw σ 2)) = nI (vtN σ (I 104) seat c) := u2
      generalize lawO (vVot σ (I 104) (seat c) c) (nI 5) (p_lw σ 2) = x at u2' ⊢
      unfold cut10 at u2'
      by_cases hx0 : x < 0
      · have hx1 : ¬ 0 ≤ x := Int32.not_le.mpr hx0
        have hx2 : nI 0 ≤ nI 10 := by decide
        rw [if_pos hx0] at u2'
        simp only [am_lv_of, Option.toList_some, List.cons_append, List.nil_append, rX13_fillsVotes_87, rX13_fillsVotes_88, rX13_fillsVotes_89, rX13_fillsVotes_92, rX13_fillsVotes_93, rX13_fillsVotes_94, rX13_fillsVotes_95, rX13_fillsVotes_97, rX13_fillsVotes_100, rX13_fillsVotes_102, hl, hvw9, Nat.reduceLT, Nat.reduceAdd, Nat.reduceMul, ne_eq, Nat.reduceEqDiff, not_false_eq_true, or_true, true_or, or_false, false_or, and_true, true_and, and_self, Nat.reduceLeDiff, am_ci, am_cr, am_cn0, Option.toList_some, Option.toList_none, List.cons_append, List.nil_append, am_s0, am_s1, am_s1r, am_s2, am_s2r, am_s3r, nI_add, am_u_ne, am_u_at, am_u_n1, am_u_n2, am_w_ne, ↓reduceIte, hx1, hx2, n2]
        rw [u2']
        exact fin
      · have hx1 : 0 ≤ x := Int32.not_lt.mp hx0
        rw [if_neg hx0] at u2'
        by_cases hx2 : nI 10 < x
        · have hx3 : ¬ x ≤ nI 10 := Int32.not_le.mpr hx2
          rw [if_pos hx2] at u2'
          simp only [am_lv_of, Option.toList_some, List.cons_append, List.nil_append, rX13_fillsVotes_87, rX13_fillsVotes_88, rX13_fillsVotes_89, rX13_fillsVotes_92, rX13_fillsVotes_93, rX13_fillsVotes_94, rX13_fillsVotes_95, rX13_fillsVotes_97, rX13_fillsVotes_100, rX13_fillsVotes_102, hl, hvw9, Nat.reduceLT, Nat.reduceAdd, Nat.reduceMul, ne_eq, Nat.reduceEqDiff, not_false_eq_true, or_true, true_or, or_false, false_or, and_true, true_and, and_self, Nat.reduceLeDiff, am_ci, am_cr, am_cn0, Option.toList_some, Option.toList_none, List.cons_append, List.nil_append, am_s0, am_s1, am_s1r, am_s2, am_s2r, am_s3r, nI_add, am_u_ne, am_u_at, am_u_n1, am_u_n2, am_w_ne, ↓reduceIte, hx1, hx3, n2]
          rw [u2']
          exact fin
        · have hx3 : x ≤ nI 10 := Int32.not_lt.mp hx2
          rw [if_neg hx2] at u2'
          simp only [am_lv_of, Option.toList_some, List.cons_append, List.nil_append, rX13_fillsVotes_87, rX13_fillsVotes_88, rX13_fillsVotes_89, rX13_fillsVotes_92, rX13_fillsVotes_93, rX13_fillsVotes_94, rX13_fillsVotes_95, rX13_fillsVotes_97, rX13_fillsVotes_100, rX13_fillsVotes_102, hl, hvw9, Nat.reduceLT, Nat.reduceAdd, Nat.reduceMul, ne_eq, Nat.reduceEqDiff, not_false_eq_true, or_true, true_or, or_false, false_or, and_true, true_and, and_self, Nat.reduceLeDiff, am_ci, am_cr, am_cn0, Option.toList_some, Option.toList_none, List.cons_append, List.nil_append, am_s0, am_s1, am_s1r, am_s2, am_s2r, am_s3r, nI_add, am_u_ne, am_u_at, am_u_n1, am_u_n2, am_w_ne, ↓reduceIte, hx1, hx3, n2]
          rw [u2']
          exact fin
theorem l_fv0 (hR : am_OR R) (hN : 116 ≤ n) (hn : n ≤ 1000) {l2 l3 : Option Value} : ∀ (m i : Nat) (J : Nat → Nat → Int32), i + m = 8 → am_ag (fun k _ => k = 109) I J → (∀ j, j < i → J 109 j = nI (if j = 0 then 1 else 0)) → (∀ I', am_ag (fun k _ => k = 109) I I' → (∀ j, j < 8 → I' 109 j = nI (if j = 0 then 1 else 0)) → am_E X d mX13_fillsVotes 33 [some (.ref 69), some (.int (nI 8)), l2, l3] [] (n, I', L, R) Q) → am_E X d mX13_fillsVotes 6 [some (.ref 69), some (.int (nI i)), l2, l3] [] (n, J, L, R) Q := by
  have hl := am_lt hN
  have hvw9 := am_lw hN
  intro m
  induction m with
  | zero =>
    intro i J hi hJ hc hQ
    have hi : i = 8 := by omega
    subst hi
    have h1 : nI 8 ≤ nI 8 := by decide
    simp only [am_lv_of, rX13_fillsVotes_6, rX13_fillsVotes_7, rX13_fillsVotes_9, ↓reduceIte, h1]
    exact hQ J hJ hc
  | succ m ih =>
    intro i J hi hJ hc hQ
    have h1 : ¬ nI 8 ≤ nI i := nI_ge (by omega) (by omega)
    have i1 : i < 8 := by omega
    rw [rX13_fillsVotes_6]
    by_cases e0 : i = 0
    · have z : (nI i = 0) = True := eq_true (by rw [e0]; rfl)
      simp only [am_lv_of, rX13_fillsVotes_7, rX13_fillsVotes_9, rX13_fillsVotes_12, rX13_fillsVotes_13, rX13_fillsVotes_16, rX13_fillsVotes_17, rX13_fillsVotes_18, rX13_fillsVotes_21, rX13_fillsVotes_22, rX13_fillsVotes_25, rX13_fillsVotes_26, rX13_fillsVotes_27, rX13_fillsVotes_30, ro_69_1 hR, ro_69_3 hR, ro_69_5 hR, ro_69_6 hR, ro_69_7 hR, ro_69_8 hR, ro_69_9 hR, ro_69_21 hR, ro_69_22 hR, ro_69_23 hR, ro_69_24 hR, ro_69_25 hR, ro_69_26 hR, ro_69_27 hR, ro_69_28 hR, ro_69_29 hR, ro_69_30 hR, ro_69_31 hR, ro_69_32 hR, ro_69_33 hR, ro_69_34 hR, ro_69_35 hR, ro_69_36 hR, ro_69_38 hR, ro_69_39 hR, ro_69_40 hR, ro_69_41 hR, ro_69_42 hR, ro_69_44 hR, ro_69_45 hR, ro_69_46 hR, ro_69_48 hR, ro_69_49 hR, ro_69_51 hR, ro_69_52 hR, ro_69_55 hR, ro_69_56 hR, ro_69_57 hR, ro_69_58 hR, ro_69_59 hR, ro_69_61 hR, ro_69_62 hR, ro_69_63 hR, ro_69_64 hR, ro_69_65 hR, ro_69_66 hR, sh_69, sh_70, sh_71, sh_72, sh_73, sh_74, sh_75, sh_76, sh_77, sh_78, sh_79, sh_80, sh_81, sh_82, sh_83, sh_84, sh_85, sh_86, sh_87, sh_88, sh_89, sh_90, sh_91, sh_92, sh_93, sh_94, sh_95, sh_96, sh_97, sh_98, sh_99, sh_100, sh_101, sh_102, sh_103, sh_104, sh_105, sh_106, sh_107, sh_108, sh_109, sh_110, sh_111, sh_112, sh_113, sh_114, sh_115, hl, hvw9, Nat.reduceLT, Nat.reduceAdd, Nat.reduceMul, ne_eq, Nat.reduceEqDiff, not_false_eq_true, or_true, true_or, or_false, false_or, and_true, true_and, and_self, Nat.reduceLeDiff, am_ci, am_cr, am_cn0, Option.toList_some, Option.toList_none, List.cons_append, List.nil_append, am_s0, am_s1, am_s1r, am_s2, am_s2r, am_s3r, nI_add, am_u_ne, am_u_at, am_u_n1, am_u_n2, am_w_ne, ↓reduceIte, hn, h1, i1, z, not_true_eq_false]
      refine ih (i + 1) _ (by omega) (hJ.u rfl) (fun j hj => ?_) hQ
      by_cases e : j = i
      · rw [e, am_u_at, if_pos e0]
      · rw [am_u_n2 e]; exact hc j (by omega)
    · have z : ¬ nI i = 0 := nI_ne0 (by omega) (by omega)
      simp only [am_lv_of, rX13_fillsVotes_7, rX13_fillsVotes_9, rX13_fillsVotes_12, rX13_fillsVotes_13, rX13_fillsVotes_16, rX13_fillsVotes_17, rX13_fillsVotes_18, rX13_fillsVotes_21, rX13_fillsVotes_22, rX13_fillsVotes_25, rX13_fillsVotes_26, rX13_fillsVotes_27, rX13_fillsVotes_30, ro_69_1 hR, ro_69_3 hR, ro_69_5 hR, ro_69_6 hR, ro_69_7 hR, ro_69_8 hR, ro_69_9 hR, ro_69_21 hR, ro_69_22 hR, ro_69_23 hR, ro_69_24 hR, ro_69_25 hR, ro_69_26 hR, ro_69_27 hR, ro_69_28 hR, ro_69_29 hR, ro_69_30 hR, ro_69_31 hR, ro_69_32 hR, ro_69_33 hR, ro_69_34 hR, ro_69_35 hR, ro_69_36 hR, ro_69_38 hR, ro_69_39 hR, ro_69_40 hR, ro_69_41 hR, ro_69_42 hR, ro_69_44 hR, ro_69_45 hR, ro_69_46 hR, ro_69_48 hR, ro_69_49 hR, ro_69_51 hR, ro_69_52 hR, ro_69_55 hR, ro_69_56 hR, ro_69_57 hR, ro_69_58 hR, ro_69_59 hR, ro_69_61 hR, ro_69_62 hR, ro_69_63 hR, ro_69_64 hR, ro_69_65 hR, ro_69_66 hR, sh_69, sh_70, sh_71, sh_72, sh_73, sh_74, sh_75, sh_76, sh_77, sh_78, sh_79, sh_80, sh_81, sh_82, sh_83, sh_84, sh_85, sh_86, sh_87, sh_88, sh_89, sh_90, sh_91, sh_92, sh_93, sh_94, sh_95, sh_96, sh_97, sh_98, sh_99, sh_100, sh_101, sh_102, sh_103, sh_104, sh_105, sh_106, sh_107, sh_108, sh_109, sh_110, sh_111, sh_112, sh_113, sh_114, sh_115, hl, hvw9, Nat.reduceLT, Nat.reduceAdd, Nat.reduceMul, ne_eq, Nat.reduceEqDiff, not_false_eq_true, or_true, true_or, or_false, false_or, and_true, true_and, and_self, Nat.reduceLeDiff, am_ci, am_cr, am_cn0, Option.toList_some, Option.toList_none, List.cons_append, List.nil_append, am_s0, am_s1, am_s1r, am_s2, am_s2r, am_s3r, nI_add, am_u_ne, am_u_at, am_u_n1, am_u_n2, am_w_ne, ↓reduceIte, hn, h1, i1, z, not_false_eq_true]
      refine ih (i + 1) _ (by omega) (hJ.u rfl) (fun j hj => ?_) hQ
      by_cases e : j = i
      · rw [e, am_u_at, if_neg e0]
      · rw [am_u_n2 e]; exact hc j (by omega)
theorem Wy_c {vt vt' : Nat → Nat} {N : Nat} (h : ∀ c, c < N → vt c = vt' c) : ∀ c, c ≤ N → ∀ m, Wy vt c m = Wy vt' c m := by
  intro c
  induction c with
  | zero => intro _ m; rfl
  | succ c ih => intro hc m; rw [Wy, Wy, ih (by omega), ih (by omega), h c (by omega)]
theorem vtN_c {r r' : Nat → Int32} {seat seat' : Nat → Int32} {c : Nat} (ho : ok_S σ) (g : ∀ j, j < 17 → r' j = r j) (hs : seat' c = seat c) : vtN σ r' seat' c = vtN σ r seat c := by
  have e : vVot σ r' (seat' c) c = vVot σ r (seat c) c := funext fun j => by
    unfold vVot
    rw [hs, rV_16 (j := j) g ho.1]
  unfold vtN rVot
  rw [e]
/-- both polls, one behind the other -/
theorem c_fv (ho : ok_S σ) (hR : am_OR R) (hN : 116 ≤ n) (hn : n ≤ 1000) (H : rf_S I σ) {seat : Nat → Int32} (hseat : ∀ c, c < p_C σ → I 88 (7 * p_lv σ + c) = seat c) (hQ : ∀ I', am_ag (fun k j => sc2 k j ∨ k = 109) I I' → (∀ j, j < 8 → I' 109 j = nI (Wy (vtN σ (I 103) seat) (p_C σ) j)) → Q none (n, I', L, R)) : am_E X (d + 4) mX13_fillsVotes 0 [some (.ref 69), none, none, none] [] (n, I, L, R) Q := by
  have hl := am_lt hN
  have hvw9 := am_lw hN
  simp only [am_lv_of, rX13_fillsVotes_0, rX13_fillsVotes_1, sh_69, hl, hvw9, Nat.reduceLT, Nat.reduceAdd, Nat.reduceMul, ne_eq, Nat.reduceEqDiff, not_false_eq_true, or_true, true_or, or_false, false_or, and_true, true_and, and_self, Nat.reduceLeDiff, am_ci, am_cr, am_cn0, Option.toList_some, Option.toList_none, List.cons_append, List.nil_append, am_s0, am_s1, am_s1r, am_s2, am_s2r, am_s3r, nI_add, am_u_ne, am_u_at, am_u_n1, am_u_n2, am_w_ne]
  refine c_copies hR hN hn H (fun I1 g1 e1 _ => ?_)
  have s1 : am_ag sc2 I I1 := g1.mono (fun k j z => by unfold sc2; omega)
  have H1 := H.ag s1
  simp only [am_lv_of, Option.toList_none, List.nil_append, rX13_fillsVotes_4, rX13_fillsVotes_5, hl, hvw9, Nat.reduceLT, Nat.reduceAdd, Nat.reduceMul, ne_eq, Nat.reduceEqDiff, not_false_eq_true, or_true, true_or, or_false, false_or, and_true, true_and, and_self, Nat.reduceLeDiff, am_ci, am_cr, am_cn0, Option.toList_some, Option.toList_none, List.cons_append, List.nil_append, am_s0, am_s1, am_s1r, am_s2, am_s2r, am_s3r, nI_add, am_u_ne, am_u_at, am_u_n1, am_u_n2, am_w_ne]
  refine l_fv0 hR hN hn 8 0 I1 (by omega) am_ag.refl (fun j hj => absurd hj (Nat.not_lt_zero _)) (fun I2 g2 e2 => ?_)
  have k2 : am_ag fvP I1 I2 := g2.mono (fun k j z => Or.inr z)
  have H2 := rf_fv H1 k2
  have e104 : I2 104 = I1 104 := funext fun j => g2 104 j (by omega)
  simp only [am_lv_of, rX13_fillsVotes_33, rX13_fillsVotes_34, hl, hvw9, Nat.reduceLT, Nat.reduceAdd, Nat.reduceMul, ne_eq, Nat.reduceEqDiff, not_false_eq_true, or_true, true_or, or_false, false_or, and_true, true_and, and_self, Nat.reduceLeDiff, am_ci, am_cr, am_cn0, Option.toList_some, Option.toList_none, List.cons_append, List.nil_append, am_s0, am_s1, am_s1r, am_s2, am_s2r, am_s3r, nI_add, am_u_ne, am_u_at, am_u_n1, am_u_n2, am_w_ne]
  refine l_fv (seat := seat) hR hN hn H2 (fun c hc => ?_) (p_C σ) 0 I2 none none (by omega) am_ag.refl (fun j hj => ?_) am_cn0 am_cn0 (fun I3 g3 w3 => hQ I3 (fun k j hk => ?_) (fun j hj => ?_))
  · rw [g2 88 _ (by omega), s1 88 _ (by unfold sc2 sc1; omega)]; exact hseat c hc
  · rw [e2 j hj, Wy]
  · have hk' : ¬ sc2 k j ∧ k ≠ 109 := ⟨fun z => hk (Or.inl z), fun z => hk (Or.inr z)⟩
    rw [g3 k j (fun z => z.elim (fun z => hk'.1 (Or.inl z)) hk'.2), g2 k j hk'.2, s1 k j hk'.1]
  · rw [w3 j hj, e104, Wy_c (N := p_C σ) (fun c hc => vtN_c ho (fun j hj => e1 j (by omega)) rfl) (p_C σ) (Nat.le_refl _)]
theorem l_wom {w : Nat → Nat} (hR : am_OR R) (hN : 116 ≤ n) (hw : ∀ j, j < 8 → I 56 j = nI (w j)) : ∀ (m i s : Nat), i + m = 8 → (am_E X (d + 1) mX5_waysOfMost 14 [some (.ref 55), some (.int (nI s)), some (.int (nI i))] [] (n, I, L, R) Q ↔ Q (some (.int (nI (s + smF w i m)))) (n, I, L, R)) := by
  have hl := am_lt hN
  have hvw9 := am_lw hN
  intro m
  induction m with
  | zero =>
    intro i s hi
    have hi : i = 8 := by omega
    subst hi
    have h1 : nI 8 ≤ nI 8 := by decide
    simp only [am_lv_of, rX5_waysOfMost_14, rX5_waysOfMost_15, rX5_waysOfMost_16, rX5_waysOfMost_19, rX5_waysOfMost_20, rX5_waysOfMost_37, rX5_waysOfMost_38, ro_0_0 hR, ro_0_3 hR, ro_0_4 hR, ro_0_5 hR, ro_0_6 hR, ro_0_7 hR, ro_0_8 hR, ro_0_9 hR, ro_0_10 hR, ro_0_11 hR, ro_2_6 hR, ro_2_7 hR, ro_2_8 hR, ro_2_9 hR, ro_2_10 hR, ro_2_11 hR, ro_2_12 hR, ro_2_13 hR, ro_9_0 hR, ro_9_1 hR, ro_9_2 hR, ro_14_0 hR, ro_14_1 hR, ro_14_2 hR, ro_14_7 hR, ro_15_0 hR, ro_15_1 hR, ro_15_2 hR, ro_15_3 hR, ro_20_6 hR, ro_20_7 hR, ro_20_8 hR, ro_20_9 hR, ro_20_10 hR, ro_20_11 hR, ro_20_12 hR, ro_20_13 hR, ro_27_0 hR, ro_27_1 hR, ro_27_2 hR, ro_32_0 hR, ro_32_1 hR, ro_34_10 hR, ro_34_11 hR, ro_34_12 hR, ro_34_13 hR, ro_39_0 hR, ro_39_1 hR, ro_42_0 hR, ro_42_1 hR, ro_47_0 hR, ro_47_1 hR, ro_47_2 hR, ro_47_3 hR, ro_55_0 hR, ro_55_1 hR, ro_55_2 hR, ro_57_0 hR, ro_57_1 hR, ro_57_2 hR, ro_57_3 hR, ro_57_4 hR, ro_57_5 hR, ro_57_8 hR, sh_0, sh_1, sh_2, sh_3, sh_4, sh_5, sh_6, sh_7, sh_8, sh_9, sh_10, sh_11, sh_12, sh_13, sh_14, sh_15, sh_16, sh_17, sh_18, sh_19, sh_20, sh_21, sh_22, sh_23, sh_24, sh_25, sh_26, sh_27, sh_28, sh_29, sh_30, sh_31, sh_32, sh_33, sh_34, sh_35, sh_36, sh_37, sh_38, sh_39, sh_40, sh_41, sh_42, sh_43, sh_44, sh_45, sh_46, sh_47, sh_48, sh_49, sh_50, sh_51, sh_52, sh_53, sh_54, sh_55, sh_56, sh_57, sh_58, sh_59, sh_60, sh_61, sh_62, sh_63, sh_64, sh_65, sh_66, sh_67, sh_68, hl, hvw9, Nat.reduceLT, Nat.reduceAdd, Nat.reduceMul, ne_eq, Nat.reduceEqDiff, not_false_eq_true, or_true, true_or, or_false, false_or, and_true, true_and, and_self, Nat.reduceLeDiff, am_ci, am_cr, am_cn0, Option.toList_some, Option.toList_none, List.cons_append, List.nil_append, am_s0, am_s1, am_s1r, am_s2, am_s2r, am_s3r, nI_add, am_u_ne, am_u_at, am_u_n1, am_u_n2, am_w_ne, ↓reduceIte, h1, smF, Nat.add_zero]
  | succ m ih =>
    intro i s hi
    have h1 : ¬ nI 8 ≤ nI i := nI_ge (by omega) (by omega)
    have h2 : ¬ nI i < 0 := nI_pos (by omega)
    have i1 : i < 8 := by omega
    rw [rX5_waysOfMost_14]
    simp only [am_lv_of, rX5_waysOfMost_15, rX5_waysOfMost_16, rX5_waysOfMost_19, rX5_waysOfMost_20, rX5_waysOfMost_23, rX5_waysOfMost_24, rX5_waysOfMost_25, rX5_waysOfMost_26, rX5_waysOfMost_29, rX5_waysOfMost_30, rX5_waysOfMost_31, rX5_waysOfMost_34, rX5_waysOf_0, rX5_waysOf_1, rX5_waysOf_4, rX5_waysOf_5, rX5_waysOf_6, rX5_waysOf_9, rX5_waysOf_10, rX5_waysOf_13, rX5_waysOf_14, rX5_waysOf_17, rX5_waysOf_18, rX5_waysOf_19, rX5_waysOf_22, rX5_waysOf_23, ro_0_0 hR, ro_0_3 hR, ro_0_4 hR, ro_0_5 hR, ro_0_6 hR, ro_0_7 hR, ro_0_8 hR, ro_0_9 hR, ro_0_10 hR, ro_0_11 hR, ro_2_6 hR, ro_2_7 hR, ro_2_8 hR, ro_2_9 hR, ro_2_10 hR, ro_2_11 hR, ro_2_12 hR, ro_2_13 hR, ro_9_0 hR, ro_9_1 hR, ro_9_2 hR, ro_14_0 hR, ro_14_1 hR, ro_14_2 hR, ro_14_7 hR, ro_15_0 hR, ro_15_1 hR, ro_15_2 hR, ro_15_3 hR, ro_20_6 hR, ro_20_7 hR, ro_20_8 hR, ro_20_9 hR, ro_20_10 hR, ro_20_11 hR, ro_20_12 hR, ro_20_13 hR, ro_27_0 hR, ro_27_1 hR, ro_27_2 hR, ro_32_0 hR, ro_32_1 hR, ro_34_10 hR, ro_34_11 hR, ro_34_12 hR, ro_34_13 hR, ro_39_0 hR, ro_39_1 hR, ro_42_0 hR, ro_42_1 hR, ro_47_0 hR, ro_47_1 hR, ro_47_2 hR, ro_47_3 hR, ro_55_0 hR, ro_55_1 hR, ro_55_2 hR, ro_57_0 hR, ro_57_1 hR, ro_57_2 hR, ro_57_3 hR, ro_57_4 hR, ro_57_5 hR, ro_57_8 hR, sh_0, sh_1, sh_2, sh_3, sh_4, sh_5, sh_6, sh_7, sh_8, sh_9, sh_10, sh_11, sh_12, sh_13, sh_14, sh_15, sh_16, sh_17, sh_18, sh_19, sh_20, sh_21, sh_22, sh_23, sh_24, sh_25, sh_26, sh_27, sh_28, sh_29, sh_30, sh_31, sh_32, sh_33, sh_34, sh_35, sh_36, sh_37, sh_38, sh_39, sh_40, sh_41, sh_42, sh_43, sh_44, sh_45, sh_46, sh_47, sh_48, sh_49, sh_50, sh_51, sh_52, sh_53, sh_54, sh_55, sh_56, sh_57, sh_58, sh_59, sh_60, sh_61, sh_62, sh_63, sh_64, sh_65, sh_66, sh_67, sh_68, hl, hvw9, Nat.reduceLT, Nat.reduceAdd, Nat.reduceMul, ne_eq, Nat.reduceEqDiff, not_false_eq_true, or_true, true_or, or_false, false_or, and_true, true_and, and_self, Nat.reduceLeDiff, am_ci, am_cr, am_cn0, Option.toList_some, Option.toList_none, List.cons_append, List.nil_append, am_s0, am_s1, am_s1r, am_s2, am_s2r, am_s3r, nI_add, am_u_ne, am_u_at, am_u_n1, am_u_n2, am_w_ne, ↓reduceIte, h1, h2, i1, hw i i1]
    rw [ih (i + 1) (s + w i) (by omega), smF, Nat.add_assoc]
theorem l_halfR {w : Nat → Nat} {C : Nat} {l1 : Option Value} (hR : am_OR R) (hN : 116 ≤ n) (H : rf_S I σ) (hC : p_C σ = C) (n1 : am_nl l1) (hw : ∀ j, j < 8 → I 109 j = nI (w j)) : ∀ (m i s : Nat), i + m = C + 1 → (am_E X d mX13_half 8 [some (.ref 69), l1, some (.int (nI s)), some (.int (nI i))] [] (n, I, L, R) Q ↔ am_E X d mX13_half 51 [some (.ref 69), l1, some (.int (nI (s + smF (fun m => if C < 2 * m then w m else 0) i m))), some (.int (nI (C + 1)))] [] (n, I, L, R) Q) := by
  have hl := am_lt hN
  have hvw9 := am_lw hN
  obtain ⟨f1, f2, f3, f4, f5, f6, f7, f8, -⟩ := id H
  rw [hC] at f7 f8
  intro m
  induction m with
  | zero =>
    intro i s hi
    have hi : i = C + 1 := by omega
    subst hi
    have h1 : nI C < nI (C + 1) := nI_lt (by omega) (by omega)
    simp only [am_lv_of, rX13_half_8, rX13_half_9, rX13_half_10, rX13_half_13, rX13_half_14, rX13_half_17, rX13_half_18, ro_69_1 hR, ro_69_3 hR, ro_69_5 hR, ro_69_6 hR, ro_69_7 hR, ro_69_8 hR, ro_69_9 hR, ro_69_21 hR, ro_69_22 hR, ro_69_23 hR, ro_69_24 hR, ro_69_25 hR, ro_69_26 hR, ro_69_27 hR, ro_69_28 hR, ro_69_29 hR, ro_69_30 hR, ro_69_31 hR, ro_69_32 hR, ro_69_33 hR, ro_69_34 hR, ro_69_35 hR, ro_69_36 hR, ro_69_38 hR, ro_69_39 hR, ro_69_40 hR, ro_69_41 hR, ro_69_42 hR, ro_69_44 hR, ro_69_45 hR, ro_69_46 hR, ro_69_48 hR, ro_69_49 hR, ro_69_51 hR, ro_69_52 hR, ro_69_55 hR, ro_69_56 hR, ro_69_57 hR, ro_69_58 hR, ro_69_59 hR, ro_69_61 hR, ro_69_62 hR, ro_69_63 hR, ro_69_64 hR, ro_69_65 hR, ro_69_66 hR, sh_69, sh_70, sh_71, sh_72, sh_73, sh_74, sh_75, sh_76, sh_77, sh_78, sh_79, sh_80, sh_81, sh_82, sh_83, sh_84, sh_85, sh_86, sh_87, sh_88, sh_89, sh_90, sh_91, sh_92, sh_93, sh_94, sh_95, sh_96, sh_97, sh_98, sh_99, sh_100, sh_101, sh_102, sh_103, sh_104, sh_105, sh_106, sh_107, sh_108, sh_109, sh_110, sh_111, sh_112, sh_113, sh_114, sh_115, hl, hvw9, Nat.reduceLT, Nat.reduceAdd, Nat.reduceMul, ne_eq, Nat.reduceEqDiff, not_false_eq_true, or_true, true_or, or_false, false_or, and_true, true_and, and_self, Nat.reduceLeDiff, am_ci, am_cr, am_cn0, Option.toList_some, Option.toList_none, List.cons_append, List.nil_append, am_s0, am_s1, am_s1r, am_s2, am_s2r, am_s3r, nI_add, am_u_ne, am_u_at, am_u_n1, am_u_n2, am_w_ne, ↓reduceIte, f1, f2, f7, h1, smF, Nat.add_zero]
  | succ m ih =>
    intro i s hi
    have h1 : ¬ nI C < nI i := nI_nlt (by omega) (by omega)
    have i1 : i < 8 := by omega
    rw [rX13_half_8]
    by_cases hc : C < 2 * i
    · have h2 : ¬ nI (2 * i) ≤ nI C := nI_ge hc (by omega)
      simp only [am_lv_of, rX13_half_9, rX13_half_10, rX13_half_13, rX13_half_14, rX13_half_17, rX13_half_18, rX13_half_21, rX13_half_22, rX13_half_23, rX13_half_24, rX13_half_25, rX13_half_28, rX13_half_29, rX13_half_32, rX13_half_33, rX13_half_36, rX13_half_37, rX13_half_38, rX13_half_41, rX13_half_42, rX13_half_43, rX13_half_44, rX13_half_45, rX13_half_48, ro_69_1 hR, ro_69_3 hR, ro_69_5 hR, ro_69_6 hR, ro_69_7 hR, ro_69_8 hR, ro_69_9 hR, ro_69_21 hR, ro_69_22 hR, ro_69_23 hR, ro_69_24 hR, ro_69_25 hR, ro_69_26 hR, ro_69_27 hR, ro_69_28 hR, ro_69_29 hR, ro_69_30 hR, ro_69_31 hR, ro_69_32 hR, ro_69_33 hR, ro_69_34 hR, ro_69_35 hR, ro_69_36 hR, ro_69_38 hR, ro_69_39 hR, ro_69_40 hR, ro_69_41 hR, ro_69_42 hR, ro_69_44 hR, ro_69_45 hR, ro_69_46 hR, ro_69_48 hR, ro_69_49 hR, ro_69_51 hR, ro_69_52 hR, ro_69_55 hR, ro_69_56 hR, ro_69_57 hR, ro_69_58 hR, ro_69_59 hR, ro_69_61 hR, ro_69_62 hR, ro_69_63 hR, ro_69_64 hR, ro_69_65 hR, ro_69_66 hR, sh_69, sh_70, sh_71, sh_72, sh_73, sh_74, sh_75, sh_76, sh_77, sh_78, sh_79, sh_80, sh_81, sh_82, sh_83, sh_84, sh_85, sh_86, sh_87, sh_88, sh_89, sh_90, sh_91, sh_92, sh_93, sh_94, sh_95, sh_96, sh_97, sh_98, sh_99, sh_100, sh_101, sh_102, sh_103, sh_104, sh_105, sh_106, sh_107, sh_108, sh_109, sh_110, sh_111, sh_112, sh_113, sh_114, sh_115, hl, hvw9, Nat.reduceLT, Nat.reduceAdd, Nat.reduceMul, ne_eq, Nat.reduceEqDiff, not_false_eq_true, or_true, true_or, or_false, false_or, and_true, true_and, and_self, Nat.reduceLeDiff, am_ci, am_cr, am_cn0, Option.toList_some, Option.toList_none, List.cons_append, List.nil_append, am_s0, am_s1, am_s1r, am_s2, am_s2r, am_s3r, nI_add, am_u_ne, am_u_at, am_u_n1, am_u_n2, am_w_ne, ↓reduceIte, f1, f2, f7, h1, pk_mul, h2, i1, hw i i1, n1]
      rw [ih (i + 1) (s + w i) (by omega), smF, if_pos hc, Nat.add_assoc]
    · have h2 : nI (2 * i) ≤ nI C := nI_le (by omega) (by omega)
      simp only [am_lv_of, rX13_half_9, rX13_half_10, rX13_half_13, rX13_half_14, rX13_half_17, rX13_half_18, rX13_half_21, rX13_half_22, rX13_half_23, rX13_half_24, rX13_half_25, rX13_half_28, rX13_half_29, rX13_half_32, rX13_half_33, rX13_half_36, rX13_half_37, rX13_half_38, rX13_half_41, rX13_half_42, rX13_half_43, rX13_half_44, rX13_half_45, rX13_half_48, ro_69_1 hR, ro_69_3 hR, ro_69_5 hR, ro_69_6 hR, ro_69_7 hR, ro_69_8 hR, ro_69_9 hR, ro_69_21 hR, ro_69_22 hR, ro_69_23 hR, ro_69_24 hR, ro_69_25 hR, ro_69_26 hR, ro_69_27 hR, ro_69_28 hR, ro_69_29 hR, ro_69_30 hR, ro_69_31 hR, ro_69_32 hR, ro_69_33 hR, ro_69_34 hR, ro_69_35 hR, ro_69_36 hR, ro_69_38 hR, ro_69_39 hR, ro_69_40 hR, ro_69_41 hR, ro_69_42 hR, ro_69_44 hR, ro_69_45 hR, ro_69_46 hR, ro_69_48 hR, ro_69_49 hR, ro_69_51 hR, ro_69_52 hR, ro_69_55 hR, ro_69_56 hR, ro_69_57 hR, ro_69_58 hR, ro_69_59 hR, ro_69_61 hR, ro_69_62 hR, ro_69_63 hR, ro_69_64 hR, ro_69_65 hR, ro_69_66 hR, sh_69, sh_70, sh_71, sh_72, sh_73, sh_74, sh_75, sh_76, sh_77, sh_78, sh_79, sh_80, sh_81, sh_82, sh_83, sh_84, sh_85, sh_86, sh_87, sh_88, sh_89, sh_90, sh_91, sh_92, sh_93, sh_94, sh_95, sh_96, sh_97, sh_98, sh_99, sh_100, sh_101, sh_102, sh_103, sh_104, sh_105, sh_106, sh_107, sh_108, sh_109, sh_110, sh_111, sh_112, sh_113, sh_114, sh_115, hl, hvw9, Nat.reduceLT, Nat.reduceAdd, Nat.reduceMul, ne_eq, Nat.reduceEqDiff, not_false_eq_true, or_true, true_or, or_false, false_or, and_true, true_and, and_self, Nat.reduceLeDiff, am_ci, am_cr, am_cn0, Option.toList_some, Option.toList_none, List.cons_append, List.nil_append, am_s0, am_s1, am_s1r, am_s2, am_s2r, am_s3r, nI_add, am_u_ne, am_u_at, am_u_n1, am_u_n2, am_w_ne, ↓reduceIte, f1, f2, f7, h1, pk_mul, h2]
      rw [ih (i + 1) s (by omega), smF, if_neg hc, Nat.zero_add]
theorem l_lkC {w : Nat → Nat} (hR : am_OR R) (hN : 116 ≤ n) (hw : ∀ j, j < 8 → I 56 j = nI (w j)) (hb31 : ∀ j, w j < 2 ^ 31) : ∀ (m i b : Nat), i + m = 8 → b < 8 → (am_E X d mX5_likeliest 4 [some (.ref 55), some (.int (nI b)), some (.int (nI i))] [] (n, I, L, R) Q ↔ Q (some (.int (nI (lkF w i m b)))) (n, I, L, R)) := by
  have hl := am_lt hN
  have hvw9 := am_lw hN
  intro m
  induction m with
  | zero =>
    intro i b hi hb
    have hi : i = 8 := by omega
    subst hi
    have h1 : nI 8 ≤ nI 8 := by decide
    simp only [am_lv_of, rX5_likeliest_4, rX5_likeliest_5, rX5_likeliest_6, rX5_likeliest_9, rX5_likeliest_10, rX5_likeliest_36, rX5_likeliest_37, ro_0_0 hR, ro_0_3 hR, ro_0_4 hR, ro_0_5 hR, ro_0_6 hR, ro_0_7 hR, ro_0_8 hR, ro_0_9 hR, ro_0_10 hR, ro_0_11 hR, ro_2_6 hR, ro_2_7 hR, ro_2_8 hR, ro_2_9 hR, ro_2_10 hR, ro_2_11 hR, ro_2_12 hR, ro_2_13 hR, ro_9_0 hR, ro_9_1 hR, ro_9_2 hR, ro_14_0 hR, ro_14_1 hR, ro_14_2 hR, ro_14_7 hR, ro_15_0 hR, ro_15_1 hR, ro_15_2 hR, ro_15_3 hR, ro_20_6 hR, ro_20_7 hR, ro_20_8 hR, ro_20_9 hR, ro_20_10 hR, ro_20_11 hR, ro_20_12 hR, ro_20_13 hR, ro_27_0 hR, ro_27_1 hR, ro_27_2 hR, ro_32_0 hR, ro_32_1 hR, ro_34_10 hR, ro_34_11 hR, ro_34_12 hR, ro_34_13 hR, ro_39_0 hR, ro_39_1 hR, ro_42_0 hR, ro_42_1 hR, ro_47_0 hR, ro_47_1 hR, ro_47_2 hR, ro_47_3 hR, ro_55_0 hR, ro_55_1 hR, ro_55_2 hR, ro_57_0 hR, ro_57_1 hR, ro_57_2 hR, ro_57_3 hR, ro_57_4 hR, ro_57_5 hR, ro_57_8 hR, sh_0, sh_1, sh_2, sh_3, sh_4, sh_5, sh_6, sh_7, sh_8, sh_9, sh_10, sh_11, sh_12, sh_13, sh_14, sh_15, sh_16, sh_17, sh_18, sh_19, sh_20, sh_21, sh_22, sh_23, sh_24, sh_25, sh_26, sh_27, sh_28, sh_29, sh_30, sh_31, sh_32, sh_33, sh_34, sh_35, sh_36, sh_37, sh_38, sh_39, sh_40, sh_41, sh_42, sh_43, sh_44, sh_45, sh_46, sh_47, sh_48, sh_49, sh_50, sh_51, sh_52, sh_53, sh_54, sh_55, sh_56, sh_57, sh_58, sh_59, sh_60, sh_61, sh_62, sh_63, sh_64, sh_65, sh_66, sh_67, sh_68, hl, hvw9, Nat.reduceLT, Nat.reduceAdd, Nat.reduceMul, ne_eq, Nat.reduceEqDiff, not_false_eq_true, or_true, true_or, or_false, false_or, and_true, true_and, and_self, Nat.reduceLeDiff, am_ci, am_cr, am_cn0, Option.toList_some, Option.toList_none, List.cons_append, List.nil_append, am_s0, am_s1, am_s1r, am_s2, am_s2r, am_s3r, nI_add, am_u_ne, am_u_at, am_u_n1, am_u_n2, am_w_ne, ↓reduceIte, h1, lkF]
  | succ m ih =>
    intro i b hi hb
    have h1 : ¬ nI 8 ≤ nI i := nI_ge (by omega) (by omega)
    have i1 : i < 8 := by omega
    rw [rX5_likeliest_4]
    by_cases hc : w b < w i
    · have h2 : ¬ nI (w i) ≤ nI (w b) := nI_ge hc (hb31 i)
      simp only [am_lv_of, rX5_likeliest_5, rX5_likeliest_6, rX5_likeliest_9, rX5_likeliest_10, rX5_likeliest_13, rX5_likeliest_14, rX5_likeliest_17, rX5_likeliest_18, rX5_likeliest_19, rX5_likeliest_20, rX5_likeliest_23, rX5_likeliest_24, rX5_likeliest_25, rX5_likeliest_28, rX5_likeliest_29, rX5_likeliest_30, rX5_likeliest_33, ro_0_0 hR, ro_0_3 hR, ro_0_4 hR, ro_0_5 hR, ro_0_6 hR, ro_0_7 hR, ro_0_8 hR, ro_0_9 hR, ro_0_10 hR, ro_0_11 hR, ro_2_6 hR, ro_2_7 hR, ro_2_8 hR, ro_2_9 hR, ro_2_10 hR, ro_2_11 hR, ro_2_12 hR, ro_2_13 hR, ro_9_0 hR, ro_9_1 hR, ro_9_2 hR, ro_14_0 hR, ro_14_1 hR, ro_14_2 hR, ro_14_7 hR, ro_15_0 hR, ro_15_1 hR, ro_15_2 hR, ro_15_3 hR, ro_20_6 hR, ro_20_7 hR, ro_20_8 hR, ro_20_9 hR, ro_20_10 hR, ro_20_11 hR, ro_20_12 hR, ro_20_13 hR, ro_27_0 hR, ro_27_1 hR, ro_27_2 hR, ro_32_0 hR, ro_32_1 hR, ro_34_10 hR, ro_34_11 hR, ro_34_12 hR, ro_34_13 hR, ro_39_0 hR, ro_39_1 hR, ro_42_0 hR, ro_42_1 hR, ro_47_0 hR, ro_47_1 hR, ro_47_2 hR, ro_47_3 hR, ro_55_0 hR, ro_55_1 hR, ro_55_2 hR, ro_57_0 hR, ro_57_1 hR, ro_57_2 hR, ro_57_3 hR, ro_57_4 hR, ro_57_5 hR, ro_57_8 hR, sh_0, sh_1, sh_2, sh_3, sh_4, sh_5, sh_6, sh_7, sh_8, sh_9, sh_10, sh_11, sh_12, sh_13, sh_14, sh_15, sh_16, sh_17, sh_18, sh_19, sh_20, sh_21, sh_22, sh_23, sh_24, sh_25, sh_26, sh_27, sh_28, sh_29, sh_30, sh_31, sh_32, sh_33, sh_34, sh_35, sh_36, sh_37, sh_38, sh_39, sh_40, sh_41, sh_42, sh_43, sh_44, sh_45, sh_46, sh_47, sh_48, sh_49, sh_50, sh_51, sh_52, sh_53, sh_54, sh_55, sh_56, sh_57, sh_58, sh_59, sh_60, sh_61, sh_62, sh_63, sh_64, sh_65, sh_66, sh_67, sh_68, hl, hvw9, Nat.reduceLT, Nat.reduceAdd, Nat.reduceMul, ne_eq, Nat.reduceEqDiff, not_false_eq_true, or_true, true_or, or_false, false_or, and_true, true_and, and_self, Nat.reduceLeDiff, am_ci, am_cr, am_cn0, Option.toList_some, Option.toList_none, List.cons_append, List.nil_append, am_s0, am_s1, am_s1r, am_s2, am_s2r, am_s3r, nI_add, am_u_ne, am_u_at, am_u_n1, am_u_n2, am_w_ne, ↓reduceIte, h1, i1, hb, hw i i1, hw b hb, h2]
      rw [ih (i + 1) i (by omega) i1, lkF, if_pos hc]
    · have h2 : nI (w i) ≤ nI (w b) := nI_le (by omega) (hb31 b)
      simp only [am_lv_of, rX5_likeliest_5, rX5_likeliest_6, rX5_likeliest_9, rX5_likeliest_10, rX5_likeliest_13, rX5_likeliest_14, rX5_likeliest_17, rX5_likeliest_18, rX5_likeliest_19, rX5_likeliest_20, rX5_likeliest_23, rX5_likeliest_24, rX5_likeliest_25, rX5_likeliest_28, rX5_likeliest_29, rX5_likeliest_30, rX5_likeliest_33, ro_0_0 hR, ro_0_3 hR, ro_0_4 hR, ro_0_5 hR, ro_0_6 hR, ro_0_7 hR, ro_0_8 hR, ro_0_9 hR, ro_0_10 hR, ro_0_11 hR, ro_2_6 hR, ro_2_7 hR, ro_2_8 hR, ro_2_9 hR, ro_2_10 hR, ro_2_11 hR, ro_2_12 hR, ro_2_13 hR, ro_9_0 hR, ro_9_1 hR, ro_9_2 hR, ro_14_0 hR, ro_14_1 hR, ro_14_2 hR, ro_14_7 hR, ro_15_0 hR, ro_15_1 hR, ro_15_2 hR, ro_15_3 hR, ro_20_6 hR, ro_20_7 hR, ro_20_8 hR, ro_20_9 hR, ro_20_10 hR, ro_20_11 hR, ro_20_12 hR, ro_20_13 hR, ro_27_0 hR, ro_27_1 hR, ro_27_2 hR, ro_32_0 hR, ro_32_1 hR, ro_34_10 hR, ro_34_11 hR, ro_34_12 hR, ro_34_13 hR, ro_39_0 hR, ro_39_1 hR, ro_42_0 hR, ro_42_1 hR, ro_47_0 hR, ro_47_1 hR, ro_47_2 hR, ro_47_3 hR, ro_55_0 hR, ro_55_1 hR, ro_55_2 hR, ro_57_0 hR, ro_57_1 hR, ro_57_2 hR, ro_57_3 hR, ro_57_4 hR, ro_57_5 hR, ro_57_8 hR, sh_0, sh_1, sh_2, sh_3, sh_4, sh_5, sh_6, sh_7, sh_8, sh_9, sh_10, sh_11, sh_12, sh_13, sh_14, sh_15, sh_16, sh_17, sh_18, sh_19, sh_20, sh_21, sh_22, sh_23, sh_24, sh_25, sh_26, sh_27, sh_28, sh_29, sh_30, sh_31, sh_32, sh_33, sh_34, sh_35, sh_36, sh_37, sh_38, sh_39, sh_40, sh_41, sh_42, sh_43, sh_44, sh_45, sh_46, sh_47, sh_48, sh_49, sh_50, sh_51, sh_52, sh_53, sh_54, sh_55, sh_56, sh_57, sh_58, sh_59, sh_60, sh_61, sh_62, sh_63, sh_64, sh_65, sh_66, sh_67, sh_68, hl, hvw9, Nat.reduceLT, Nat.reduceAdd, Nat.reduceMul, ne_eq, Nat.reduceEqDiff, not_false_eq_true, or_true, true_or, or_false, false_or, and_true, true_and, and_self, Nat.reduceLeDiff, am_ci, am_cr, am_cn0, Option.toList_some, Option.toList_none, List.cons_append, List.nil_append, am_s0, am_s1, am_s1r, am_s2, am_s2r, am_s3r, nI_add, am_u_ne, am_u_at, am_u_n1, am_u_n2, am_w_ne, ↓reduceIte, h1, i1, hb, hw i i1, hw b hb, h2]
      rw [ih (i + 1) b (by omega) hb, lkF, if_neg hc]
theorem l_lkR {w : Nat → Nat} {C : Nat} (hR : am_OR R) (hN : 116 ≤ n) (H : rf_S I σ) (hC : p_C σ = C) (hw : ∀ j, j < 8 → I 109 j = nI (w j)) (hb31 : ∀ j, w j < 2 ^ 31) : ∀ (m i b : Nat), i + m = C + 1 → b < 8 → (am_E X d mX13_verdicts 8 [some (.ref 69), some (.int (nI b)), some (.int (nI i))] [] (n, I, L, R) Q ↔ Q (some (.int (nI (lkF w i m b)))) (n, I, L, R)) := by
  have hl := am_lt hN
  have hvw9 := am_lw hN
  obtain ⟨f1, f2, f3, f4, f5, f6, f7, f8, -⟩ := id H
  rw [hC] at f7 f8
  intro m
  induction m with
  | zero =>
    intro i b hi hb
    have hi : i = C + 1 := by omega
    subst hi
    have h1 : nI C < nI (C + 1) := nI_lt (by omega) (by omega)
    simp only [am_lv_of, rX13_verdicts_8, rX13_verdicts_9, rX13_verdicts_10, rX13_verdicts_13, rX13_verdicts_14, rX13_verdicts_17, rX13_verdicts_18, rX13_verdicts_44, rX13_verdicts_45, ro_69_1 hR, ro_69_3 hR, ro_69_5 hR, ro_69_6 hR, ro_69_7 hR, ro_69_8 hR, ro_69_9 hR, ro_69_21 hR, ro_69_22 hR, ro_69_23 hR, ro_69_24 hR, ro_69_25 hR, ro_69_26 hR, ro_69_27 hR, ro_69_28 hR, ro_69_29 hR, ro_69_30 hR, ro_69_31 hR, ro_69_32 hR, ro_69_33 hR, ro_69_34 hR, ro_69_35 hR, ro_69_36 hR, ro_69_38 hR, ro_69_39 hR, ro_69_40 hR, ro_69_41 hR, ro_69_42 hR, ro_69_44 hR, ro_69_45 hR, ro_69_46 hR, ro_69_48 hR, ro_69_49 hR, ro_69_51 hR, ro_69_52 hR, ro_69_55 hR, ro_69_56 hR, ro_69_57 hR, ro_69_58 hR, ro_69_59 hR, ro_69_61 hR, ro_69_62 hR, ro_69_63 hR, ro_69_64 hR, ro_69_65 hR, ro_69_66 hR, sh_69, sh_70, sh_71, sh_72, sh_73, sh_74, sh_75, sh_76, sh_77, sh_78, sh_79, sh_80, sh_81, sh_82, sh_83, sh_84, sh_85, sh_86, sh_87, sh_88, sh_89, sh_90, sh_91, sh_92, sh_93, sh_94, sh_95, sh_96, sh_97, sh_98, sh_99, sh_100, sh_101, sh_102, sh_103, sh_104, sh_105, sh_106, sh_107, sh_108, sh_109, sh_110, sh_111, sh_112, sh_113, sh_114, sh_115, hl, hvw9, Nat.reduceLT, Nat.reduceAdd, Nat.reduceMul, ne_eq, Nat.reduceEqDiff, not_false_eq_true, or_true, true_or, or_false, false_or, and_true, true_and, and_self, Nat.reduceLeDiff, am_ci, am_cr, am_cn0, Option.toList_some, Option.toList_none, List.cons_append, List.nil_append, am_s0, am_s1, am_s1r, am_s2, am_s2r, am_s3r, nI_add, am_u_ne, am_u_at, am_u_n1, am_u_n2, am_w_ne, ↓reduceIte, f1, f2, f7, h1, lkF]
  | succ m ih =>
    intro i b hi hb
    have h1 : ¬ nI C < nI i := nI_nlt (by omega) (by omega)
    have i1 : i < 8 := by omega
    rw [rX13_verdicts_8]
    by_cases hc : w b < w i
    · have h2 : ¬ nI (w i) ≤ nI (w b) := nI_ge hc (hb31 i)
      simp only [am_lv_of, rX13_verdicts_9, rX13_verdicts_10, rX13_verdicts_13, rX13_verdicts_14, rX13_verdicts_17, rX13_verdicts_18, rX13_verdicts_21, rX13_verdicts_22, rX13_verdicts_25, rX13_verdicts_26, rX13_verdicts_27, rX13_verdicts_28, rX13_verdicts_31, rX13_verdicts_32, rX13_verdicts_33, rX13_verdicts_36, rX13_verdicts_37, rX13_verdicts_38, rX13_verdicts_41, ro_69_1 hR, ro_69_3 hR, ro_69_5 hR, ro_69_6 hR, ro_69_7 hR, ro_69_8 hR, ro_69_9 hR, ro_69_21 hR, ro_69_22 hR, ro_69_23 hR, ro_69_24 hR, ro_69_25 hR, ro_69_26 hR, ro_69_27 hR, ro_69_28 hR, ro_69_29 hR, ro_69_30 hR, ro_69_31 hR, ro_69_32 hR, ro_69_33 hR, ro_69_34 hR, ro_69_35 hR, ro_69_36 hR, ro_69_38 hR, ro_69_39 hR, ro_69_40 hR, ro_69_41 hR, ro_69_42 hR, ro_69_44 hR, ro_69_45 hR, ro_69_46 hR, ro_69_48 hR, ro_69_49 hR, ro_69_51 hR, ro_69_52 hR, ro_69_55 hR, ro_69_56 hR, ro_69_57 hR, ro_69_58 hR, ro_69_59 hR, ro_69_61 hR, ro_69_62 hR, ro_69_63 hR, ro_69_64 hR, ro_69_65 hR, ro_69_66 hR, sh_69, sh_70, sh_71, sh_72, sh_73, sh_74, sh_75, sh_76, sh_77, sh_78, sh_79, sh_80, sh_81, sh_82, sh_83, sh_84, sh_85, sh_86, sh_87, sh_88, sh_89, sh_90, sh_91, sh_92, sh_93, sh_94, sh_95, sh_96, sh_97, sh_98, sh_99, sh_100, sh_101, sh_102, sh_103, sh_104, sh_105, sh_106, sh_107, sh_108, sh_109, sh_110, sh_111, sh_112, sh_113, sh_114, sh_115, hl, hvw9, Nat.reduceLT, Nat.reduceAdd, Nat.reduceMul, ne_eq, Nat.reduceEqDiff, not_false_eq_true, or_true, true_or, or_false, false_or, and_true, true_and, and_self, Nat.reduceLeDiff, am_ci, am_cr, am_cn0, Option.toList_some, Option.toList_none, List.cons_append, List.nil_append, am_s0, am_s1, am_s1r, am_s2, am_s2r, am_s3r, nI_add, am_u_ne, am_u_at, am_u_n1, am_u_n2, am_w_ne, ↓reduceIte, f1, f2, f7, h1, i1, hb, hw i i1, hw b hb, h2]
      rw [ih (i + 1) i (by omega) i1, lkF, if_pos hc]
    · have h2 : nI (w i) ≤ nI (w b) := nI_le (by omega) (hb31 b)
      simp only [am_lv_of, rX13_verdicts_9, rX13_verdicts_10, rX13_verdicts_13, rX13_verdicts_14, rX13_verdicts_17, rX13_verdicts_18, rX13_verdicts_21, rX13_verdicts_22, rX13_verdicts_25, rX13_verdicts_26, rX13_verdicts_27, rX13_verdicts_28, rX13_verdicts_31, rX13_verdicts_32, rX13_verdicts_33, rX13_verdicts_36, rX13_verdicts_37, rX13_verdicts_38, rX13_verdicts_41, ro_69_1 hR, ro_69_3 hR, ro_69_5 hR, ro_69_6 hR, ro_69_7 hR, ro_69_8 hR, ro_69_9 hR, ro_69_21 hR, ro_69_22 hR, ro_69_23 hR, ro_69_24 hR, ro_69_25 hR, ro_69_26 hR, ro_69_27 hR, ro_69_28 hR, ro_69_29 hR, ro_69_30 hR, ro_69_31 hR, ro_69_32 hR, ro_69_33 hR, ro_69_34 hR, ro_69_35 hR, ro_69_36 hR, ro_69_38 hR, ro_69_39 hR, ro_69_40 hR, ro_69_41 hR, ro_69_42 hR, ro_69_44 hR, ro_69_45 hR, ro_69_46 hR, ro_69_48 hR, ro_69_49 hR, ro_69_51 hR, ro_69_52 hR, ro_69_55 hR, ro_69_56 hR, ro_69_57 hR, ro_69_58 hR, ro_69_59 hR, ro_69_61 hR, ro_69_62 hR, ro_69_63 hR, ro_69_64 hR, ro_69_65 hR, ro_69_66 hR, sh_69, sh_70, sh_71, sh_72, sh_73, sh_74, sh_75, sh_76, sh_77, sh_78, sh_79, sh_80, sh_81, sh_82, sh_83, sh_84, sh_85, sh_86, sh_87, sh_88, sh_89, sh_90, sh_91, sh_92, sh_93, sh_94, sh_95, sh_96, sh_97, sh_98, sh_99, sh_100, sh_101, sh_102, sh_103, sh_104, sh_105, sh_106, sh_107, sh_108, sh_109, sh_110, sh_111, sh_112, sh_113, sh_114, sh_115, hl, hvw9, Nat.reduceLT, Nat.reduceAdd, Nat.reduceMul, ne_eq, Nat.reduceEqDiff, not_false_eq_true, or_true, true_or, or_false, false_or, and_true, true_and, and_self, Nat.reduceLeDiff, am_ci, am_cr, am_cn0, Option.toList_some, Option.toList_none, List.cons_append, List.nil_append, am_s0, am_s1, am_s1r, am_s2, am_s2r, am_s3r, nI_add, am_u_ne, am_u_at, am_u_n1, am_u_n2, am_w_ne, ↓reduceIte, f1, f2, f7, h1, i1, hb, hw i i1, hw b hb, h2]
      rw [ih (i + 1) b (by omega) hb, lkF, if_neg hc]
theorem pl_scr {I' : Nat → Nat → Int32} (h : am_ag plP I I') : am_ag scrP I I' := h.mono (fun k j z => by unfold plP skc at z; unfold scrP; omega)
theorem fv_scr {I' : Nat → Nat → Int32} (h : am_ag (fun k j => sc2 k j ∨ k = 109) I I') : am_ag scrP I I' := h.mono (fun k j z => by unfold sc2 sc1 at z; unfold scrP; omega)
/-- the reference's poll behind the class's -/
theorem c_fv2 {I1 : Nat → Nat → Int32} (H1 : RELs (n, I1, L, R) σ) (e103 : I1 103 = I 103) (e88 : ∀ c, c < p_C σ → I1 88 (7 * p_lv σ + c) = I 8 c) (hQ : ∀ I', RELs (n, I', L, R) σ → (∀ j, j < 8 → I' 109 j = nI (Wy (vtN σ (I 103) (I 8)) (p_C σ) j)) → Q none (n, I', L, R)) : am_E X (d + 4) mX13_fillsVotes 0 [some (.ref 69), none, none, none] [] (n, I1, L, R) Q := by
  refine c_fv (seat := I 8) H1.2.2.1.2.2.1 H1.1.1 H1.1.N H1.1.n H1.rf e88 (fun I2 g2 w2 => hQ I2 (H1.scr (fv_scr g2)) ?_)
  rw [e103] at w2
  exact w2
theorem s_verdicts (H : REL (n, I, L, R)) : sim X (d + 30) mX12_verdicts mX13_verdicts [some (.ref 0)] [some (.ref 69), none, none] (n, I, L, R) := by
  obtain ⟨σ, H⟩ := H
  have hR := H.1.1
  have hN := H.1.N
  have hn := H.1.n
  have hl := am_lt hN
  have hvw9 := am_lw hN
  obtain ⟨S1, S2, S3, S4, S5, S6, S7, ws, S8, S9⟩ := id (show relS I σ from H.2.2.1)
  obtain ⟨o1, o2, o3, o4⟩ := id S3
  obtain ⟨b1, b2, b3, b4, bz, b5, b6, b7⟩ := id S2
  obtain ⟨f1, f2, f3, f4, f5, f6, f7, f8, f9, f10⟩ := id S1
  obtain ⟨w, K, cw, cp, c16, c15, c17, c18, c19, c20, c28, c29, cK, c30, cK12, cpl, cpr, cs, cv⟩ := id (show crs I 34 (p_P σ) (p_S σ) (I 103) from H.2.2.2.2.1)
  unfold sim
  simp only [am_lv_of, rX12_verdicts_0, rX12_verdicts_1, rX12_verdicts_4, rX12_verdicts_5, rX12_verdicts_8, ro_0_0 hR, ro_0_3 hR, ro_0_4 hR, ro_0_5 hR, ro_0_6 hR, ro_0_7 hR, ro_0_8 hR, ro_0_9 hR, ro_0_10 hR, ro_0_11 hR, ro_2_6 hR, ro_2_7 hR, ro_2_8 hR, ro_2_9 hR, ro_2_10 hR, ro_2_11 hR, ro_2_12 hR, ro_2_13 hR, ro_9_0 hR, ro_9_1 hR, ro_9_2 hR, ro_14_0 hR, ro_14_1 hR, ro_14_2 hR, ro_14_7 hR, ro_15_0 hR, ro_15_1 hR, ro_15_2 hR, ro_15_3 hR, ro_20_6 hR, ro_20_7 hR, ro_20_8 hR, ro_20_9 hR, ro_20_10 hR, ro_20_11 hR, ro_20_12 hR, ro_20_13 hR, ro_27_0 hR, ro_27_1 hR, ro_27_2 hR, ro_32_0 hR, ro_32_1 hR, ro_34_10 hR, ro_34_11 hR, ro_34_12 hR, ro_34_13 hR, ro_39_0 hR, ro_39_1 hR, ro_42_0 hR, ro_42_1 hR, ro_47_0 hR, ro_47_1 hR, ro_47_2 hR, ro_47_3 hR, ro_55_0 hR, ro_55_1 hR, ro_55_2 hR, ro_57_0 hR, ro_57_1 hR, ro_57_2 hR, ro_57_3 hR, ro_57_4 hR, ro_57_5 hR, ro_57_8 hR, sh_0, sh_1, sh_2, sh_3, sh_4, sh_5, sh_6, sh_7, sh_8, sh_9, sh_10, sh_11, sh_12, sh_13, sh_14, sh_15, sh_16, sh_17, sh_18, sh_19, sh_20, sh_21, sh_22, sh_23, sh_24, sh_25, sh_26, sh_27, sh_28, sh_29, sh_30, sh_31, sh_32, sh_33, sh_34, sh_35, sh_36, sh_37, sh_38, sh_39, sh_40, sh_41, sh_42, sh_43, sh_44, sh_45, sh_46, sh_47, sh_48, sh_49, sh_50, sh_51, sh_52, sh_53, sh_54, sh_55, sh_56, sh_57, sh_58, sh_59, sh_60, sh_61, sh_62, sh_63, sh_64, sh_65, sh_66, sh_67, sh_68, hl, hvw9, Nat.reduceLT, Nat.reduceAdd, Nat.reduceMul, ne_eq, Nat.reduceEqDiff, not_false_eq_true, or_true, true_or, or_false, false_or, and_true, true_and, and_self, Nat.reduceLeDiff, am_ci, am_cr, am_cn0, Option.toList_some, Option.toList_none, List.cons_append, List.nil_append, am_s0, am_s1, am_s1r, am_s2, am_s2r, am_s3r, nI_add, am_u_ne, am_u_at, am_u_n1, am_u_n2, am_w_ne]
  refine c_poll hR hN hn S3 S2 cw c16 cp (fun I1 g1 w1 a1 => ?_)
  have H1 := H.scr (pl_scr g1)
  have hb31 : ∀ j, Wy (vtN σ (I 103) (I 8)) (p_C σ) j < 2 ^ 31 := fun j => by
    have := Wy_le (vt := vtN σ (I 103) (I 8)) (fun c => (vtN_ok c).1) (p_C σ) j
    have := pow10 o3
    omega
  simp only [am_lv_of, Option.toList_none, List.nil_append, rX12_verdicts_11, rX12_verdicts_12, rX12_verdicts_15, rX5_likeliest_0, rX5_likeliest_1, rX5_likeliest_2, rX5_likeliest_3, ro_0_0 hR, ro_0_3 hR, ro_0_4 hR, ro_0_5 hR, ro_0_6 hR, ro_0_7 hR, ro_0_8 hR, ro_0_9 hR, ro_0_10 hR, ro_0_11 hR, ro_2_6 hR, ro_2_7 hR, ro_2_8 hR, ro_2_9 hR, ro_2_10 hR, ro_2_11 hR, ro_2_12 hR, ro_2_13 hR, ro_9_0 hR, ro_9_1 hR, ro_9_2 hR, ro_14_0 hR, ro_14_1 hR, ro_14_2 hR, ro_14_7 hR, ro_15_0 hR, ro_15_1 hR, ro_15_2 hR, ro_15_3 hR, ro_20_6 hR, ro_20_7 hR, ro_20_8 hR, ro_20_9 hR, ro_20_10 hR, ro_20_11 hR, ro_20_12 hR, ro_20_13 hR, ro_27_0 hR, ro_27_1 hR, ro_27_2 hR, ro_32_0 hR, ro_32_1 hR, ro_34_10 hR, ro_34_11 hR, ro_34_12 hR, ro_34_13 hR, ro_39_0 hR, ro_39_1 hR, ro_42_0 hR, ro_42_1 hR, ro_47_0 hR, ro_47_1 hR, ro_47_2 hR, ro_47_3 hR, ro_55_0 hR, ro_55_1 hR, ro_55_2 hR, ro_57_0 hR, ro_57_1 hR, ro_57_2 hR, ro_57_3 hR, ro_57_4 hR, ro_57_5 hR, ro_57_8 hR, sh_0, sh_1, sh_2, sh_3, sh_4, sh_5, sh_6, sh_7, sh_8, sh_9, sh_10, sh_11, sh_12, sh_13, sh_14, sh_15, sh_16, sh_17, sh_18, sh_19, sh_20, sh_21, sh_22, sh_23, sh_24, sh_25, sh_26, sh_27, sh_28, sh_29, sh_30, sh_31, sh_32, sh_33, sh_34, sh_35, sh_36, sh_37, sh_38, sh_39, sh_40, sh_41, sh_42, sh_43, sh_44, sh_45, sh_46, sh_47, sh_48, sh_49, sh_50, sh_51, sh_52, sh_53, sh_54, sh_55, sh_56, sh_57, sh_58, sh_59, sh_60, sh_61, sh_62, sh_63, sh_64, sh_65, sh_66, sh_67, sh_68, hl, hvw9, Nat.reduceLT, Nat.reduceAdd, Nat.reduceMul, ne_eq, Nat.reduceEqDiff, not_false_eq_true, or_true, true_or, or_false, false_or, and_true, true_and, and_self, Nat.reduceLeDiff, am_ci, am_cr, am_cn0, Option.toList_some, Option.toList_none, List.cons_append, List.nil_append, am_s0, am_s1, am_s1r, am_s2, am_s2r, am_s3r, nI_add, am_u_ne, am_u_at, am_u_n1, am_u_n2, am_w_ne]
  rw [l_lkC hR hN w1 hb31 7 1 0 (by omega) (by omega)]
  simp only [am_lv_of, Option.toList_some, List.cons_append, List.nil_append, rX12_verdicts_18]
  simp only [am_lv_of, rX13_verdicts_0, rX13_verdicts_1, ro_69_1 hR, ro_69_3 hR, ro_69_5 hR, ro_69_6 hR, ro_69_7 hR, ro_69_8 hR, ro_69_9 hR, ro_69_21 hR, ro_69_22 hR, ro_69_23 hR, ro_69_24 hR, ro_69_25 hR, ro_69_26 hR, ro_69_27 hR, ro_69_28 hR, ro_69_29 hR, ro_69_30 hR, ro_69_31 hR, ro_69_32 hR, ro_69_33 hR, ro_69_34 hR, ro_69_35 hR, ro_69_36 hR, ro_69_38 hR, ro_69_39 hR, ro_69_40 hR, ro_69_41 hR, ro_69_42 hR, ro_69_44 hR, ro_69_45 hR, ro_69_46 hR, ro_69_48 hR, ro_69_49 hR, ro_69_51 hR, ro_69_52 hR, ro_69_55 hR, ro_69_56 hR, ro_69_57 hR, ro_69_58 hR, ro_69_59 hR, ro_69_61 hR, ro_69_62 hR, ro_69_63 hR, ro_69_64 hR, ro_69_65 hR, ro_69_66 hR, sh_69, sh_70, sh_71, sh_72, sh_73, sh_74, sh_75, sh_76, sh_77, sh_78, sh_79, sh_80, sh_81, sh_82, sh_83, sh_84, sh_85, sh_86, sh_87, sh_88, sh_89, sh_90, sh_91, sh_92, sh_93, sh_94, sh_95, sh_96, sh_97, sh_98, sh_99, sh_100, sh_101, sh_102, sh_103, sh_104, sh_105, sh_106, sh_107, sh_108, sh_109, sh_110, sh_111, sh_112, sh_113, sh_114, sh_115, hl, hvw9, Nat.reduceLT, Nat.reduceAdd, Nat.reduceMul, ne_eq, Nat.reduceEqDiff, not_false_eq_true, or_true, true_or, or_false, false_or, and_true, true_and, and_self, Nat.reduceLeDiff, am_ci, am_cr, am_cn0, Option.toList_some, Option.toList_none, List.cons_append, List.nil_append, am_s0, am_s1, am_s1r, am_s2, am_s2r, am_s3r, nI_add, am_u_ne, am_u_at, am_u_n1, am_u_n2, am_w_ne]
  refine c_fv2 H1 (funext fun j => g1 103 j (by unfold plP skc; omega)) (fun c hc => by rw [g1 88 _ (by unfold plP skc; omega)]; exact (S7 c hc).symm) (fun I2 H2 w2 => ?_)
  simp only [am_lv_of, Option.toList_none, List.nil_append, rX13_verdicts_4, rX13_verdicts_5, rX13_verdicts_6, rX13_verdicts_7, hl, hvw9, Nat.reduceLT, Nat.reduceAdd, Nat.reduceMul, ne_eq, Nat.reduceEqDiff, not_false_eq_true, or_true, true_or, or_false, false_or, and_true, true_and, and_self, Nat.reduceLeDiff, am_ci, am_cr, am_cn0, Option.toList_some, Option.toList_none, List.cons_append, List.nil_append, am_s0, am_s1, am_s1r, am_s2, am_s2r, am_s3r, nI_add, am_u_ne, am_u_at, am_u_n1, am_u_n2, am_w_ne]
  rw [l_lkR hR hN H2.rf rfl w2 hb31 (p_C σ) 1 0 (by omega) (by omega)]
  refine ⟨?_, σ, H2⟩
  have := lkF_s (f := Wy (vtN σ (I 103) (I 8)) (p_C σ)) (p_C σ) (7 - p_C σ) 1 0
  rw [show p_C σ + (7 - p_C σ) = 7 by omega, lkF_0 (7 - p_C σ) (1 + p_C σ) _ (fun j hj => Wy_0 _ _ (by omega))] at this
  rw [this]
theorem s_half {a : Int32} (H : REL (n, I, L, R)) : sim X (d + 30) mX12_half mX13_half [some (.ref 0), some (.int a)] [some (.ref 69), some (.int a), none, none] (n, I, L, R) := by
  obtain ⟨σ, H⟩ := H
  have hR := H.1.1
  have hN := H.1.N
  have hn := H.1.n
  have hl := am_lt hN
  have hvw9 := am_lw hN
  obtain ⟨S1, S2, S3, S4, S5, S6, S7, ws, S8, S9⟩ := id (show relS I σ from H.2.2.1)
  obtain ⟨o1, o2, o3, o4⟩ := id S3
  obtain ⟨b1, b2, b3, b4, bz, b5, b6, b7⟩ := id S2
  obtain ⟨f1, f2, f3, f4, f5, f6, f7, f8, f9, f10⟩ := id S1
  obtain ⟨w, K, cw, cp, c16, c15, c17, c18, c19, c20, c28, c29, cK, c30, cK12, cpl, cpr, cs, cv⟩ := id (show crs I 34 (p_P σ) (p_S σ) (I 103) from H.2.2.2.2.1)
  unfold sim
  have hp := pow10 o3
  have hWb : ∀ j, Wy (vtN σ (I 103) (I 8)) (p_C σ) j ≤ 10000000 := fun j => by
    have := Wy_le (vt := vtN σ (I 103) (I 8)) (fun c => (vtN_ok c).1) (p_C σ) j
    omega
  simp only [am_lv_of, rX12_half_0, rX12_half_1, rX12_half_4, rX12_half_5, rX12_half_8, ro_0_0 hR, ro_0_3 hR, ro_0_4 hR, ro_0_5 hR, ro_0_6 hR, ro_0_7 hR, ro_0_8 hR, ro_0_9 hR, ro_0_10 hR, ro_0_11 hR, ro_2_6 hR, ro_2_7 hR, ro_2_8 hR, ro_2_9 hR, ro_2_10 hR, ro_2_11 hR, ro_2_12 hR, ro_2_13 hR, ro_9_0 hR, ro_9_1 hR, ro_9_2 hR, ro_14_0 hR, ro_14_1 hR, ro_14_2 hR, ro_14_7 hR, ro_15_0 hR, ro_15_1 hR, ro_15_2 hR, ro_15_3 hR, ro_20_6 hR, ro_20_7 hR, ro_20_8 hR, ro_20_9 hR, ro_20_10 hR, ro_20_11 hR, ro_20_12 hR, ro_20_13 hR, ro_27_0 hR, ro_27_1 hR, ro_27_2 hR, ro_32_0 hR, ro_32_1 hR, ro_34_10 hR, ro_34_11 hR, ro_34_12 hR, ro_34_13 hR, ro_39_0 hR, ro_39_1 hR, ro_42_0 hR, ro_42_1 hR, ro_47_0 hR, ro_47_1 hR, ro_47_2 hR, ro_47_3 hR, ro_55_0 hR, ro_55_1 hR, ro_55_2 hR, ro_57_0 hR, ro_57_1 hR, ro_57_2 hR, ro_57_3 hR, ro_57_4 hR, ro_57_5 hR, ro_57_8 hR, sh_0, sh_1, sh_2, sh_3, sh_4, sh_5, sh_6, sh_7, sh_8, sh_9, sh_10, sh_11, sh_12, sh_13, sh_14, sh_15, sh_16, sh_17, sh_18, sh_19, sh_20, sh_21, sh_22, sh_23, sh_24, sh_25, sh_26, sh_27, sh_28, sh_29, sh_30, sh_31, sh_32, sh_33, sh_34, sh_35, sh_36, sh_37, sh_38, sh_39, sh_40, sh_41, sh_42, sh_43, sh_44, sh_45, sh_46, sh_47, sh_48, sh_49, sh_50, sh_51, sh_52, sh_53, sh_54, sh_55, sh_56, sh_57, sh_58, sh_59, sh_60, sh_61, sh_62, sh_63, sh_64, sh_65, sh_66, sh_67, sh_68, hl, hvw9, Nat.reduceLT, Nat.reduceAdd, Nat.reduceMul, ne_eq, Nat.reduceEqDiff, not_false_eq_true, or_true, true_or, or_false, false_or, and_true, true_and, and_self, Nat.reduceLeDiff, am_ci, am_cr, am_cn0, Option.toList_some, Option.toList_none, List.cons_append, List.nil_append, am_s0, am_s1, am_s1r, am_s2, am_s2r, am_s3r, nI_add, am_u_ne, am_u_at, am_u_n1, am_u_n2, am_w_ne]
  refine c_poll hR hN hn S3 S2 cw c16 cp (fun I1 g1 w1 a1 => ?_)
  have H1 := H.scr (pl_scr g1)
  have e22 : I1 2 2 = nI (p_C σ) := H1.cl.2.2.1
  have ed : nI (p_C σ) / nI 2 = nI (p_C σ / 2) := pk_div (by omega) (by omega) (by omega)
  have z2 : ¬ nI 2 = 0 := by decide
  have hsb := smF_le hWb (7 - p_C σ / 2) (p_C σ / 2 + 1)
  have hsb2 : (7 - p_C σ / 2) * 10000000 ≤ 7 * 10000000 := Nat.mul_le_mul_right _ (by omega)
  have h0 : 0 < 10 ^ p_C σ := Nat.pow_pos (by omega)
  simp only [am_lv_of, Option.toList_none, List.nil_append, rX12_half_11, rX12_half_12, rX12_half_15, rX12_half_16, rX12_half_19, rX5_waysOfMost_0, rX5_waysOfMost_1, rX5_waysOfMost_2, rX5_waysOfMost_3, rX5_waysOfMost_6, rX5_waysOfMost_9, rX5_waysOfMost_10, rX5_waysOfMost_11, rX5_waysOfMost_12, rX5_waysOfMost_13, ro_0_0 hR, ro_0_3 hR, ro_0_4 hR, ro_0_5 hR, ro_0_6 hR, ro_0_7 hR, ro_0_8 hR, ro_0_9 hR, ro_0_10 hR, ro_0_11 hR, ro_2_6 hR, ro_2_7 hR, ro_2_8 hR, ro_2_9 hR, ro_2_10 hR, ro_2_11 hR, ro_2_12 hR, ro_2_13 hR, ro_9_0 hR, ro_9_1 hR, ro_9_2 hR, ro_14_0 hR, ro_14_1 hR, ro_14_2 hR, ro_14_7 hR, ro_15_0 hR, ro_15_1 hR, ro_15_2 hR, ro_15_3 hR, ro_20_6 hR, ro_20_7 hR, ro_20_8 hR, ro_20_9 hR, ro_20_10 hR, ro_20_11 hR, ro_20_12 hR, ro_20_13 hR, ro_27_0 hR, ro_27_1 hR, ro_27_2 hR, ro_32_0 hR, ro_32_1 hR, ro_34_10 hR, ro_34_11 hR, ro_34_12 hR, ro_34_13 hR, ro_39_0 hR, ro_39_1 hR, ro_42_0 hR, ro_42_1 hR, ro_47_0 hR, ro_47_1 hR, ro_47_2 hR, ro_47_3 hR, ro_55_0 hR, ro_55_1 hR, ro_55_2 hR, ro_57_0 hR, ro_57_1 hR, ro_57_2 hR, ro_57_3 hR, ro_57_4 hR, ro_57_5 hR, ro_57_8 hR, sh_0, sh_1, sh_2, sh_3, sh_4, sh_5, sh_6, sh_7, sh_8, sh_9, sh_10, sh_11, sh_12, sh_13, sh_14, sh_15, sh_16, sh_17, sh_18, sh_19, sh_20, sh_21, sh_22, sh_23, sh_24, sh_25, sh_26, sh_27, sh_28, sh_29, sh_30, sh_31, sh_32, sh_33, sh_34, sh_35, sh_36, sh_37, sh_38, sh_39, sh_40, sh_41, sh_42, sh_43, sh_44, sh_45, sh_46, sh_47, sh_48, sh_49, sh_50, sh_51, sh_52, sh_53, sh_54, sh_55, sh_56, sh_57, sh_58, sh_59, sh_60, sh_61, sh_62, sh_63, sh_64, sh_65, sh_66, sh_67, sh_68, hl, hvw9, Nat.reduceLT, Nat.reduceAdd, Nat.reduceMul, ne_eq, Nat.reduceEqDiff, not_false_eq_true, or_true, true_or, or_false, false_or, and_true, true_and, and_self, Nat.reduceLeDiff, am_ci, am_cr, am_cn0, Option.toList_some, Option.toList_none, List.cons_append, List.nil_append, am_s0, am_s1, am_s1r, am_s2, am_s2r, am_s3r, nI_add, am_u_ne, am_u_at, am_u_n1, am_u_n2, am_w_ne, e22, ed, z2]
  rw [l_wom hR hN w1 (7 - p_C σ / 2) (p_C σ / 2 + 1) 0 (by omega), Nat.zero_add]
  simp only [am_lv_of, Option.toList_some, List.cons_append, List.nil_append, rX12_half_22, rX12_half_23, ro_0_0 hR, ro_0_3 hR, ro_0_4 hR, ro_0_5 hR, ro_0_6 hR, ro_0_7 hR, ro_0_8 hR, ro_0_9 hR, ro_0_10 hR, ro_0_11 hR, ro_2_6 hR, ro_2_7 hR, ro_2_8 hR, ro_2_9 hR, ro_2_10 hR, ro_2_11 hR, ro_2_12 hR, ro_2_13 hR, ro_9_0 hR, ro_9_1 hR, ro_9_2 hR, ro_14_0 hR, ro_14_1 hR, ro_14_2 hR, ro_14_7 hR, ro_15_0 hR, ro_15_1 hR, ro_15_2 hR, ro_15_3 hR, ro_20_6 hR, ro_20_7 hR, ro_20_8 hR, ro_20_9 hR, ro_20_10 hR, ro_20_11 hR, ro_20_12 hR, ro_20_13 hR, ro_27_0 hR, ro_27_1 hR, ro_27_2 hR, ro_32_0 hR, ro_32_1 hR, ro_34_10 hR, ro_34_11 hR, ro_34_12 hR, ro_34_13 hR, ro_39_0 hR, ro_39_1 hR, ro_42_0 hR, ro_42_1 hR, ro_47_0 hR, ro_47_1 hR, ro_47_2 hR, ro_47_3 hR, ro_55_0 hR, ro_55_1 hR, ro_55_2 hR, ro_57_0 hR, ro_57_1 hR, ro_57_2 hR, ro_57_3 hR, ro_57_4 hR, ro_57_5 hR, ro_57_8 hR, sh_0, sh_1, sh_2, sh_3, sh_4, sh_5, sh_6, sh_7, sh_8, sh_9, sh_10, sh_11, sh_12, sh_13, sh_14, sh_15, sh_16, sh_17, sh_18, sh_19, sh_20, sh_21, sh_22, sh_23, sh_24, sh_25, sh_26, sh_27, sh_28, sh_29, sh_30, sh_31, sh_32, sh_33, sh_34, sh_35, sh_36, sh_37, sh_38, sh_39, sh_40, sh_41, sh_42, sh_43, sh_44, sh_45, sh_46, sh_47, sh_48, sh_49, sh_50, sh_51, sh_52, sh_53, sh_54, sh_55, sh_56, sh_57, sh_58, sh_59, sh_60, sh_61, sh_62, sh_63, sh_64, sh_65, sh_66, sh_67, sh_68, hl, hvw9, Nat.reduceLT, Nat.reduceAdd, Nat.reduceMul, ne_eq, Nat.reduceEqDiff, not_false_eq_true, or_true, true_or, or_false, false_or, and_true, true_and, and_self, Nat.reduceLeDiff, am_ci, am_cr, am_cn0, Option.toList_some, Option.toList_none, List.cons_append, List.nil_append, am_s0, am_s1, am_s1r, am_s2, am_s2r, am_s3r, nI_add, am_u_ne, am_u_at, am_u_n1, am_u_n2, am_w_ne]
  rw [c_share hN a1 h0 (by omega) (by omega)]
  simp only [am_lv_of, Option.toList_some, List.cons_append, List.nil_append, rX12_half_26]
  simp only [am_lv_of, rX13_half_0, rX13_half_1, ro_69_1 hR, ro_69_3 hR, ro_69_5 hR, ro_69_6 hR, ro_69_7 hR, ro_69_8 hR, ro_69_9 hR, ro_69_21 hR, ro_69_22 hR, ro_69_23 hR, ro_69_24 hR, ro_69_25 hR, ro_69_26 hR, ro_69_27 hR, ro_69_28 hR, ro_69_29 hR, ro_69_30 hR, ro_69_31 hR, ro_69_32 hR, ro_69_33 hR, ro_69_34 hR, ro_69_35 hR, ro_69_36 hR, ro_69_38 hR, ro_69_39 hR, ro_69_40 hR, ro_69_41 hR, ro_69_42 hR, ro_69_44 hR, ro_69_45 hR, ro_69_46 hR, ro_69_48 hR, ro_69_49 hR, ro_69_51 hR, ro_69_52 hR, ro_69_55 hR, ro_69_56 hR, ro_69_57 hR, ro_69_58 hR, ro_69_59 hR, ro_69_61 hR, ro_69_62 hR, ro_69_63 hR, ro_69_64 hR, ro_69_65 hR, ro_69_66 hR, sh_69, sh_70, sh_71, sh_72, sh_73, sh_74, sh_75, sh_76, sh_77, sh_78, sh_79, sh_80, sh_81, sh_82, sh_83, sh_84, sh_85, sh_86, sh_87, sh_88, sh_89, sh_90, sh_91, sh_92, sh_93, sh_94, sh_95, sh_96, sh_97, sh_98, sh_99, sh_100, sh_101, sh_102, sh_103, sh_104, sh_105, sh_106, sh_107, sh_108, sh_109, sh_110, sh_111, sh_112, sh_113, sh_114, sh_115, hl, hvw9, Nat.reduceLT, Nat.reduceAdd, Nat.reduceMul, ne_eq, Nat.reduceEqDiff, not_false_eq_true, or_true, true_or, or_false, false_or, and_true, true_and, and_self, Nat.reduceLeDiff, am_ci, am_cr, am_cn0, Option.toList_some, Option.toList_none, List.cons_append, List.nil_append, am_s0, am_s1, am_s1r, am_s2, am_s2r, am_s3r, nI_add, am_u_ne, am_u_at, am_u_n1, am_u_n2, am_w_ne]
  refine c_fv2 H1 (funext fun j => g1 103 j (by unfold plP skc; omega)) (fun c hc => by rw [g1 88 _ (by unfold plP skc; omega)]; exact (S7 c hc).symm) (fun I2 H2 w2 => ?_)
  simp only [am_lv_of, Option.toList_none, List.nil_append, rX13_half_4, rX13_half_5, rX13_half_6, rX13_half_7, hl, hvw9, Nat.reduceLT, Nat.reduceAdd, Nat.reduceMul, ne_eq, Nat.reduceEqDiff, not_false_eq_true, or_true, true_or, or_false, false_or, and_true, true_and, and_self, Nat.reduceLeDiff, am_ci, am_cr, am_cn0, Option.toList_some, Option.toList_none, List.cons_append, List.nil_append, am_s0, am_s1, am_s1r, am_s2, am_s2r, am_s3r, nI_add, am_u_ne, am_u_at, am_u_n1, am_u_n2, am_w_ne]
  rw [l_halfR hR hN H2.rf rfl am_ci w2 (p_C σ + 1) 0 0 (by omega), Nat.zero_add, ← half_eqN o3 (fun j hj => Wy_0 _ _ hj)]
  simp only [am_lv_of, rX13_half_51, rX13_half_52, rX13_half_53, rX13_half_54, ro_69_1 hR, ro_69_3 hR, ro_69_5 hR, ro_69_6 hR, ro_69_7 hR, ro_69_8 hR, ro_69_9 hR, ro_69_21 hR, ro_69_22 hR, ro_69_23 hR, ro_69_24 hR, ro_69_25 hR, ro_69_26 hR, ro_69_27 hR, ro_69_28 hR, ro_69_29 hR, ro_69_30 hR, ro_69_31 hR, ro_69_32 hR, ro_69_33 hR, ro_69_34 hR, ro_69_35 hR, ro_69_36 hR, ro_69_38 hR, ro_69_39 hR, ro_69_40 hR, ro_69_41 hR, ro_69_42 hR, ro_69_44 hR, ro_69_45 hR, ro_69_46 hR, ro_69_48 hR, ro_69_49 hR, ro_69_51 hR, ro_69_52 hR, ro_69_55 hR, ro_69_56 hR, ro_69_57 hR, ro_69_58 hR, ro_69_59 hR, ro_69_61 hR, ro_69_62 hR, ro_69_63 hR, ro_69_64 hR, ro_69_65 hR, ro_69_66 hR, sh_69, sh_70, sh_71, sh_72, sh_73, sh_74, sh_75, sh_76, sh_77, sh_78, sh_79, sh_80, sh_81, sh_82, sh_83, sh_84, sh_85, sh_86, sh_87, sh_88, sh_89, sh_90, sh_91, sh_92, sh_93, sh_94, sh_95, sh_96, sh_97, sh_98, sh_99, sh_100, sh_101, sh_102, sh_103, sh_104, sh_105, sh_106, sh_107, sh_108, sh_109, sh_110, sh_111, sh_112, sh_113, sh_114, sh_115, hl, hvw9, Nat.reduceLT, Nat.reduceAdd, Nat.reduceMul, ne_eq, Nat.reduceEqDiff, not_false_eq_true, or_true, true_or, or_false, false_or, and_true, true_and, and_self, Nat.reduceLeDiff, am_ci, am_cr, am_cn0, Option.toList_some, Option.toList_none, List.cons_append, List.nil_append, am_s0, am_s1, am_s1r, am_s2, am_s2r, am_s3r, nI_add, am_u_ne, am_u_at, am_u_n1, am_u_n2, am_w_ne, c_lineOf hR hN H2.rf (show smF (Wy (vtN σ (I 103) (I 8)) (p_C σ)) (p_C σ / 2 + 1) (7 - p_C σ / 2) < 2 ^ 30 by omega)]
  simp only [am_lv_of, rX13_half_57, true_and]
  exact ⟨σ, H2⟩
theorem s_jury {a b : Int32} (H : REL (n, I, L, R)) : sim X (d + 30) mX12_jury mX13_jury [some (.ref 0), some (.int a), some (.int b)] [some (.ref 69), some (.int a), some (.int b)] (n, I, L, R) := by
  obtain ⟨σ, H⟩ := H
  have hR := H.1.1
  have hN := H.1.N
  have hn := H.1.n
  have hl := am_lt hN
  have hvw9 := am_lw hN
  obtain ⟨S1, S2, S3, S4, S5, S6, S7, ws, S8, S9⟩ := id (show relS I σ from H.2.2.1)
  obtain ⟨o1, o2, o3, o4⟩ := id S3
  obtain ⟨b1, b2, b3, b4, bz, b5, b6, b7⟩ := id S2
  obtain ⟨f1, f2, f3, f4, f5, f6, f7, f8, f9, f10⟩ := id S1
  obtain ⟨w, K, cw, cp, c16, c15, c17, c18, c19, c20, c28, c29, cK, c30, cK12, cpl, cpr, cs, cv⟩ := id (show crs I 34 (p_P σ) (p_S σ) (I 103) from H.2.2.2.2.1)
  unfold sim
  have hp := pow10 o3
  by_cases hin : (decide (nI 0 ≤ a) && decide (a ≤ nI (p_C σ))) = true
  · obtain ⟨g1, g2⟩ := (in0_iff (by omega)).mp hin
    obtain ⟨m, -, hm, rfl⟩ := (in01 (by omega) (by omega)).mp hin
    have m8 : m < 8 := by omega
    have zm : ¬ nI 8 ≤ nI m := nI_ge m8 (by omega)
    simp only [am_lv_of, rX12_jury_0, rX12_jury_1, rX12_jury_4, rX12_jury_5, rX12_jury_6, rX12_jury_9, rX12_jury_12, rX12_jury_15, rX12_jury_16, rX12_jury_17, rX12_jury_18, rX12_jury_21, rX12_jury_22, rX12_jury_25, ro_0_0 hR, ro_0_3 hR, ro_0_4 hR, ro_0_5 hR, ro_0_6 hR, ro_0_7 hR, ro_0_8 hR, ro_0_9 hR, ro_0_10 hR, ro_0_11 hR, ro_2_6 hR, ro_2_7 hR, ro_2_8 hR, ro_2_9 hR, ro_2_10 hR, ro_2_11 hR, ro_2_12 hR, ro_2_13 hR, ro_9_0 hR, ro_9_1 hR, ro_9_2 hR, ro_14_0 hR, ro_14_1 hR, ro_14_2 hR, ro_14_7 hR, ro_15_0 hR, ro_15_1 hR, ro_15_2 hR, ro_15_3 hR, ro_20_6 hR, ro_20_7 hR, ro_20_8 hR, ro_20_9 hR, ro_20_10 hR, ro_20_11 hR, ro_20_12 hR, ro_20_13 hR, ro_27_0 hR, ro_27_1 hR, ro_27_2 hR, ro_32_0 hR, ro_32_1 hR, ro_34_10 hR, ro_34_11 hR, ro_34_12 hR, ro_34_13 hR, ro_39_0 hR, ro_39_1 hR, ro_42_0 hR, ro_42_1 hR, ro_47_0 hR, ro_47_1 hR, ro_47_2 hR, ro_47_3 hR, ro_55_0 hR, ro_55_1 hR, ro_55_2 hR, ro_57_0 hR, ro_57_1 hR, ro_57_2 hR, ro_57_3 hR, ro_57_4 hR, ro_57_5 hR, ro_57_8 hR, sh_0, sh_1, sh_2, sh_3, sh_4, sh_5, sh_6, sh_7, sh_8, sh_9, sh_10, sh_11, sh_12, sh_13, sh_14, sh_15, sh_16, sh_17, sh_18, sh_19, sh_20, sh_21, sh_22, sh_23, sh_24, sh_25, sh_26, sh_27, sh_28, sh_29, sh_30, sh_31, sh_32, sh_33, sh_34, sh_35, sh_36, sh_37, sh_38, sh_39, sh_40, sh_41, sh_42, sh_43, sh_44, sh_45, sh_46, sh_47, sh_48, sh_49, sh_50, sh_51, sh_52, sh_53, sh_54, sh_55, sh_56, sh_57, sh_58, sh_59, sh_60, sh_61, sh_62, sh_63, sh_64, sh_65, sh_66, sh_67, sh_68, hl, hvw9, Nat.reduceLT, Nat.reduceAdd, Nat.reduceMul, ne_eq, Nat.reduceEqDiff, not_false_eq_true, or_true, true_or, or_false, false_or, and_true, true_and, and_self, Nat.reduceLeDiff, am_ci, am_cr, am_cn0, Option.toList_some, Option.toList_none, List.cons_append, List.nil_append, am_s0, am_s1, am_s1r, am_s2, am_s2r, am_s3r, nI_add, am_u_ne, am_u_at, am_u_n1, am_u_n2, am_w_ne, ↓reduceIte, g1, g2, b3]
    refine c_poll hR hN hn S3 S2 cw c16 cp (fun I1 k1 w1 a1 => ?_)
    have H1 := H.scr (pl_scr k1)
    have h0 : 0 < 10 ^ p_C σ := Nat.pow_pos (by omega)
    have hWb := Wy_le (vt := vtN σ (I 103) (I 8)) (fun c => (vtN_ok c).1) (p_C σ) m
    simp only [am_lv_of, Option.toList_none, List.nil_append, rX12_jury_28, rX12_jury_29, rX12_jury_32, rX12_jury_33, rX12_jury_36, rX12_jury_37, rX12_jury_40, rX5_waysOf_0, rX5_waysOf_1, rX5_waysOf_4, rX5_waysOf_5, rX5_waysOf_6, rX5_waysOf_9, rX5_waysOf_10, rX5_waysOf_13, rX5_waysOf_14, rX5_waysOf_17, rX5_waysOf_18, rX5_waysOf_19, rX5_waysOf_22, rX5_waysOf_23, ro_0_0 hR, ro_0_3 hR, ro_0_4 hR, ro_0_5 hR, ro_0_6 hR, ro_0_7 hR, ro_0_8 hR, ro_0_9 hR, ro_0_10 hR, ro_0_11 hR, ro_2_6 hR, ro_2_7 hR, ro_2_8 hR, ro_2_9 hR, ro_2_10 hR, ro_2_11 hR, ro_2_12 hR, ro_2_13 hR, ro_9_0 hR, ro_9_1 hR, ro_9_2 hR, ro_14_0 hR, ro_14_1 hR, ro_14_2 hR, ro_14_7 hR, ro_15_0 hR, ro_15_1 hR, ro_15_2 hR, ro_15_3 hR, ro_20_6 hR, ro_20_7 hR, ro_20_8 hR, ro_20_9 hR, ro_20_10 hR, ro_20_11 hR, ro_20_12 hR, ro_20_13 hR, ro_27_0 hR, ro_27_1 hR, ro_27_2 hR, ro_32_0 hR, ro_32_1 hR, ro_34_10 hR, ro_34_11 hR, ro_34_12 hR, ro_34_13 hR, ro_39_0 hR, ro_39_1 hR, ro_42_0 hR, ro_42_1 hR, ro_47_0 hR, ro_47_1 hR, ro_47_2 hR, ro_47_3 hR, ro_55_0 hR, ro_55_1 hR, ro_55_2 hR, ro_57_0 hR, ro_57_1 hR, ro_57_2 hR, ro_57_3 hR, ro_57_4 hR, ro_57_5 hR, ro_57_8 hR, sh_0, sh_1, sh_2, sh_3, sh_4, sh_5, sh_6, sh_7, sh_8, sh_9, sh_10, sh_11, sh_12, sh_13, sh_14, sh_15, sh_16, sh_17, sh_18, sh_19, sh_20, sh_21, sh_22, sh_23, sh_24, sh_25, sh_26, sh_27, sh_28, sh_29, sh_30, sh_31, sh_32, sh_33, sh_34, sh_35, sh_36, sh_37, sh_38, sh_39, sh_40, sh_41, sh_42, sh_43, sh_44, sh_45, sh_46, sh_47, sh_48, sh_49, sh_50, sh_51, sh_52, sh_53, sh_54, sh_55, sh_56, sh_57, sh_58, sh_59, sh_60, sh_61, sh_62, sh_63, sh_64, sh_65, sh_66, sh_67, sh_68, hl, hvw9, Nat.reduceLT, Nat.reduceAdd, Nat.reduceMul, ne_eq, Nat.reduceEqDiff, not_false_eq_true, or_true, true_or, or_false, false_or, and_true, true_and, and_self, Nat.reduceLeDiff, am_ci, am_cr, am_cn0, Option.toList_some, Option.toList_none, List.cons_append, List.nil_append, am_s0, am_s1, am_s1r, am_s2, am_s2r, am_s3r, nI_add, am_u_ne, am_u_at, am_u_n1, am_u_n2, am_w_ne, ↓reduceIte, g1, zm, m8, w1 m m8]
    simp only [am_lv_of, rX12_jury_41, sh_55, hl, hvw9, Nat.reduceLT, Nat.reduceAdd, Nat.reduceMul, ne_eq, Nat.reduceEqDiff, not_false_eq_true, or_true, true_or, or_false, false_or, and_true, true_and, and_self, Nat.reduceLeDiff, am_ci, am_cr, am_cn0, Option.toList_some, Option.toList_none, List.cons_append, List.nil_append, am_s0, am_s1, am_s1r, am_s2, am_s2r, am_s3r, nI_add, am_u_ne, am_u_at, am_u_n1, am_u_n2, am_w_ne]
    rw [c_share hN a1 h0 (by omega) (by omega)]
    simp only [am_lv_of, Option.toList_some, List.cons_append, List.nil_append, rX12_jury_44]
    obtain ⟨f1', f2', -, -, -, -, f7', -⟩ := H1.rf
    simp only [am_lv_of, rX13_jury_0, rX13_jury_1, rX13_jury_2, rX13_jury_3, rX13_jury_6, rX13_jury_7, rX13_jury_10, rX13_jury_11, rX13_jury_14, rX13_jury_17, rX13_jury_18, rX13_jury_19, rX13_jury_20, ro_69_1 hR, ro_69_3 hR, ro_69_5 hR, ro_69_6 hR, ro_69_7 hR, ro_69_8 hR, ro_69_9 hR, ro_69_21 hR, ro_69_22 hR, ro_69_23 hR, ro_69_24 hR, ro_69_25 hR, ro_69_26 hR, ro_69_27 hR, ro_69_28 hR, ro_69_29 hR, ro_69_30 hR, ro_69_31 hR, ro_69_32 hR, ro_69_33 hR, ro_69_34 hR, ro_69_35 hR, ro_69_36 hR, ro_69_38 hR, ro_69_39 hR, ro_69_40 hR, ro_69_41 hR, ro_69_42 hR, ro_69_44 hR, ro_69_45 hR, ro_69_46 hR, ro_69_48 hR, ro_69_49 hR, ro_69_51 hR, ro_69_52 hR, ro_69_55 hR, ro_69_56 hR, ro_69_57 hR, ro_69_58 hR, ro_69_59 hR, ro_69_61 hR, ro_69_62 hR, ro_69_63 hR, ro_69_64 hR, ro_69_65 hR, ro_69_66 hR, sh_69, sh_70, sh_71, sh_72, sh_73, sh_74, sh_75, sh_76, sh_77, sh_78, sh_79, sh_80, sh_81, sh_82, sh_83, sh_84, sh_85, sh_86, sh_87, sh_88, sh_89, sh_90, sh_91, sh_92, sh_93, sh_94, sh_95, sh_96, sh_97, sh_98, sh_99, sh_100, sh_101, sh_102, sh_103, sh_104, sh_105, sh_106, sh_107, sh_108, sh_109, sh_110, sh_111, sh_112, sh_113, sh_114, sh_115, hl, hvw9, Nat.reduceLT, Nat.reduceAdd, Nat.reduceMul, ne_eq, Nat.reduceEqDiff, not_false_eq_true, or_true, true_or, or_false, false_or, and_true, true_and, and_self, Nat.reduceLeDiff, am_ci, am_cr, am_cn0, Option.toList_some, Option.toList_none, List.cons_append, List.nil_append, am_s0, am_s1, am_s1r, am_s2, am_s2r, am_s3r, nI_add, am_u_ne, am_u_at, am_u_n1, am_u_n2, am_w_ne, ↓reduceIte, f1', f2, f7', c_in, hin, b_t, not_false_eq_true]
    refine c_fv2 H1 (funext fun j => k1 103 j (by unfold plP skc; omega)) (fun c hc => by rw [k1 88 _ (by unfold plP skc; omega)]; exact (S7 c hc).symm) (fun I2 H2 w2 => ?_)
    simp only [am_lv_of, Option.toList_none, List.nil_append, rX13_jury_23, rX13_jury_24, rX13_jury_25, rX13_jury_28, rX13_jury_29, rX13_jury_30, rX13_jury_31, ro_69_1 hR, ro_69_3 hR, ro_69_5 hR, ro_69_6 hR, ro_69_7 hR, ro_69_8 hR, ro_69_9 hR, ro_69_21 hR, ro_69_22 hR, ro_69_23 hR, ro_69_24 hR, ro_69_25 hR, ro_69_26 hR, ro_69_27 hR, ro_69_28 hR, ro_69_29 hR, ro_69_30 hR, ro_69_31 hR, ro_69_32 hR, ro_69_33 hR, ro_69_34 hR, ro_69_35 hR, ro_69_36 hR, ro_69_38 hR, ro_69_39 hR, ro_69_40 hR, ro_69_41 hR, ro_69_42 hR, ro_69_44 hR, ro_69_45 hR, ro_69_46 hR, ro_69_48 hR, ro_69_49 hR, ro_69_51 hR, ro_69_52 hR, ro_69_55 hR, ro_69_56 hR, ro_69_57 hR, ro_69_58 hR, ro_69_59 hR, ro_69_61 hR, ro_69_62 hR, ro_69_63 hR, ro_69_64 hR, ro_69_65 hR, ro_69_66 hR, sh_69, sh_70, sh_71, sh_72, sh_73, sh_74, sh_75, sh_76, sh_77, sh_78, sh_79, sh_80, sh_81, sh_82, sh_83, sh_84, sh_85, sh_86, sh_87, sh_88, sh_89, sh_90, sh_91, sh_92, sh_93, sh_94, sh_95, sh_96, sh_97, sh_98, sh_99, sh_100, sh_101, sh_102, sh_103, sh_104, sh_105, sh_106, sh_107, sh_108, sh_109, sh_110, sh_111, sh_112, sh_113, sh_114, sh_115, hl, hvw9, Nat.reduceLT, Nat.reduceAdd, Nat.reduceMul, ne_eq, Nat.reduceEqDiff, not_false_eq_true, or_true, true_or, or_false, false_or, and_true, true_and, and_self, Nat.reduceLeDiff, am_ci, am_cr, am_cn0, Option.toList_some, Option.toList_none, List.cons_append, List.nil_append, am_s0, am_s1, am_s1r, am_s2, am_s2r, am_s3r, nI_add, am_u_ne, am_u_at, am_u_n1, am_u_n2, am_w_ne, m8, w2 m m8, c_lineOf hR hN H2.rf (show Wy (vtN σ (I 103) (I 8)) (p_C σ) m < 2 ^ 30 by omega)]
    simp only [am_lv_of, rX13_jury_34, true_and]
    exact ⟨σ, H2⟩
  · have hf : (decide (nI 0 ≤ a) && decide (a ≤ nI (p_C σ))) = false := by simpa using hin
    have e : am_E X (d + 30) mX13_jury 0 [some (.ref 69), some (.int a), some (.int b)] [] (n, I, L, R) (fun v' M2 => some (.int (-1)) = v' ∧ REL M2) := by
      simp only [am_lv_of, rX13_jury_0, rX13_jury_1, rX13_jury_2, rX13_jury_3, rX13_jury_6, rX13_jury_7, rX13_jury_10, rX13_jury_11, rX13_jury_14, rX13_jury_17, rX13_jury_18, ro_69_1 hR, ro_69_3 hR, ro_69_5 hR, ro_69_6 hR, ro_69_7 hR, ro_69_8 hR, ro_69_9 hR, ro_69_21 hR, ro_69_22 hR, ro_69_23 hR, ro_69_24 hR, ro_69_25 hR, ro_69_26 hR, ro_69_27 hR, ro_69_28 hR, ro_69_29 hR, ro_69_30 hR, ro_69_31 hR, ro_69_32 hR, ro_69_33 hR, ro_69_34 hR, ro_69_35 hR, ro_69_36 hR, ro_69_38 hR, ro_69_39 hR, ro_69_40 hR, ro_69_41 hR, ro_69_42 hR, ro_69_44 hR, ro_69_45 hR, ro_69_46 hR, ro_69_48 hR, ro_69_49 hR, ro_69_51 hR, ro_69_52 hR, ro_69_55 hR, ro_69_56 hR, ro_69_57 hR, ro_69_58 hR, ro_69_59 hR, ro_69_61 hR, ro_69_62 hR, ro_69_63 hR, ro_69_64 hR, ro_69_65 hR, ro_69_66 hR, sh_69, sh_70, sh_71, sh_72, sh_73, sh_74, sh_75, sh_76, sh_77, sh_78, sh_79, sh_80, sh_81, sh_82, sh_83, sh_84, sh_85, sh_86, sh_87, sh_88, sh_89, sh_90, sh_91, sh_92, sh_93, sh_94, sh_95, sh_96, sh_97, sh_98, sh_99, sh_100, sh_101, sh_102, sh_103, sh_104, sh_105, sh_106, sh_107, sh_108, sh_109, sh_110, sh_111, sh_112, sh_113, sh_114, sh_115, hl, hvw9, Nat.reduceLT, Nat.reduceAdd, Nat.reduceMul, ne_eq, Nat.reduceEqDiff, not_false_eq_true, or_true, true_or, or_false, false_or, and_true, true_and, and_self, Nat.reduceLeDiff, am_ci, am_cr, am_cn0, Option.toList_some, Option.toList_none, List.cons_append, List.nil_append, am_s0, am_s1, am_s1r, am_s2, am_s2r, am_s3r, nI_add, am_u_ne, am_u_at, am_u_n1, am_u_n2, am_w_ne, ↓reduceIte, f1, f2, f7, c_in, hf, b_f, not_true_eq_false]
      exact ⟨σ, H⟩
    by_cases g1 : a < 0
    · simp only [am_lv_of, rX12_jury_0, rX12_jury_1, rX12_jury_4, rX12_jury_5, rX12_jury_6, rX12_jury_9, rX12_jury_12, rX12_jury_15, rX12_jury_16, ro_0_0 hR, ro_0_3 hR, ro_0_4 hR, ro_0_5 hR, ro_0_6 hR, ro_0_7 hR, ro_0_8 hR, ro_0_9 hR, ro_0_10 hR, ro_0_11 hR, ro_2_6 hR, ro_2_7 hR, ro_2_8 hR, ro_2_9 hR, ro_2_10 hR, ro_2_11 hR, ro_2_12 hR, ro_2_13 hR, ro_9_0 hR, ro_9_1 hR, ro_9_2 hR, ro_14_0 hR, ro_14_1 hR, ro_14_2 hR, ro_14_7 hR, ro_15_0 hR, ro_15_1 hR, ro_15_2 hR, ro_15_3 hR, ro_20_6 hR, ro_20_7 hR, ro_20_8 hR, ro_20_9 hR, ro_20_10 hR, ro_20_11 hR, ro_20_12 hR, ro_20_13 hR, ro_27_0 hR, ro_27_1 hR, ro_27_2 hR, ro_32_0 hR, ro_32_1 hR, ro_34_10 hR, ro_34_11 hR, ro_34_12 hR, ro_34_13 hR, ro_39_0 hR, ro_39_1 hR, ro_42_0 hR, ro_42_1 hR, ro_47_0 hR, ro_47_1 hR, ro_47_2 hR, ro_47_3 hR, ro_55_0 hR, ro_55_1 hR, ro_55_2 hR, ro_57_0 hR, ro_57_1 hR, ro_57_2 hR, ro_57_3 hR, ro_57_4 hR, ro_57_5 hR, ro_57_8 hR, sh_0, sh_1, sh_2, sh_3, sh_4, sh_5, sh_6, sh_7, sh_8, sh_9, sh_10, sh_11, sh_12, sh_13, sh_14, sh_15, sh_16, sh_17, sh_18, sh_19, sh_20, sh_21, sh_22, sh_23, sh_24, sh_25, sh_26, sh_27, sh_28, sh_29, sh_30, sh_31, sh_32, sh_33, sh_34, sh_35, sh_36, sh_37, sh_38, sh_39, sh_40, sh_41, sh_42, sh_43, sh_44, sh_45, sh_46, sh_47, sh_48, sh_49, sh_50, sh_51, sh_52, sh_53, sh_54, sh_55, sh_56, sh_57, sh_58, sh_59, sh_60, sh_61, sh_62, sh_63, sh_64, sh_65, sh_66, sh_67, sh_68, hl, hvw9, Nat.reduceLT, Nat.reduceAdd, Nat.reduceMul, ne_eq, Nat.reduceEqDiff, not_false_eq_true, or_true, true_or, or_false, false_or, and_true, true_and, and_self, Nat.reduceLeDiff, am_ci, am_cr, am_cn0, Option.toList_some, Option.toList_none, List.cons_append, List.nil_append, am_s0, am_s1, am_s1r, am_s2, am_s2r, am_s3r, nI_add, am_u_ne, am_u_at, am_u_n1, am_u_n2, am_w_ne, ↓reduceIte, g1]
      exact e
    · have g2 : ¬ a ≤ nI (p_C σ) := fun z => hin ((in0_iff (by omega)).mpr ⟨g1, z⟩)
      simp only [am_lv_of, rX12_jury_0, rX12_jury_1, rX12_jury_4, rX12_jury_5, rX12_jury_6, rX12_jury_9, rX12_jury_12, rX12_jury_15, rX12_jury_16, ro_0_0 hR, ro_0_3 hR, ro_0_4 hR, ro_0_5 hR, ro_0_6 hR, ro_0_7 hR, ro_0_8 hR, ro_0_9 hR, ro_0_10 hR, ro_0_11 hR, ro_2_6 hR, ro_2_7 hR, ro_2_8 hR, ro_2_9 hR, ro_2_10 hR, ro_2_11 hR, ro_2_12 hR, ro_2_13 hR, ro_9_0 hR, ro_9_1 hR, ro_9_2 hR, ro_14_0 hR, ro_14_1 hR, ro_14_2 hR, ro_14_7 hR, ro_15_0 hR, ro_15_1 hR, ro_15_2 hR, ro_15_3 hR, ro_20_6 hR, ro_20_7 hR, ro_20_8 hR, ro_20_9 hR, ro_20_10 hR, ro_20_11 hR, ro_20_12 hR, ro_20_13 hR, ro_27_0 hR, ro_27_1 hR, ro_27_2 hR, ro_32_0 hR, ro_32_1 hR, ro_34_10 hR, ro_34_11 hR, ro_34_12 hR, ro_34_13 hR, ro_39_0 hR, ro_39_1 hR, ro_42_0 hR, ro_42_1 hR, ro_47_0 hR, ro_47_1 hR, ro_47_2 hR, ro_47_3 hR, ro_55_0 hR, ro_55_1 hR, ro_55_2 hR, ro_57_0 hR, ro_57_1 hR, ro_57_2 hR, ro_57_3 hR, ro_57_4 hR, ro_57_5 hR, ro_57_8 hR, sh_0, sh_1, sh_2, sh_3, sh_4, sh_5, sh_6, sh_7, sh_8, sh_9, sh_10, sh_11, sh_12, sh_13, sh_14, sh_15, sh_16, sh_17, sh_18, sh_19, sh_20, sh_21, sh_22, sh_23, sh_24, sh_25, sh_26, sh_27, sh_28, sh_29, sh_30, sh_31, sh_32, sh_33, sh_34, sh_35, sh_36, sh_37, sh_38, sh_39, sh_40, sh_41, sh_42, sh_43, sh_44, sh_45, sh_46, sh_47, sh_48, sh_49, sh_50, sh_51, sh_52, sh_53, sh_54, sh_55, sh_56, sh_57, sh_58, sh_59, sh_60, sh_61, sh_62, sh_63, sh_64, sh_65, sh_66, sh_67, sh_68, hl, hvw9, Nat.reduceLT, Nat.reduceAdd, Nat.reduceMul, ne_eq, Nat.reduceEqDiff, not_false_eq_true, or_true, true_or, or_false, false_or, and_true, true_and, and_self, Nat.reduceLeDiff, am_ci, am_cr, am_cn0, Option.toList_some, Option.toList_none, List.cons_append, List.nil_append, am_s0, am_s1, am_s1r, am_s2, am_s2r, am_s3r, nI_add, am_u_ne, am_u_at, am_u_n1, am_u_n2, am_w_ne, ↓reduceIte, g1, g2, b3]
      exact e
end JU
