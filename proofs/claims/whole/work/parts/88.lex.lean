--! 87
/-! TEXTS: tokens, pure -/
/-- a text: how long, the codes of its bytes -/
abbrev txt : Type := Nat × (Nat → Nat)
def xL (x : txt) (j : Nat) : Bool := decide (j < x.1 ∧ 97 ≤ x.2 j ∧ x.2 j ≤ 122)
def xD (x : txt) (j : Nat) : Bool := decide (j < x.1 ∧ 48 ≤ x.2 j ∧ x.2 j ≤ 57)
def xB (x : txt) (j : Nat) : Bool := decide (j < x.1 ∧ (x.2 j = 9 ∨ x.2 j = 10 ∨ x.2 j = 13 ∨ x.2 j = 32))
def rnF (p : Nat → Bool) : Nat → Nat → Nat
  | 0, i => i
  | f + 1, i => if p i = true then rnF p f (i + 1) else i
/-- where a run ends -/
def rn (x : txt) (p : Nat → Bool) (i : Nat) : Nat := rnF p (x.1 - i) i
theorem rn_no {x : txt} {p : Nat → Bool} {i : Nat} (h : p i = false) : rn x p i = i := by
  unfold rn
  cases x.1 - i with
  | zero => rfl
  | succ f => rw [rnF, if_neg (by rw [h]; decide)]
theorem rn_yes {x : txt} {p : Nat → Bool} {i : Nat} (hp : p i = true) (hx : i < x.1) : rn x p i = rn x p (i + 1) := by
  unfold rn
  rw [show x.1 - i = (x.1 - (i + 1)) + 1 by omega, rnF, if_pos hp]
theorem rnF_ge {p : Nat → Bool} : ∀ f i, i ≤ rnF p f i ∧ rnF p f i ≤ i + f := by
  intro f
  induction f with
  | zero => intro i; exact ⟨Nat.le_refl _, Nat.le_refl _⟩
  | succ f ih =>
    intro i
    rw [rnF]
    split
    · have := ih (i + 1); omega
    · omega
theorem rn_ge {x : txt} {p : Nat → Bool} {i : Nat} : i ≤ rn x p i := (rnF_ge _ _).1
theorem rn_le {x : txt} {p : Nat → Bool} {i : Nat} (h : i ≤ x.1) : rn x p i ≤ x.1 := by
  have := (rnF_ge (p := p) (x.1 - i) i).2
  unfold rn
  omega
theorem rn_in {x : txt} {p : Nat → Bool} (hp : ∀ j, p j = true → j < x.1) : ∀ m i, x.1 - i = m → p (rn x p i) = false ∧ ∀ j, i ≤ j → j < rn x p i → p j = true := by
  intro m
  induction m with
  | zero =>
    intro i hi
    have h : p i = false := by
      cases h : p i with
      | false => rfl
      | true => have := hp i h; omega
    rw [rn_no h]
    exact ⟨h, fun j h1 h2 => by omega⟩
  | succ m ih =>
    intro i hi
    cases h : p i with
    | false => rw [rn_no h]; exact ⟨h, fun j h1 h2 => by omega⟩
    | true =>
      rw [rn_yes h (by omega)]
      obtain ⟨a1, a2⟩ := ih (i + 1) (by omega)
      refine ⟨a1, fun j h1 h2 => ?_⟩
      by_cases e : j = i
      · rw [e]; exact h
      · exact a2 j (by omega) h2
theorem xL_lt {x : txt} : ∀ j, xL x j = true → j < x.1 := fun j h => (of_decide_eq_true h).1
theorem xD_lt {x : txt} : ∀ j, xD x j = true → j < x.1 := fun j h => (of_decide_eq_true h).1
theorem xB_lt {x : txt} : ∀ j, xB x j = true → j < x.1 := fun j h => (of_decide_eq_true h).1
/-- the letters, the digits -/
def nmX (x : txt) (p e : Nat) : List Nat := (List.range (e - p)).map (fun j => x.2 (p + j) - 96)
def dgX (x : txt) (p e : Nat) : List Nat := (List.range (e - p)).map (fun j => x.2 (p + j) - 48)
theorem nmX_s {x : txt} {p e : Nat} (h : p ≤ e) : nmX x p (e + 1) = nmX x p e ++ [x.2 e - 96] := by
  unfold nmX
  rw [show e + 1 - p = (e - p) + 1 by omega, List.range_succ, List.map_append]
  simp only [List.map_cons, List.map_nil]
  rw [show p + (e - p) = e by omega]
theorem dgX_s {x : txt} {p e : Nat} (h : p ≤ e) : dgX x p (e + 1) = dgX x p e ++ [x.2 e - 48] := by
  unfold dgX
  rw [show e + 1 - p = (e - p) + 1 by omega, List.range_succ, List.map_append]
  simp only [List.map_cons, List.map_nil]
  rw [show p + (e - p) = e by omega]
theorem nmX_0 {x : txt} {p : Nat} : nmX x p p = [] := by unfold nmX; rw [Nat.sub_self]; rfl
theorem dgX_0 {x : txt} {p : Nat} : dgX x p p = [] := by unfold dgX; rw [Nat.sub_self]; rfl
theorem nmX_len {x : txt} {p e : Nat} : (nmX x p e).length = e - p := by unfold nmX; simp
theorem cdW_s {b : Nat} {l : List Nat} {c : Nat} : cdW b (l ++ [c]) = b * cdW b l + c := by
  unfold cdW
  rw [List.foldl_append]
  rfl
/-- the place of a token, its kind, what is behind it, its letters, its value -/
def tP (x : txt) (i : Nat) : Nat := rn x (xB x) i
def tK (x : txt) (i : Nat) : Nat := if x.1 ≤ tP x i then 22 else if xL x (tP x i) = true then (if 8 < rn x (xL x) (tP x i) - tP x i then 23 else wds.findIdx (fun l => l == nmX x (tP x i) (rn x (xL x) (tP x i)))) else if xD x (tP x i) = true then (if 4 < rn x (xD x) (tP x i) - tP x i then 23 else 21) else if isSg (x.2 (tP x i)) = true then x.2 (tP x i) else 23
def tN (x : txt) (i : Nat) : Nat := if x.1 ≤ tP x i then tP x i else if xL x (tP x i) = true then rn x (xL x) (tP x i) else if xD x (tP x i) = true then rn x (xD x) (tP x i) else tP x i + 1
def tM (x : txt) (i : Nat) : List Nat := nmX x (tP x i) (rn x (xL x) (tP x i))
def tV (x : txt) (i : Nat) : Nat := cdW 10 (dgX x (tP x i) (rn x (xD x) (tP x i)))
/-- the positions from which the tokens are read -/
def ps (x : txt) : Nat → Nat
  | 0 => 0
  | k + 1 => tN x (ps x k)
def kK (x : txt) (k : Nat) : Nat := tK x (ps x k)
def kP (x : txt) (k : Nat) : Nat := tP x (ps x k)
def kV (x : txt) (k : Nat) : Nat := tV x (ps x k)
def kM (x : txt) (k : Nat) : List Nat := tM x (ps x k)
theorem tN_le {x : txt} {i : Nat} (h : i ≤ x.1) : tN x i ≤ x.1 := by
  have h1 : tP x i ≤ x.1 := rn_le h
  unfold tN
  split
  · exact h1
  · split
    · exact rn_le h1
    · split
      · exact rn_le h1
      · omega
theorem ps_le {x : txt} : ∀ k, ps x k ≤ x.1 := by
  intro k
  induction k with
  | zero => exact Nat.zero_le _
  | succ k ih => exact tN_le ih
/-- signed bytes and their codes -/
def cdB (x : Int32) : Nat := x.toBitVec.toNat % 256
theorem cdB_and (x : Int32) : x &&& nI 255 = nI (cdB x) := pk_and x 8 (by decide)
theorem cdB_lt (x : Int32) : cdB x < 256 := Nat.mod_lt _ (by omega)
theorem cdB_of {x : Int32} (h : isB x) : (∃ c, c ≤ 127 ∧ x = nI c ∧ cdB x = c) ∨ (x < 0 ∧ 128 ≤ cdB x) := by
  have ht : x.toInt = x.toBitVec.toInt := rfl
  by_cases h0 : x < 0
  · right
    refine ⟨h0, ?_⟩
    have h1 := Int32.lt_iff_toInt_lt.mp h0
    have h2 : (0 : Int32).toInt = 0 := rfl
    unfold isB at h
    unfold cdB
    rw [ht, BitVec.toInt_eq_toNat_cond] at h h1
    have := x.toBitVec.isLt
    split at h <;> omega
  · left
    obtain ⟨c, hc, rfl⟩ := nI_of h0
    have h2 : (nI c).toInt = c := nI_toInt hc
    unfold isB at h
    have : c ≤ 127 := by omega
    refine ⟨c, this, rfl, ?_⟩
    unfold cdB
    rw [pk_tn (by omega)]
    omega
theorem cdB_lo {x : Int32} (h : isB x) {a : Nat} (ha : a ≤ 127) : x < nI a ↔ ¬ (a ≤ cdB x ∧ cdB x ≤ 127) := by
  rcases cdB_of h with ⟨c, c1, rfl, c2⟩ | ⟨c1, c2⟩
  · rw [nI_ltI (by omega) (by omega), c2]; omega
  · constructor
    · intro _; omega
    · intro _
      have h1 := Int32.lt_iff_toInt_lt.mp c1
      have h2 : (nI a).toInt = a := nI_toInt (by omega)
      have h3 : (0 : Int32).toInt = 0 := rfl
      exact Int32.lt_iff_toInt_lt.mpr (by omega)
theorem cdB_hi {x : Int32} (h : isB x) {a : Nat} (ha : a ≤ 127) : nI a < x ↔ (a < cdB x ∧ cdB x ≤ 127) := by
  rcases cdB_of h with ⟨c, c1, rfl, c2⟩ | ⟨c1, c2⟩
  · rw [nI_ltI (by omega) (by omega), c2]; omega
  · constructor
    · intro z
      have h1 := Int32.lt_iff_toInt_lt.mp c1
      have h4 := Int32.lt_iff_toInt_lt.mp z
      have h2 : (nI a).toInt = a := nI_toInt (by omega)
      have h3 : (0 : Int32).toInt = 0 := rfl
      omega
    · intro _; omega
theorem cdB_eq {x : Int32} (h : isB x) {a : Nat} (ha : a ≤ 127) : x = nI a ↔ cdB x = a := by
  rcases cdB_of h with ⟨c, c1, rfl, c2⟩ | ⟨c1, c2⟩
  · rw [nI_eq (by omega) (by omega), c2]
  · constructor
    · intro z
      rw [z] at c1
      exact absurd c1 (nI_pos (by omega))
    · intro _; omega
/-- a text stands in a row of bytes -/
def txI (I : Nat → Nat → Int32) (c : Nat) (x : txt) : Prop := x.1 ≤ 2000 ∧ ∀ j, j < x.1 → isB (I c j) ∧ x.2 j = cdB (I c j)
theorem lN_shl5 (a : Nat) : lN a <<< ((nI 5).toInt64 &&& 63) = lN (32 * a) := by
  apply Int64.toBitVec_inj.mp
  have e : ((nI 5).toInt64 &&& 63) = 5 := by decide
  rw [e]
  apply BitVec.eq_of_toNat_eq
  have h1 : (lN a <<< (5 : Int64)).toBitVec = (lN a).toBitVec <<< (5 : Nat) := by
    show (lN a).toBitVec <<< ((5 : Int64).toBitVec.smod 64) = _
    rfl
  have bv : ∀ n, (lN n).toBitVec = BitVec.ofNat 64 n := fun n => rfl
  rw [h1, BitVec.toNat_shiftLeft, bv, bv, BitVec.toNat_ofNat, BitVec.toNat_ofNat, Nat.shiftLeft_eq]
  omega
def agL (L L' : Nat → Nat → Int64) : Prop := ∀ k j, ¬ (k = 15 ∧ j = 10) → L' k j = L k j
theorem agL.refl {L : Nat → Nat → Int64} : agL L L := fun _ _ _ => rfl
theorem agL.trans {L L' L'' : Nat → Nat → Int64} (h1 : agL L L') (h2 : agL L' L'') : agL L L'' := fun k j h => (h2 k j h).trans (h1 k j h)
theorem agL.u {L L' : Nat → Nat → Int64} {v : Int64} (h : agL L L') : agL L (am_u L' 15 10 v) := fun k j hk => by
  by_cases e : k = 15
  · subst e; rw [am_u_n2 (fun z => hk ⟨rfl, z⟩)]; exact h _ _ hk
  · rw [am_u_n1 e]; exact h _ _ hk
/-- what the class's tokens write -/
def tkP (k j : Nat) : Prop := k = 15 ∧ 6 ≤ j ∧ j ≤ 9
/-- the class's reader stands before position i -/
def tkA (I : Nat → Nat → Int32) (R : Nat → Nat → Option Nat) (x : txt) (i : Nat) : Prop := I 15 5 = nI x.1 ∧ I 15 6 = nI i ∧ R 15 4 = some 1 ∧ txI I 1 x ∧ i ≤ x.1
section LX
variable {X : am_X} {d n : Nat} {I : Nat → Nat → Int32} {L : Nat → Nat → Int64} {R : Nat → Nat → Option Nat} {Q : Option Value → am_M → Prop} {x : txt}
theorem txI.ag {J : Nat → Nat → Int32} {c : Nat} (h : txI I c x) (g : ∀ j, J c j = I c j) : txI J c x := ⟨h.1, fun j hj => by rw [g j]; exact h.2 j hj⟩
theorem tkA.rf {i : Nat} (h : tkA I R x i) : va_rf (R 15 4) = .ref 1 := by rw [h.2.2.1]; rfl
theorem c_isBlank {v : Int32} (h : isB v) : am_E X d mX11_isBlank 0 [some (.int v)] [] (n, I, L, R) Q ↔ Q (some (.int (bI (decide (cdB v = 9 ∨ cdB v = 10 ∨ cdB v = 13 ∨ cdB v = 32))))) (n, I, L, R) := by
  have q9 := cdB_eq h (a := 9) (by omega)
  have q10 := cdB_eq h (a := 10) (by omega)
  have q13 := cdB_eq h (a := 13) (by omega)
  have q32 := cdB_eq h (a := 32) (by omega)
  simp only [am_lv_of, rX11_isBlank_0, rX11_isBlank_1, rX11_isBlank_3, q9]
  by_cases c9 : cdB v = 9
  · rw [if_pos c9, decide_eq_true (Or.inl c9)]
    simp only [am_lv_of, rX11_isBlank_24, rX11_isBlank_25, rX11_isBlank_29_1, bI, if_true]
  · rw [if_neg c9]
    simp only [am_lv_of, rX11_isBlank_6, rX11_isBlank_7, rX11_isBlank_9, q10]
    by_cases c10 : cdB v = 10
    · rw [if_pos c10, decide_eq_true (Or.inr (Or.inl c10))]
      simp only [am_lv_of, rX11_isBlank_24, rX11_isBlank_25, rX11_isBlank_29_1, bI, if_true]
    · rw [if_neg c10]
      simp only [am_lv_of, rX11_isBlank_12, rX11_isBlank_13, rX11_isBlank_15, q13]
      by_cases c13 : cdB v = 13
      · rw [if_pos c13, decide_eq_true (Or.inr (Or.inr (Or.inl c13)))]
        simp only [am_lv_of, rX11_isBlank_24, rX11_isBlank_25, rX11_isBlank_29_1, bI, if_true]
      · rw [if_neg c13]
        simp only [am_lv_of, rX11_isBlank_18, rX11_isBlank_19, rX11_isBlank_21, q32]
        by_cases c32 : cdB v = 32
        · rw [if_neg (fun z => z c32), decide_eq_true (Or.inr (Or.inr (Or.inr c32)))]
          simp only [am_lv_of, rX11_isBlank_24, rX11_isBlank_25, rX11_isBlank_29_1, bI, if_true]
        · rw [if_pos c32, decide_eq_false (fun z => by omega)]
          simp only [am_lv_of, rX11_isBlank_28, rX11_isBlank_29_0, bI, Bool.false_eq_true, if_false]
theorem l_skipB {l1 : Option Value} (hR : am_OR R) (hN : 116 ≤ n) (hn : n ≤ 1000) : ∀ (m i : Nat) (J : Nat → Nat → Int32), x.1 - i = m → am_ag tkP I J → tkA J R x i → (∀ I', am_ag tkP I I' → tkA I' R x (rn x (xB x) i) → am_E X (d + 1) mX11_cutOne 39 [some (.ref 15), l1] [] (n, I', L, R) Q) → am_E X (d + 1) mX11_cutOne 0 [some (.ref 15), l1] [] (n, J, L, R) Q := by
  have hl := am_lt hN
  have hvw9 := am_lw hN
  intro m
  induction m with
  | zero =>
    intro i J hm hJ H hQ
    obtain ⟨h1, h2, h3, h4, h5⟩ := id H
    have hT := h4.1
    have c1 : nI x.1 ≤ nI i := nI_le (by omega) (by omega)
    have hno : xB x i = false := decide_eq_false (fun z => by omega)
    rw [rn_no hno] at hQ
    simp only [am_lv_of, rX11_cutOne_0, rX11_cutOne_1, rX11_cutOne_4, rX11_cutOne_5, rX11_cutOne_8, ro_0_0 hR, ro_0_3 hR, ro_0_4 hR, ro_0_5 hR, ro_0_6 hR, ro_0_7 hR, ro_0_8 hR, ro_0_9 hR, ro_0_10 hR, ro_0_11 hR, ro_2_6 hR, ro_2_7 hR, ro_2_8 hR, ro_2_9 hR, ro_2_10 hR, ro_2_11 hR, ro_2_12 hR, ro_2_13 hR, ro_9_0 hR, ro_9_1 hR, ro_9_2 hR, ro_14_0 hR, ro_14_1 hR, ro_14_2 hR, ro_14_7 hR, ro_15_0 hR, ro_15_1 hR, ro_15_2 hR, ro_15_3 hR, ro_20_6 hR, ro_20_7 hR, ro_20_8 hR, ro_20_9 hR, ro_20_10 hR, ro_20_11 hR, ro_20_12 hR, ro_20_13 hR, ro_27_0 hR, ro_27_1 hR, ro_27_2 hR, ro_32_0 hR, ro_32_1 hR, ro_34_10 hR, ro_34_11 hR, ro_34_12 hR, ro_34_13 hR, ro_39_0 hR, ro_39_1 hR, ro_42_0 hR, ro_42_1 hR, ro_47_0 hR, ro_47_1 hR, ro_47_2 hR, ro_47_3 hR, ro_55_0 hR, ro_55_1 hR, ro_55_2 hR, ro_57_0 hR, ro_57_1 hR, ro_57_2 hR, ro_57_3 hR, ro_57_4 hR, ro_57_5 hR, ro_57_8 hR, sh_0, sh_1, sh_2, sh_3, sh_4, sh_5, sh_6, sh_7, sh_8, sh_9, sh_10, sh_11, sh_12, sh_13, sh_14, sh_15, sh_16, sh_17, sh_18, sh_19, sh_20, sh_21, sh_22, sh_23, sh_24, sh_25, sh_26, sh_27, sh_28, sh_29, sh_30, sh_31, sh_32, sh_33, sh_34, sh_35, sh_36, sh_37, sh_38, sh_39, sh_40, sh_41, sh_42, sh_43, sh_44, sh_45, sh_46, sh_47, sh_48, sh_49, sh_50, sh_51, sh_52, sh_53, sh_54, sh_55, sh_56, sh_57, sh_58, sh_59, sh_60, sh_61, sh_62, sh_63, sh_64, sh_65, sh_66, sh_67, sh_68, hl, hvw9, Nat.reduceLT, Nat.reduceAdd, Nat.reduceMul, ne_eq, Nat.reduceEqDiff, not_false_eq_true, or_true, true_or, or_false, false_or, and_true, true_and, and_self, Nat.reduceLeDiff, am_ci, am_cr, am_cn0, Option.toList_some, Option.toList_none, List.cons_append, List.nil_append, am_s0, am_s1, am_s1r, am_s2, am_s2r, am_s3r, nI_add, am_u_ne, am_u_at, am_u_n1, am_u_n2, am_w_ne, ↓reduceIte, h1, h2, c1]
    exact hQ J hJ H
  | succ m ih =>
    intro i J hm hJ H hQ
    obtain ⟨h1, h2, h3, h4, h5⟩ := id H
    have hT := h4.1
    have c1 : ¬ nI x.1 ≤ nI i := nI_ge (by omega) (by omega)
    have i2 : i < 2000 := by omega
    obtain ⟨b1, b2⟩ := h4.2 i (by omega)
    rw [rX11_cutOne_0]
    simp only [am_lv_of, rX11_cutOne_1, rX11_cutOne_4, rX11_cutOne_5, rX11_cutOne_8, rX11_cutOne_11, rX11_cutOne_12, rX11_cutOne_15, rX11_cutOne_16, rX11_cutOne_19, rX11_cutOne_20, ro_0_0 hR, ro_0_3 hR, ro_0_4 hR, ro_0_5 hR, ro_0_6 hR, ro_0_7 hR, ro_0_8 hR, ro_0_9 hR, ro_0_10 hR, ro_0_11 hR, ro_2_6 hR, ro_2_7 hR, ro_2_8 hR, ro_2_9 hR, ro_2_10 hR, ro_2_11 hR, ro_2_12 hR, ro_2_13 hR, ro_9_0 hR, ro_9_1 hR, ro_9_2 hR, ro_14_0 hR, ro_14_1 hR, ro_14_2 hR, ro_14_7 hR, ro_15_0 hR, ro_15_1 hR, ro_15_2 hR, ro_15_3 hR, ro_20_6 hR, ro_20_7 hR, ro_20_8 hR, ro_20_9 hR, ro_20_10 hR, ro_20_11 hR, ro_20_12 hR, ro_20_13 hR, ro_27_0 hR, ro_27_1 hR, ro_27_2 hR, ro_32_0 hR, ro_32_1 hR, ro_34_10 hR, ro_34_11 hR, ro_34_12 hR, ro_34_13 hR, ro_39_0 hR, ro_39_1 hR, ro_42_0 hR, ro_42_1 hR, ro_47_0 hR, ro_47_1 hR, ro_47_2 hR, ro_47_3 hR, ro_55_0 hR, ro_55_1 hR, ro_55_2 hR, ro_57_0 hR, ro_57_1 hR, ro_57_2 hR, ro_57_3 hR, ro_57_4 hR, ro_57_5 hR, ro_57_8 hR, sh_0, sh_1, sh_2, sh_3, sh_4, sh_5, sh_6, sh_7, sh_8, sh_9, sh_10, sh_11, sh_12, sh_13, sh_14, sh_15, sh_16, sh_17, sh_18, sh_19, sh_20, sh_21, sh_22, sh_23, sh_24, sh_25, sh_26, sh_27, sh_28, sh_29, sh_30, sh_31, sh_32, sh_33, sh_34, sh_35, sh_36, sh_37, sh_38, sh_39, sh_40, sh_41, sh_42, sh_43, sh_44, sh_45, sh_46, sh_47, sh_48, sh_49, sh_50, sh_51, sh_52, sh_53, sh_54, sh_55, sh_56, sh_57, sh_58, sh_59, sh_60, sh_61, sh_62, sh_63, sh_64, sh_65, sh_66, sh_67, sh_68, hl, hvw9, Nat.reduceLT, Nat.reduceAdd, Nat.reduceMul, ne_eq, Nat.reduceEqDiff, not_false_eq_true, or_true, true_or, or_false, false_or, and_true, true_and, and_self, Nat.reduceLeDiff, am_ci, am_cr, am_cn0, Option.toList_some, Option.toList_none, List.cons_append, List.nil_append, am_s0, am_s1, am_s1r, am_s2, am_s2r, am_s3r, nI_add, am_u_ne, am_u_at, am_u_n1, am_u_n2, am_w_ne, ↓reduceIte, h1, h2, c1, H.rf, i2, c_isBlank b1, rX11_cutOne_23, bI_ne]
    by_cases hb : xB x i = true
    · have hb2 := (of_decide_eq_true hb).2
      rw [b2] at hb2
      rw [rn_yes hb (by omega)] at hQ
      simp only [am_lv_of, decide_eq_true hb2, Bool.true_eq_false, ↓reduceIte, rX11_cutOne_26, rX11_cutOne_27, rX11_cutOne_28, rX11_cutOne_31, rX11_cutOne_32, rX11_cutOne_33, rX11_cutOne_36, ro_0_0 hR, ro_0_3 hR, ro_0_4 hR, ro_0_5 hR, ro_0_6 hR, ro_0_7 hR, ro_0_8 hR, ro_0_9 hR, ro_0_10 hR, ro_0_11 hR, ro_2_6 hR, ro_2_7 hR, ro_2_8 hR, ro_2_9 hR, ro_2_10 hR, ro_2_11 hR, ro_2_12 hR, ro_2_13 hR, ro_9_0 hR, ro_9_1 hR, ro_9_2 hR, ro_14_0 hR, ro_14_1 hR, ro_14_2 hR, ro_14_7 hR, ro_15_0 hR, ro_15_1 hR, ro_15_2 hR, ro_15_3 hR, ro_20_6 hR, ro_20_7 hR, ro_20_8 hR, ro_20_9 hR, ro_20_10 hR, ro_20_11 hR, ro_20_12 hR, ro_20_13 hR, ro_27_0 hR, ro_27_1 hR, ro_27_2 hR, ro_32_0 hR, ro_32_1 hR, ro_34_10 hR, ro_34_11 hR, ro_34_12 hR, ro_34_13 hR, ro_39_0 hR, ro_39_1 hR, ro_42_0 hR, ro_42_1 hR, ro_47_0 hR, ro_47_1 hR, ro_47_2 hR, ro_47_3 hR, ro_55_0 hR, ro_55_1 hR, ro_55_2 hR, ro_57_0 hR, ro_57_1 hR, ro_57_2 hR, ro_57_3 hR, ro_57_4 hR, ro_57_5 hR, ro_57_8 hR, sh_0, sh_1, sh_2, sh_3, sh_4, sh_5, sh_6, sh_7, sh_8, sh_9, sh_10, sh_11, sh_12, sh_13, sh_14, sh_15, sh_16, sh_17, sh_18, sh_19, sh_20, sh_21, sh_22, sh_23, sh_24, sh_25, sh_26, sh_27, sh_28, sh_29, sh_30, sh_31, sh_32, sh_33, sh_34, sh_35, sh_36, sh_37, sh_38, sh_39, sh_40, sh_41, sh_42, sh_43, sh_44, sh_45, sh_46, sh_47, sh_48, sh_49, sh_50, sh_51, sh_52, sh_53, sh_54, sh_55, sh_56, sh_57, sh_58, sh_59, sh_60, sh_61, sh_62, sh_63, sh_64, sh_65, sh_66, sh_67, sh_68, hl, hvw9, Nat.reduceLT, Nat.reduceAdd, Nat.reduceMul, ne_eq, Nat.reduceEqDiff, not_false_eq_true, or_true, true_or, or_false, false_or, and_true, true_and, and_self, Nat.reduceLeDiff, am_ci, am_cr, am_cn0, Option.toList_some, Option.toList_none, List.cons_append, List.nil_append, am_s0, am_s1, am_s1r, am_s2, am_s2r, am_s3r, nI_add, am_u_ne, am_u_at, am_u_n1, am_u_n2, am_w_ne, hn, h2]
      refine ih (i + 1) _ (by omega) (hJ.u ⟨rfl, by omega, by omega⟩) ⟨?_, am_u_at, h3, h4.ag (fun j => am_u_n1 (by omega)), by omega⟩ hQ
      rw [am_u_n2 (by omega)]; exact h1
    · have hb : xB x i = false := by simpa using hb
      have hb2 : ¬ (cdB (J 1 i) = 9 ∨ cdB (J 1 i) = 10 ∨ cdB (J 1 i) = 13 ∨ cdB (J 1 i) = 32) := by
        rw [← b2]
        exact fun z => of_decide_eq_false hb ⟨by omega, z⟩
      rw [rn_no hb] at hQ
      simp only [decide_eq_false hb2, ↓reduceIte]
      exact hQ J hJ H
theorem l_letters {p : Nat} {l1 : Option Value} (hR : am_OR R) (hN : 116 ≤ n) (hn : n ≤ 1000) : ∀ (m i : Nat) (J : Nat → Nat → Int32) (K : Nat → Nat → Int64), x.1 - i = m → p ≤ i → am_ag tkP I J → agL L K → tkA J R x i → J 15 9 = nI p → K 15 10 = lN (cdW 32 (nmX x p i)) → (∀ I' L', am_ag tkP I I' → agL L L' → tkA I' R x (rn x (xL x) i) → I' 15 9 = nI p → L' 15 10 = lN (cdW 32 (nmX x p (rn x (xL x) i))) → am_E X d mX11_cutLetters 76 [some (.ref 15), l1] [] (n, I', L', R) Q) → am_E X d mX11_cutLetters 0 [some (.ref 15), l1] [] (n, J, K, R) Q := by
  have hl := am_lt hN
  have hvw9 := am_lw hN
  intro m
  induction m with
  | zero =>
    intro i J K hm hp hJ hK H h5 hc hQ
    obtain ⟨h1, h2, h3, h4, h6⟩ := id H
    have hT := h4.1
    have c1 : nI x.1 ≤ nI i := nI_le (by omega) (by omega)
    have hno : xL x i = false := decide_eq_false (fun z => by omega)
    rw [rn_no hno] at hQ
    simp only [am_lv_of, rX11_cutLetters_0, rX11_cutLetters_1, rX11_cutLetters_4, rX11_cutLetters_5, rX11_cutLetters_8, ro_0_0 hR, ro_0_3 hR, ro_0_4 hR, ro_0_5 hR, ro_0_6 hR, ro_0_7 hR, ro_0_8 hR, ro_0_9 hR, ro_0_10 hR, ro_0_11 hR, ro_2_6 hR, ro_2_7 hR, ro_2_8 hR, ro_2_9 hR, ro_2_10 hR, ro_2_11 hR, ro_2_12 hR, ro_2_13 hR, ro_9_0 hR, ro_9_1 hR, ro_9_2 hR, ro_14_0 hR, ro_14_1 hR, ro_14_2 hR, ro_14_7 hR, ro_15_0 hR, ro_15_1 hR, ro_15_2 hR, ro_15_3 hR, ro_20_6 hR, ro_20_7 hR, ro_20_8 hR, ro_20_9 hR, ro_20_10 hR, ro_20_11 hR, ro_20_12 hR, ro_20_13 hR, ro_27_0 hR, ro_27_1 hR, ro_27_2 hR, ro_32_0 hR, ro_32_1 hR, ro_34_10 hR, ro_34_11 hR, ro_34_12 hR, ro_34_13 hR, ro_39_0 hR, ro_39_1 hR, ro_42_0 hR, ro_42_1 hR, ro_47_0 hR, ro_47_1 hR, ro_47_2 hR, ro_47_3 hR, ro_55_0 hR, ro_55_1 hR, ro_55_2 hR, ro_57_0 hR, ro_57_1 hR, ro_57_2 hR, ro_57_3 hR, ro_57_4 hR, ro_57_5 hR, ro_57_8 hR, sh_0, sh_1, sh_2, sh_3, sh_4, sh_5, sh_6, sh_7, sh_8, sh_9, sh_10, sh_11, sh_12, sh_13, sh_14, sh_15, sh_16, sh_17, sh_18, sh_19, sh_20, sh_21, sh_22, sh_23, sh_24, sh_25, sh_26, sh_27, sh_28, sh_29, sh_30, sh_31, sh_32, sh_33, sh_34, sh_35, sh_36, sh_37, sh_38, sh_39, sh_40, sh_41, sh_42, sh_43, sh_44, sh_45, sh_46, sh_47, sh_48, sh_49, sh_50, sh_51, sh_52, sh_53, sh_54, sh_55, sh_56, sh_57, sh_58, sh_59, sh_60, sh_61, sh_62, sh_63, sh_64, sh_65, sh_66, sh_67, sh_68, hl, hvw9, Nat.reduceLT, Nat.reduceAdd, Nat.reduceMul, ne_eq, Nat.reduceEqDiff, not_false_eq_true, or_true, true_or, or_false, false_or, and_true, true_and, and_self, Nat.reduceLeDiff, am_ci, am_cr, am_cn0, Option.toList_some, Option.toList_none, List.cons_append, List.nil_append, am_s0, am_s1, am_s1r, am_s2, am_s2r, am_s3r, nI_add, am_u_ne, am_u_at, am_u_n1, am_u_n2, am_w_ne, ↓reduceIte, h1, h2, c1]
    exact hQ J K hJ hK H h5 hc
  | succ m ih =>
    intro i J K hm hp hJ hK H h5 hc hQ
    obtain ⟨h1, h2, h3, h4, h6⟩ := id H
    have hT := h4.1
    have c1 : ¬ nI x.1 ≤ nI i := nI_ge (by omega) (by omega)
    have i2 : i < 2000 := by omega
    obtain ⟨b1, b2⟩ := h4.2 i (by omega)
    have lo := cdB_lo b1 (a := 97) (by omega)
    have hi := cdB_hi b1 (a := 122) (by omega)
    rw [← b2] at lo hi
    rw [rX11_cutLetters_0]
    by_cases hb : xL x i = true
    · have hb2 := (of_decide_eq_true hb).2
      rw [rn_yes hb (by omega)] at hQ
      have k1 : ¬ J 1 i < nI 97 := fun z => lo.mp z ⟨hb2.1, by omega⟩
      have k2 : ¬ nI 122 < J 1 i := fun z => by have := hi.mp z; omega
      have ej : J 1 i = nI (x.2 i) := by
        rcases cdB_of b1 with ⟨c, q1, q2, q3⟩ | ⟨q1, q2⟩
        · rw [q2, b2, q3]
        · omega
      have s1 : nI (x.2 i) - nI 96 = nI (x.2 i - 96) := pk_sub (by omega)
      have s2 : (nI (x.2 i - 96)).toInt64 = lN (x.2 i - 96) := nI_l (by omega)
      rw [ej] at k1 k2
      simp only [am_lv_of, rX11_cutLetters_1, rX11_cutLetters_4, rX11_cutLetters_5, rX11_cutLetters_8, rX11_cutLetters_11, rX11_cutLetters_12, rX11_cutLetters_15, rX11_cutLetters_16, rX11_cutLetters_19, rX11_cutLetters_20, rX11_cutLetters_22, rX11_cutLetters_25, rX11_cutLetters_26, rX11_cutLetters_29, rX11_cutLetters_30, rX11_cutLetters_33, rX11_cutLetters_34, rX11_cutLetters_36, rX11_cutLetters_39, rX11_cutLetters_40, rX11_cutLetters_41, rX11_cutLetters_44, rX11_cutLetters_45, rX11_cutLetters_46, rX11_cutLetters_47, rX11_cutLetters_50, rX11_cutLetters_51, rX11_cutLetters_54, rX11_cutLetters_55, rX11_cutLetters_57, rX11_cutLetters_58, rX11_cutLetters_59, rX11_cutLetters_60, rX11_cutLetters_63, rX11_cutLetters_64, rX11_cutLetters_65, rX11_cutLetters_68, rX11_cutLetters_69, rX11_cutLetters_70, rX11_cutLetters_73, ro_0_0 hR, ro_0_3 hR, ro_0_4 hR, ro_0_5 hR, ro_0_6 hR, ro_0_7 hR, ro_0_8 hR, ro_0_9 hR, ro_0_10 hR, ro_0_11 hR, ro_2_6 hR, ro_2_7 hR, ro_2_8 hR, ro_2_9 hR, ro_2_10 hR, ro_2_11 hR, ro_2_12 hR, ro_2_13 hR, ro_9_0 hR, ro_9_1 hR, ro_9_2 hR, ro_14_0 hR, ro_14_1 hR, ro_14_2 hR, ro_14_7 hR, ro_15_0 hR, ro_15_1 hR, ro_15_2 hR, ro_15_3 hR, ro_20_6 hR, ro_20_7 hR, ro_20_8 hR, ro_20_9 hR, ro_20_10 hR, ro_20_11 hR, ro_20_12 hR, ro_20_13 hR, ro_27_0 hR, ro_27_1 hR, ro_27_2 hR, ro_32_0 hR, ro_32_1 hR, ro_34_10 hR, ro_34_11 hR, ro_34_12 hR, ro_34_13 hR, ro_39_0 hR, ro_39_1 hR, ro_42_0 hR, ro_42_1 hR, ro_47_0 hR, ro_47_1 hR, ro_47_2 hR, ro_47_3 hR, ro_55_0 hR, ro_55_1 hR, ro_55_2 hR, ro_57_0 hR, ro_57_1 hR, ro_57_2 hR, ro_57_3 hR, ro_57_4 hR, ro_57_5 hR, ro_57_8 hR, sh_0, sh_1, sh_2, sh_3, sh_4, sh_5, sh_6, sh_7, sh_8, sh_9, sh_10, sh_11, sh_12, sh_13, sh_14, sh_15, sh_16, sh_17, sh_18, sh_19, sh_20, sh_21, sh_22, sh_23, sh_24, sh_25, sh_26, sh_27, sh_28, sh_29, sh_30, sh_31, sh_32, sh_33, sh_34, sh_35, sh_36, sh_37, sh_38, sh_39, sh_40, sh_41, sh_42, sh_43, sh_44, sh_45, sh_46, sh_47, sh_48, sh_49, sh_50, sh_51, sh_52, sh_53, sh_54, sh_55, sh_56, sh_57, sh_58, sh_59, sh_60, sh_61, sh_62, sh_63, sh_64, sh_65, sh_66, sh_67, sh_68, hl, hvw9, Nat.reduceLT, Nat.reduceAdd, Nat.reduceMul, ne_eq, Nat.reduceEqDiff, not_false_eq_true, or_true, true_or, or_false, false_or, and_true, true_and, and_self, Nat.reduceLeDiff, am_ci, am_cr, am_cn0, Option.toList_some, Option.toList_none, List.cons_append, List.nil_append, am_s0, am_s1, am_s1r, am_s2, am_s2r, am_s3r, nI_add, am_u_ne, am_u_at, am_u_n1, am_u_n2, am_w_ne, ↓reduceIte, h1, h2, c1, H.rf, i2, ej, k1, k2, hn, hc, lN_shl5, s1, s2, lN_add]
      rw [← cdW_s, ← nmX_s hp]
      refine ih (i + 1) _ _ (by omega) (by omega) (hJ.u ⟨rfl, by omega, by omega⟩) hK.u ⟨?_, am_u_at, h3, h4.ag (fun j => am_u_n1 (by omega)), by omega⟩ ?_ am_u_at hQ
      · rw [am_u_n2 (by omega)]; exact h1
      · rw [am_u_n2 (by omega)]; exact h5
    · have hb : xL x i = false := by simpa using hb
      have hb2 : ¬ (97 ≤ x.2 i ∧ x.2 i ≤ 122) := fun z => of_decide_eq_false hb ⟨by omega, z⟩
      rw [rn_no hb] at hQ
      have fin := hQ J K hJ hK H h5 hc
      by_cases k1 : J 1 i < nI 97
      · simp only [am_lv_of, rX11_cutLetters_1, rX11_cutLetters_4, rX11_cutLetters_5, rX11_cutLetters_8, rX11_cutLetters_11, rX11_cutLetters_12, rX11_cutLetters_15, rX11_cutLetters_16, rX11_cutLetters_19, rX11_cutLetters_20, rX11_cutLetters_22, ro_0_0 hR, ro_0_3 hR, ro_0_4 hR, ro_0_5 hR, ro_0_6 hR, ro_0_7 hR, ro_0_8 hR, ro_0_9 hR, ro_0_10 hR, ro_0_11 hR, ro_2_6 hR, ro_2_7 hR, ro_2_8 hR, ro_2_9 hR, ro_2_10 hR, ro_2_11 hR, ro_2_12 hR, ro_2_13 hR, ro_9_0 hR, ro_9_1 hR, ro_9_2 hR, ro_14_0 hR, ro_14_1 hR, ro_14_2 hR, ro_14_7 hR, ro_15_0 hR, ro_15_1 hR, ro_15_2 hR, ro_15_3 hR, ro_20_6 hR, ro_20_7 hR, ro_20_8 hR, ro_20_9 hR, ro_20_10 hR, ro_20_11 hR, ro_20_12 hR, ro_20_13 hR, ro_27_0 hR, ro_27_1 hR, ro_27_2 hR, ro_32_0 hR, ro_32_1 hR, ro_34_10 hR, ro_34_11 hR, ro_34_12 hR, ro_34_13 hR, ro_39_0 hR, ro_39_1 hR, ro_42_0 hR, ro_42_1 hR, ro_47_0 hR, ro_47_1 hR, ro_47_2 hR, ro_47_3 hR, ro_55_0 hR, ro_55_1 hR, ro_55_2 hR, ro_57_0 hR, ro_57_1 hR, ro_57_2 hR, ro_57_3 hR, ro_57_4 hR, ro_57_5 hR, ro_57_8 hR, sh_0, sh_1, sh_2, sh_3, sh_4, sh_5, sh_6, sh_7, sh_8, sh_9, sh_10, sh_11, sh_12, sh_13, sh_14, sh_15, sh_16, sh_17, sh_18, sh_19, sh_20, sh_21, sh_22, sh_23, sh_24, sh_25, sh_26, sh_27, sh_28, sh_29, sh_30, sh_31, sh_32, sh_33, sh_34, sh_35, sh_36, sh_37, sh_38, sh_39, sh_40, sh_41, sh_42, sh_43, sh_44, sh_45, sh_46, sh_47, sh_48, sh_49, sh_50, sh_51, sh_52, sh_53, sh_54, sh_55, sh_56, sh_57, sh_58, sh_59, sh_60, sh_61, sh_62, sh_63, sh_64, sh_65, sh_66, sh_67, sh_68, hl, hvw9, Nat.reduceLT, Nat.reduceAdd, Nat.reduceMul, ne_eq, Nat.reduceEqDiff, not_false_eq_true, or_true, true_or, or_false, false_or, and_true, true_and, and_self, Nat.reduceLeDiff, am_ci, am_cr, am_cn0, Option.toList_some, Option.toList_none, List.cons_append, List.nil_append, am_s0, am_s1, am_s1r, am_s2, am_s2r, am_s3r, nI_add, am_u_ne, am_u_at, am_u_n1, am_u_n2, am_w_ne, ↓reduceIte, h1, h2, c1, H.rf, i2, k1]
        exact fin
      · have k2 : nI 122 < J 1 i := hi.mpr (by
          have : 97 ≤ x.2 i ∧ x.2 i ≤ 127 := Classical.byContradiction (fun z => k1 (lo.mpr z))
          omega)
        simp only [am_lv_of, rX11_cutLetters_1, rX11_cutLetters_4, rX11_cutLetters_5, rX11_cutLetters_8, rX11_cutLetters_11, rX11_cutLetters_12, rX11_cutLetters_15, rX11_cutLetters_16, rX11_cutLetters_19, rX11_cutLetters_20, rX11_cutLetters_22, rX11_cutLetters_25, rX11_cutLetters_26, rX11_cutLetters_29, rX11_cutLetters_30, rX11_cutLetters_33, rX11_cutLetters_34, rX11_cutLetters_36, ro_0_0 hR, ro_0_3 hR, ro_0_4 hR, ro_0_5 hR, ro_0_6 hR, ro_0_7 hR, ro_0_8 hR, ro_0_9 hR, ro_0_10 hR, ro_0_11 hR, ro_2_6 hR, ro_2_7 hR, ro_2_8 hR, ro_2_9 hR, ro_2_10 hR, ro_2_11 hR, ro_2_12 hR, ro_2_13 hR, ro_9_0 hR, ro_9_1 hR, ro_9_2 hR, ro_14_0 hR, ro_14_1 hR, ro_14_2 hR, ro_14_7 hR, ro_15_0 hR, ro_15_1 hR, ro_15_2 hR, ro_15_3 hR, ro_20_6 hR, ro_20_7 hR, ro_20_8 hR, ro_20_9 hR, ro_20_10 hR, ro_20_11 hR, ro_20_12 hR, ro_20_13 hR, ro_27_0 hR, ro_27_1 hR, ro_27_2 hR, ro_32_0 hR, ro_32_1 hR, ro_34_10 hR, ro_34_11 hR, ro_34_12 hR, ro_34_13 hR, ro_39_0 hR, ro_39_1 hR, ro_42_0 hR, ro_42_1 hR, ro_47_0 hR, ro_47_1 hR, ro_47_2 hR, ro_47_3 hR, ro_55_0 hR, ro_55_1 hR, ro_55_2 hR, ro_57_0 hR, ro_57_1 hR, ro_57_2 hR, ro_57_3 hR, ro_57_4 hR, ro_57_5 hR, ro_57_8 hR, sh_0, sh_1, sh_2, sh_3, sh_4, sh_5, sh_6, sh_7, sh_8, sh_9, sh_10, sh_11, sh_12, sh_13, sh_14, sh_15, sh_16, sh_17, sh_18, sh_19, sh_20, sh_21, sh_22, sh_23, sh_24, sh_25, sh_26, sh_27, sh_28, sh_29, sh_30, sh_31, sh_32, sh_33, sh_34, sh_35, sh_36, sh_37, sh_38, sh_39, sh_40, sh_41, sh_42, sh_43, sh_44, sh_45, sh_46, sh_47, sh_48, sh_49, sh_50, sh_51, sh_52, sh_53, sh_54, sh_55, sh_56, sh_57, sh_58, sh_59, sh_60, sh_61, sh_62, sh_63, sh_64, sh_65, sh_66, sh_67, sh_68, hl, hvw9, Nat.reduceLT, Nat.reduceAdd, Nat.reduceMul, ne_eq, Nat.reduceEqDiff, not_false_eq_true, or_true, true_or, or_false, false_or, and_true, true_and, and_self, Nat.reduceLeDiff, am_ci, am_cr, am_cn0, Option.toList_some, Option.toList_none, List.cons_append, List.nil_append, am_s0, am_s1, am_s1r, am_s2, am_s2r, am_s3r, nI_add, am_u_ne, am_u_at, am_u_n1, am_u_n2, am_w_ne, ↓reduceIte, h1, h2, c1, H.rf, i2, k1, k2]
        exact fin
theorem l_digits {p : Nat} (hR : am_OR R) (hN : 116 ≤ n) (hn : n ≤ 1000) : ∀ (m i : Nat) (J : Nat → Nat → Int32) (K : Nat → Nat → Int64), x.1 - i = m → p ≤ i → am_ag tkP I J → agL L K → tkA J R x i → J 15 9 = nI p → K 15 10 = lN (cdW 10 (dgX x p i)) → (∀ I' L', am_ag tkP I I' → agL L L' → tkA I' R x (rn x (xD x) i) → I' 15 9 = nI p → L' 15 10 = lN (cdW 10 (dgX x p (rn x (xD x) i))) → am_E X d mX11_cutDigits 78 [some (.ref 15)] [] (n, I', L', R) Q) → am_E X d mX11_cutDigits 0 [some (.ref 15)] [] (n, J, K, R) Q := by
  have hl := am_lt hN
  have hvw9 := am_lw hN
  intro m
  induction m with
  | zero =>
    intro i J K hm hp hJ hK H h5 hc hQ
    obtain ⟨h1, h2, h3, h4, h6⟩ := id H
    have hT := h4.1
    have c1 : nI x.1 ≤ nI i := nI_le (by omega) (by omega)
    have hno : xD x i = false := decide_eq_false (fun z => by omega)
    rw [rn_no hno] at hQ
    simp only [am_lv_of, rX11_cutDigits_0, rX11_cutDigits_1, rX11_cutDigits_4, rX11_cutDigits_5, rX11_cutDigits_8, ro_0_0 hR, ro_0_3 hR, ro_0_4 hR, ro_0_5 hR, ro_0_6 hR, ro_0_7 hR, ro_0_8 hR, ro_0_9 hR, ro_0_10 hR, ro_0_11 hR, ro_2_6 hR, ro_2_7 hR, ro_2_8 hR, ro_2_9 hR, ro_2_10 hR, ro_2_11 hR, ro_2_12 hR, ro_2_13 hR, ro_9_0 hR, ro_9_1 hR, ro_9_2 hR, ro_14_0 hR, ro_14_1 hR, ro_14_2 hR, ro_14_7 hR, ro_15_0 hR, ro_15_1 hR, ro_15_2 hR, ro_15_3 hR, ro_20_6 hR, ro_20_7 hR, ro_20_8 hR, ro_20_9 hR, ro_20_10 hR, ro_20_11 hR, ro_20_12 hR, ro_20_13 hR, ro_27_0 hR, ro_27_1 hR, ro_27_2 hR, ro_32_0 hR, ro_32_1 hR, ro_34_10 hR, ro_34_11 hR, ro_34_12 hR, ro_34_13 hR, ro_39_0 hR, ro_39_1 hR, ro_42_0 hR, ro_42_1 hR, ro_47_0 hR, ro_47_1 hR, ro_47_2 hR, ro_47_3 hR, ro_55_0 hR, ro_55_1 hR, ro_55_2 hR, ro_57_0 hR, ro_57_1 hR, ro_57_2 hR, ro_57_3 hR, ro_57_4 hR, ro_57_5 hR, ro_57_8 hR, sh_0, sh_1, sh_2, sh_3, sh_4, sh_5, sh_6, sh_7, sh_8, sh_9, sh_10, sh_11, sh_12, sh_13, sh_14, sh_15, sh_16, sh_17, sh_18, sh_19, sh_20, sh_21, sh_22, sh_23, sh_24, sh_25, sh_26, sh_27, sh_28, sh_29, sh_30, sh_31, sh_32, sh_33, sh_34, sh_35, sh_36, sh_37, sh_38, sh_39, sh_40, sh_41, sh_42, sh_43, sh_44, sh_45, sh_46, sh_47, sh_48, sh_49, sh_50, sh_51, sh_52, sh_53, sh_54, sh_55, sh_56, sh_57, sh_58, sh_59, sh_60, sh_61, sh_62, sh_63, sh_64, sh_65, sh_66, sh_67, sh_68, hl, hvw9, Nat.reduceLT, Nat.reduceAdd, Nat.reduceMul, ne_eq, Nat.reduceEqDiff, not_false_eq_true, or_true, true_or, or_false, false_or, and_true, true_and, and_self, Nat.reduceLeDiff, am_ci, am_cr, am_cn0, Option.toList_some, Option.toList_none, List.cons_append, List.nil_append, am_s0, am_s1, am_s1r, am_s2, am_s2r, am_s3r, nI_add, am_u_ne, am_u_at, am_u_n1, am_u_n2, am_w_ne, ↓reduceIte, h1, h2, c1]
    exact hQ J K hJ hK H h5 hc
  | succ m ih =>
    intro i J K hm hp hJ hK H h5 hc hQ
    obtain ⟨h1, h2, h3, h4, h6⟩ := id H
    have hT := h4.1
    have c1 : ¬ nI x.1 ≤ nI i := nI_ge (by omega) (by omega)
    have i2 : i < 2000 := by omega
    obtain ⟨b1, b2⟩ := h4.2 i (by omega)
    have lo := cdB_lo b1 (a := 48) (by omega)
    have hi := cdB_hi b1 (a := 57) (by omega)
    rw [← b2] at lo hi
    rw [rX11_cutDigits_0]
    by_cases hb : xD x i = true
    · have hb2 := (of_decide_eq_true hb).2
      rw [rn_yes hb (by omega)] at hQ
      have k1 : ¬ J 1 i < nI 48 := fun z => lo.mp z ⟨hb2.1, by omega⟩
      have k2 : ¬ nI 57 < J 1 i := fun z => by have := hi.mp z; omega
      have ej : J 1 i = nI (x.2 i) := by
        rcases cdB_of b1 with ⟨c, q1, q2, q3⟩ | ⟨q1, q2⟩
        · rw [q2, b2, q3]
        · omega
      have s1 : nI (x.2 i) - nI 48 = nI (x.2 i - 48) := pk_sub (by omega)
      have s2 : (nI (x.2 i - 48)).toInt64 = lN (x.2 i - 48) := nI_l (by omega)
      have e10 : (10 : Int64) = lN 10 := rfl
      rw [ej] at k1 k2
      simp only [am_lv_of, rX11_cutDigits_1, rX11_cutDigits_4, rX11_cutDigits_5, rX11_cutDigits_8, rX11_cutDigits_11, rX11_cutDigits_12, rX11_cutDigits_15, rX11_cutDigits_16, rX11_cutDigits_19, rX11_cutDigits_20, rX11_cutDigits_22, rX11_cutDigits_25, rX11_cutDigits_26, rX11_cutDigits_29, rX11_cutDigits_30, rX11_cutDigits_33, rX11_cutDigits_34, rX11_cutDigits_36, rX11_cutDigits_39, rX11_cutDigits_40, rX11_cutDigits_43, rX11_cutDigits_44, rX11_cutDigits_47, rX11_cutDigits_48, rX11_cutDigits_49, rX11_cutDigits_52, rX11_cutDigits_53, rX11_cutDigits_56, rX11_cutDigits_57, rX11_cutDigits_59, rX11_cutDigits_60, rX11_cutDigits_61, rX11_cutDigits_62, rX11_cutDigits_65, rX11_cutDigits_66, rX11_cutDigits_67, rX11_cutDigits_70, rX11_cutDigits_71, rX11_cutDigits_72, rX11_cutDigits_75, ro_0_0 hR, ro_0_3 hR, ro_0_4 hR, ro_0_5 hR, ro_0_6 hR, ro_0_7 hR, ro_0_8 hR, ro_0_9 hR, ro_0_10 hR, ro_0_11 hR, ro_2_6 hR, ro_2_7 hR, ro_2_8 hR, ro_2_9 hR, ro_2_10 hR, ro_2_11 hR, ro_2_12 hR, ro_2_13 hR, ro_9_0 hR, ro_9_1 hR, ro_9_2 hR, ro_14_0 hR, ro_14_1 hR, ro_14_2 hR, ro_14_7 hR, ro_15_0 hR, ro_15_1 hR, ro_15_2 hR, ro_15_3 hR, ro_20_6 hR, ro_20_7 hR, ro_20_8 hR, ro_20_9 hR, ro_20_10 hR, ro_20_11 hR, ro_20_12 hR, ro_20_13 hR, ro_27_0 hR, ro_27_1 hR, ro_27_2 hR, ro_32_0 hR, ro_32_1 hR, ro_34_10 hR, ro_34_11 hR, ro_34_12 hR, ro_34_13 hR, ro_39_0 hR, ro_39_1 hR, ro_42_0 hR, ro_42_1 hR, ro_47_0 hR, ro_47_1 hR, ro_47_2 hR, ro_47_3 hR, ro_55_0 hR, ro_55_1 hR, ro_55_2 hR, ro_57_0 hR, ro_57_1 hR, ro_57_2 hR, ro_57_3 hR, ro_57_4 hR, ro_57_5 hR, ro_57_8 hR, sh_0, sh_1, sh_2, sh_3, sh_4, sh_5, sh_6, sh_7, sh_8, sh_9, sh_10, sh_11, sh_12, sh_13, sh_14, sh_15, sh_16, sh_17, sh_18, sh_19, sh_20, sh_21, sh_22, sh_23, sh_24, sh_25, sh_26, sh_27, sh_28, sh_29, sh_30, sh_31, sh_32, sh_33, sh_34, sh_35, sh_36, sh_37, sh_38, sh_39, sh_40, sh_41, sh_42, sh_43, sh_44, sh_45, sh_46, sh_47, sh_48, sh_49, sh_50, sh_51, sh_52, sh_53, sh_54, sh_55, sh_56, sh_57, sh_58, sh_59, sh_60, sh_61, sh_62, sh_63, sh_64, sh_65, sh_66, sh_67, sh_68, hl, hvw9, Nat.reduceLT, Nat.reduceAdd, Nat.reduceMul, ne_eq, Nat.reduceEqDiff, not_false_eq_true, or_true, true_or, or_false, false_or, and_true, true_and, and_self, Nat.reduceLeDiff, am_ci, am_cr, am_cn0, Option.toList_some, Option.toList_none, List.cons_append, List.nil_append, am_s0, am_s1, am_s1r, am_s2, am_s2r, am_s3r, nI_add, am_u_ne, am_u_at, am_u_n1, am_u_n2, am_w_ne, ↓reduceIte, h1, h2, c1, H.rf, i2, ej, k1, k2, hn, hc, e10, lN_mul, s1, s2, lN_add]
      rw [← cdW_s, ← dgX_s hp]
      refine ih (i + 1) _ _ (by omega) (by omega) (hJ.u ⟨rfl, by omega, by omega⟩) hK.u ⟨?_, am_u_at, h3, h4.ag (fun j => am_u_n1 (by omega)), by omega⟩ ?_ am_u_at hQ
      · rw [am_u_n2 (by omega)]; exact h1
      · rw [am_u_n2 (by omega)]; exact h5
    · have hb : xD x i = false := by simpa using hb
      have hb2 : ¬ (48 ≤ x.2 i ∧ x.2 i ≤ 57) := fun z => of_decide_eq_false hb ⟨by omega, z⟩
      rw [rn_no hb] at hQ
      have fin := hQ J K hJ hK H h5 hc
      by_cases k1 : J 1 i < nI 48
      · simp only [am_lv_of, rX11_cutDigits_1, rX11_cutDigits_4, rX11_cutDigits_5, rX11_cutDigits_8, rX11_cutDigits_11, rX11_cutDigits_12, rX11_cutDigits_15, rX11_cutDigits_16, rX11_cutDigits_19, rX11_cutDigits_20, rX11_cutDigits_22, ro_0_0 hR, ro_0_3 hR, ro_0_4 hR, ro_0_5 hR, ro_0_6 hR, ro_0_7 hR, ro_0_8 hR, ro_0_9 hR, ro_0_10 hR, ro_0_11 hR, ro_2_6 hR, ro_2_7 hR, ro_2_8 hR, ro_2_9 hR, ro_2_10 hR, ro_2_11 hR, ro_2_12 hR, ro_2_13 hR, ro_9_0 hR, ro_9_1 hR, ro_9_2 hR, ro_14_0 hR, ro_14_1 hR, ro_14_2 hR, ro_14_7 hR, ro_15_0 hR, ro_15_1 hR, ro_15_2 hR, ro_15_3 hR, ro_20_6 hR, ro_20_7 hR, ro_20_8 hR, ro_20_9 hR, ro_20_10 hR, ro_20_11 hR, ro_20_12 hR, ro_20_13 hR, ro_27_0 hR, ro_27_1 hR, ro_27_2 hR, ro_32_0 hR, ro_32_1 hR, ro_34_10 hR, ro_34_11 hR, ro_34_12 hR, ro_34_13 hR, ro_39_0 hR, ro_39_1 hR, ro_42_0 hR, ro_42_1 hR, ro_47_0 hR, ro_47_1 hR, ro_47_2 hR, ro_47_3 hR, ro_55_0 hR, ro_55_1 hR, ro_55_2 hR, ro_57_0 hR, ro_57_1 hR, ro_57_2 hR, ro_57_3 hR, ro_57_4 hR, ro_57_5 hR, ro_57_8 hR, sh_0, sh_1, sh_2, sh_3, sh_4, sh_5, sh_6, sh_7, sh_8, sh_9, sh_10, sh_11, sh_12, sh_13, sh_14, sh_15, sh_16, sh_17, sh_18, sh_19, sh_20, sh_21, sh_22, sh_23, sh_24, sh_25, sh_26, sh_27, sh_28, sh_29, sh_30, sh_31, sh_32, sh_33, sh_34, sh_35, sh_36, sh_37, sh_38, sh_39, sh_40, sh_41, sh_42, sh_43, sh_44, sh_45, sh_46, sh_47, sh_48, sh_49, sh_50, sh_51, sh_52, sh_53, sh_54, sh_55, sh_56, sh_57, sh_58, sh_59, sh_60, sh_61, sh_62, sh_63, sh_64, sh_65, sh_66, sh_67, sh_68, hl, hvw9, Nat.reduceLT, Nat.reduceAdd, Nat.reduceMul, ne_eq, Nat.reduceEqDiff, not_false_eq_true, or_true, true_or, or_false, false_or, and_true, true_and, and_self, Nat.reduceLeDiff, am_ci, am_cr, am_cn0, Option.toList_some, Option.toList_none, List.cons_append, List.nil_append, am_s0, am_s1, am_s1r, am_s2, am_s2r, am_s3r, nI_add, am_u_ne, am_u_at, am_u_n1, am_u_n2, am_w_ne, ↓reduceIte, h1, h2, c1, H.rf, i2, k1]
        exact fin
      · have k2 : nI 57 < J 1 i := hi.mpr (by
          have : 48 ≤ x.2 i ∧ x.2 i ≤ 127 := Classical.byContradiction (fun z => k1 (lo.mpr z))
          omega)
        simp only [am_lv_of, rX11_cutDigits_1, rX11_cutDigits_4, rX11_cutDigits_5, rX11_cutDigits_8, rX11_cutDigits_11, rX11_cutDigits_12, rX11_cutDigits_15, rX11_cutDigits_16, rX11_cutDigits_19, rX11_cutDigits_20, rX11_cutDigits_22, rX11_cutDigits_25, rX11_cutDigits_26, rX11_cutDigits_29, rX11_cutDigits_30, rX11_cutDigits_33, rX11_cutDigits_34, rX11_cutDigits_36, ro_0_0 hR, ro_0_3 hR, ro_0_4 hR, ro_0_5 hR, ro_0_6 hR, ro_0_7 hR, ro_0_8 hR, ro_0_9 hR, ro_0_10 hR, ro_0_11 hR, ro_2_6 hR, ro_2_7 hR, ro_2_8 hR, ro_2_9 hR, ro_2_10 hR, ro_2_11 hR, ro_2_12 hR, ro_2_13 hR, ro_9_0 hR, ro_9_1 hR, ro_9_2 hR, ro_14_0 hR, ro_14_1 hR, ro_14_2 hR, ro_14_7 hR, ro_15_0 hR, ro_15_1 hR, ro_15_2 hR, ro_15_3 hR, ro_20_6 hR, ro_20_7 hR, ro_20_8 hR, ro_20_9 hR, ro_20_10 hR, ro_20_11 hR, ro_20_12 hR, ro_20_13 hR, ro_27_0 hR, ro_27_1 hR, ro_27_2 hR, ro_32_0 hR, ro_32_1 hR, ro_34_10 hR, ro_34_11 hR, ro_34_12 hR, ro_34_13 hR, ro_39_0 hR, ro_39_1 hR, ro_42_0 hR, ro_42_1 hR, ro_47_0 hR, ro_47_1 hR, ro_47_2 hR, ro_47_3 hR, ro_55_0 hR, ro_55_1 hR, ro_55_2 hR, ro_57_0 hR, ro_57_1 hR, ro_57_2 hR, ro_57_3 hR, ro_57_4 hR, ro_57_5 hR, ro_57_8 hR, sh_0, sh_1, sh_2, sh_3, sh_4, sh_5, sh_6, sh_7, sh_8, sh_9, sh_10, sh_11, sh_12, sh_13, sh_14, sh_15, sh_16, sh_17, sh_18, sh_19, sh_20, sh_21, sh_22, sh_23, sh_24, sh_25, sh_26, sh_27, sh_28, sh_29, sh_30, sh_31, sh_32, sh_33, sh_34, sh_35, sh_36, sh_37, sh_38, sh_39, sh_40, sh_41, sh_42, sh_43, sh_44, sh_45, sh_46, sh_47, sh_48, sh_49, sh_50, sh_51, sh_52, sh_53, sh_54, sh_55, sh_56, sh_57, sh_58, sh_59, sh_60, sh_61, sh_62, sh_63, sh_64, sh_65, sh_66, sh_67, sh_68, hl, hvw9, Nat.reduceLT, Nat.reduceAdd, Nat.reduceMul, ne_eq, Nat.reduceEqDiff, not_false_eq_true, or_true, true_or, or_false, false_or, and_true, true_and, and_self, Nat.reduceLeDiff, am_ci, am_cr, am_cn0, Option.toList_some, Option.toList_none, List.cons_append, List.nil_append, am_s0, am_s1, am_s1r, am_s2, am_s2r, am_s3r, nI_add, am_u_ne, am_u_at, am_u_n1, am_u_n2, am_w_ne, ↓reduceIte, h1, h2, c1, H.rf, i2, k1, k2]
        exact fin
end LX
