--! 41
/-! THE CLASS: how a pull changes a pose -/
theorem nI_xor {a b : Nat} (ha : a < 2 ^ 32) (hb : b < 2 ^ 32) : nI a ^^^ nI b = nI (a ^^^ b) := by
  apply Int32.toBitVec_inj.mp
  apply BitVec.eq_of_toNat_eq
  show ((nI a).toBitVec ^^^ (nI b).toBitVec).toNat = (nI (a ^^^ b)).toBitVec.toNat
  rw [BitVec.toNat_xor, pk_tn ha, pk_tn hb, pk_tn (Nat.xor_lt_two_pow ha hb)]
theorem far_sh : ∀ b, b < 19 → ∀ p, p < 5 → (nI b - nI 9) <<< (nI 4 * nI p &&& 31) = nI (b * 16 ^ p) - nI (9 * 16 ^ p) := by decide +kernel
theorem trn_sh : ∀ t, t < 4 → ∀ p, p < 5 → (nI t &&& nI 1) <<< (nI (20 + p) &&& 31) = nI (t % 2 * 2 ^ (20 + p)) ∧ (nI t >>> (nI 1 &&& 31)) <<< (nI (25 + p) &&& 31) = nI (t / 2 * 2 ^ (25 + p)) ∧ nI t &&& nI 1 = nI (t % 2) ∧ nI t >>> (nI 1 &&& 31) = nI (t / 2) := by decide +kernel
def shW (w p b : Nat) : Nat := w + b * 16 ^ p - 9 * 16 ^ p
def mvW (w p b t : Nat) : Nat := (shW w p b ^^^ (t % 2 * 2 ^ (20 + p))) ^^^ (t / 2 * 2 ^ (25 + p))
theorem five {P : Nat → Prop} (h0 : P 0) (h1 : P 1) (h2 : P 2) (h3 : P 3) (h4 : P 4) : ∀ p, p < 5 → P p := by
  intro p hp
  match p, hp with
  | 0, _ => exact h0
  | 1, _ => exact h1
  | 2, _ => exact h2
  | 3, _ => exact h3
  | 4, _ => exact h4
theorem sh_ge {w p b : Nat} (hp : p < 5) (h : 9 ≤ xw w p + b) : 9 * 16 ^ p ≤ w + b * 16 ^ p := by
  have h1 : xw w p * 16 ^ p ≤ w := by
    unfold xw
    exact Nat.le_trans (Nat.mul_le_mul_right _ (Nat.mod_le _ _)) (Nat.div_mul_le_self _ _)
  have h2 : 9 * 16 ^ p ≤ (xw w p + b) * 16 ^ p := Nat.mul_le_mul_right _ h
  rw [Nat.add_mul] at h2
  omega
theorem sh_x {w b : Nat} (hw : w < 2 ^ 30) : ∀ p, p < 5 → 9 ≤ xw w p + b → xw w p + b ≤ 18 → shW w p b < 2 ^ 30 ∧ (∀ q, q < 5 → xw (shW w p b) q = if q = p then xw w p + b - 9 else xw w q) ∧ shW w p b / 2 ^ 20 = w / 2 ^ 20 := by
  apply five <;> intro h1 h2 <;> simp only [xw, shW] at h1 h2 ⊢ <;> refine ⟨by omega, five ?_ ?_ ?_ ?_ ?_, by omega⟩ <;> simp <;> omega
theorem tb {c k : Nat} (hc : c < 2) : c * 2 ^ k = 0 ∨ c * 2 ^ k = 2 ^ k := by
  match c, hc with
  | 0, _ => exact Or.inl (Nat.zero_mul _)
  | 1, _ => exact Or.inr (Nat.one_mul _)
theorem xr_x {w y q : Nat} (hq : q < 5) (hy : y % 2 ^ 20 = 0) : xw (w ^^^ y) q = xw w q := by
  unfold xw
  have e : 16 ^ q = 2 ^ (4 * q) := by rw [Nat.pow_mul]
  rw [e, Nat.xor_div_two_pow]
  have h2 : (w / 2 ^ (4 * q) ^^^ y / 2 ^ (4 * q)) % 2 ^ 4 = _ := Nat.xor_mod_two_pow
  rw [show (16 : Nat) = 2 ^ 4 from rfl, h2]
  have h3 : y / 2 ^ (4 * q) % 2 ^ 4 = 0 := by
    revert q
    apply five <;> omega
  rw [h3, Nat.xor_zero]
theorem xr_b {w y k : Nat} : (w ^^^ y) / 2 ^ k % 2 = (w / 2 ^ k % 2) ^^^ (y / 2 ^ k % 2) := by
  rw [Nat.xor_div_two_pow]
  exact Nat.xor_mod_two_pow (n := 1)
theorem bit_at {c k j : Nat} (hc : c < 2) : c * 2 ^ k / 2 ^ j % 2 = if j = k then c else 0 := by
  by_cases h : j = k
  · subst h
    rw [if_pos rfl, Nat.mul_div_cancel _ (Nat.two_pow_pos _)]
    omega
  · rw [if_neg h]
    match c, hc with
    | 0, _ => simp
    | 1, _ =>
      rw [Nat.one_mul]
      by_cases h2 : k < j
      · rw [Nat.div_eq_of_lt (Nat.pow_lt_pow_right (by omega) h2)]
      · rw [Nat.pow_div (by omega) (by omega)]
        obtain ⟨m, hm⟩ : ∃ m, k - j = m + 1 := ⟨k - j - 1, by omega⟩
        rw [hm, Nat.pow_succ]
        omega
theorem mv_ok {w p b t : Nat} (hw : w < 2 ^ 30) (hp : p < 5) (ht : t < 4) (h1 : 9 ≤ xw w p + b) (h2 : xw w p + b ≤ 18) : mvW w p b t < 2 ^ 30 ∧ (∀ q, q < 5 → xw (mvW w p b t) q = if q = p then xw w p + b - 9 else xw w q) ∧ (∀ q, q < 5 → hdw (mvW w p b t) q = if q = p then hdw w p ^^^ (t % 2) else hdw w q) ∧ ∀ q, q < 5 → hnw (mvW w p b t) q = if q = p then hnw w p ^^^ (t / 2) else hnw w q := by
  obtain ⟨a1, a2, a3⟩ := sh_x (b := b) hw p hp h1 h2
  have ht2 : t % 2 < 2 := by omega
  have ht3 : t / 2 < 2 := by omega
  have y1 : (t % 2 * 2 ^ (20 + p)) % 2 ^ 20 = 0 := by rw [Nat.pow_add, Nat.mul_comm (2 ^ 20), ← Nat.mul_assoc]; exact Nat.mul_mod_left _ _
  have y2 : (t / 2 * 2 ^ (25 + p)) % 2 ^ 20 = 0 := by rw [show 25 + p = 5 + p + 20 by omega, Nat.pow_add, ← Nat.mul_assoc]; exact Nat.mul_mod_left _ _
  have s1 : ∀ k, 20 ≤ k → shW w p b / 2 ^ k = w / 2 ^ k := fun k hk => by
    obtain ⟨m, rfl⟩ : ∃ m, k = 20 + m := ⟨k - 20, by omega⟩
    rw [Nat.pow_add, ← Nat.div_div_eq_div_mul, a3, Nat.div_div_eq_div_mul]
  refine ⟨?_, fun q hq => ?_, fun q hq => ?_, fun q hq => ?_⟩
  · refine Nat.xor_lt_two_pow (Nat.xor_lt_two_pow a1 ?_) ?_
    · rcases tb (k := 20 + p) ht2 with z | z <;> rw [z]
      · exact Nat.two_pow_pos _
      · exact Nat.pow_lt_pow_right (by omega) (by omega)
    · rcases tb (k := 25 + p) ht3 with z | z <;> rw [z]
      · exact Nat.two_pow_pos _
      · exact Nat.pow_lt_pow_right (by omega) (by omega)
  · unfold mvW
    rw [xr_x hq y2, xr_x hq y1]
    exact a2 q hq
  · unfold mvW hdw
    rw [xr_b, xr_b, bit_at ht2, bit_at ht3, s1 _ (by omega), if_neg (show ¬ 20 + q = 25 + p by omega), Nat.xor_zero]
    by_cases e : q = p
    · subst e; rw [if_pos rfl, if_pos rfl]
    · rw [if_neg (show ¬ 20 + q = 20 + p by omega), if_neg e, Nat.xor_zero]
  · unfold mvW hnw
    rw [xr_b, xr_b, bit_at ht2, bit_at ht3, s1 _ (by omega), if_neg (show ¬ 25 + q = 20 + p by omega), Nat.xor_zero]
    by_cases e : q = p
    · subst e; rw [if_pos rfl, if_pos rfl]
    · rw [if_neg (show ¬ 25 + q = 25 + p by omega), if_neg e, Nat.xor_zero]
/-- a pose and the fifteen places of a row that say the same -/
def psr (w P : Nat) (r : Nat → Int32) : Prop := w < 2 ^ 30 ∧ (∀ p, p < 5 → r p = nI (xw w p) ∧ r (5 + p) = nI (hdw w p) ∧ r (10 + p) = nI (hnw w p) ∧ xw w p ≤ 9) ∧ ∀ p, P ≤ p → p < 5 → xw w p = 0
