--! 98
/-! THE LAW: what every method's run gives -/
theorem am_stp_ret {X : am_X} {μ : am_MM} {pc : Nat} {i : Instr} {len : Nat} {ls : am_LS} {st : List Value} {M : am_M} {v : Option Value} (h : am_stp X μ pc i len ls st M = some (.inr (.inl v))) : am_ret μ i len st = some v := by
  unfold am_stp at h
  split at h
  · cases h
  split at h
  · cases h
  split at h
  · cases h
  split at h
  · cases h
  split at h
  · cases h
  split at h
  · split at h
    · cases h
    · cases h
  split at h
  · next hv => cases h; exact hv
  split at h
  · cases h
  · cases h
  · cases h
theorem am_ret_int {μ : am_MM} {i : Instr} {len : Nat} {st : List Value} {v : Option Value} {ty : FieldType} (hm : μ.2.2.2.2 = some ty) (ht : ty ≠ .long) (h : am_ret μ i len st = some v) : ∃ x, v = some (.int x) := by
  unfold am_ret at h
  split at h
  · rw [hm] at h
    simp only at h
    split at h
    · cases h; exact ⟨_, rfl⟩
    · cases h
  · split at h
    · next z => rw [hm] at z; cases z; exact absurd rfl ht
    · cases h
  · split at h
    · next z => rw [hm] at z; cases z
    · cases h
  · cases h
theorem am_run_int {X : am_X} {μ : am_MM} {ty : FieldType} (hm : μ.2.2.2.2 = some ty) (ht : ty ≠ .long) : ∀ (f d pc : Nat) (ls : am_LS) (st : List Value) (M : am_M) (v : Option Value) (M' : am_M), am_run X f d μ pc ls st M = some (v, M') → ∃ x, v = some (.int x) := by
  intro f
  induction f with
  | zero => intro d pc ls st M v M' h; simp [am_run] at h
  | succ f ih =>
    intro d pc ls st M v M' h
    rw [am_run] at h
    cases hd : decode μ.2.2.1 pc with
    | error _ => rw [hd] at h; cases h
    | ok q =>
      obtain ⟨i, len⟩ := q
      simp only [hd] at h
      cases hs : am_stp X μ pc i len ls st M with
      | none => rw [hs] at h; cases h
      | some q2 =>
        rcases q2 with ⟨pc', ls', st', M1⟩ | v1 | ⟨ν, as, st'⟩
        · simp only [hs] at h
          exact ih _ _ _ _ _ _ _ h
        · simp only [hs] at h
          cases h
          exact am_ret_int hm ht (am_stp_ret hs)
        · simp only [hs] at h
          cases d with
          | zero => cases h
          | succ d' =>
            simp only at h
            by_cases hl : ν.2.2.2.1 < (am_args as).length
            · rw [if_pos hl] at h; cases h
            · rw [if_neg hl] at h
              cases h1 : am_run X f d' ν 0 (am_en as ν.2.2.2.1) [] M with
              | none => rw [h1] at h; cases h
              | some q3 =>
                obtain ⟨v1, M1⟩ := q3
                simp only [h1] at h
                exact ih _ _ _ _ _ _ _ h
/-- a call of the class's method, then one of the reference's -/
theorem lw_two {X : am_X} {D : Nat} {mc mr : am_MM} {lc lr : List (Option Value)} {M : am_M} {Q1 : Option Value → am_M → Prop} {ty : FieldType} (h : sim X D mc mr lc lr M) (hc : mc.2.2.2.2 = some ty) (ht : ty ≠ .long) (hQ : ∀ x n1 I1 L1 R1, M.1 ≤ n1 → (∀ Q2 : Option Value → am_M → Prop, (∀ n2 I2 L2 R2, REL (n2, I2, L2, R2) → Q2 (some (.int x)) (n2, I2, L2, R2)) → am_E X D mr 0 lr [] (n1, I1, L1, R1) Q2) → Q1 (some (.int x)) (n1, I1, L1, R1)) : am_E X D mc 0 lc [] M Q1 := by
  obtain ⟨f, v, M1, h1, h2⟩ := h
  obtain ⟨x, rfl⟩ := am_run_int hc ht _ _ _ _ _ _ _ _ h1
  have hn := (am_run_mono _ _ _ _ _ _ _ _ _ h1).1
  have hn : M.1 + 3 ≤ M1.1 := hn
  have h2 : am_E X D mr 0 lr [] (am_mI M1) (fun v' M2 => some (.int x) = v' ∧ REL M2) := h2
  refine ⟨f, _, M1, h1, ?_⟩
  show Q1 (some (.int x)) (am_mI M1)
  have hn2 : M.1 ≤ (am_mI M1).1 := by show M.1 ≤ M1.1 - 3; omega
  generalize am_mI M1 = M3 at h2 hn2 ⊢
  obtain ⟨n1, I1, L1, R1⟩ := M3
  refine hQ x n1 I1 L1 R1 hn2 (fun Q2 hq => am_E_mono h2 (fun v' M2 hv => ?_))
  obtain ⟨rfl, hr⟩ := hv
  obtain ⟨n2, I2, L2, R2⟩ := M2
  exact hq n2 I2 L2 R2 hr
