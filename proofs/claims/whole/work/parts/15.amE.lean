/-! RUNS AS A JUDGEMENT: am_F .. Q: the run from here ends, with Q of the answer and the memory -/
def am_F (X : am_X) (d : Nat) (μ : am_MM) (pc : Nat) (ls : am_LS) (st : List Value) (M : am_M) (Q : Option Value → am_M → Prop) : Prop := ∃ (f : Nat) (v : Option Value) (M' : am_M), am_run X f d μ pc ls st M = some (v, M') ∧ Q v M'
theorem am_run_succ {X : am_X} : ∀ (f d : Nat) (μ : am_MM) (pc : Nat) (ls : am_LS) (st : List Value) (M : am_M) (r : Option Value × am_M), am_run X f d μ pc ls st M = some r → am_run X (f + 1) d μ pc ls st M = some r := by
  intro f
  induction f with
  | zero => intro d μ pc ls st M r h; simp [am_run] at h
  | succ f ih =>
    intro d μ pc ls st M r h
    rw [am_run] at h ⊢
    cases hd : decode μ.2.2.1 pc with
    | error _ => rw [hd] at h; cases h
    | ok q =>
      obtain ⟨i, len⟩ := q
      simp only [hd] at h ⊢
      cases hs : am_stp X μ pc i len ls st M with
      | none => rw [hs] at h; cases h
      | some q2 =>
        rcases q2 with ⟨pc', ls', st', M1⟩ | v | ⟨ν, as, st'⟩
        · simp only [hs] at h ⊢
          exact ih _ _ _ _ _ _ _ h
        · simp only [hs] at h ⊢
          exact h
        · simp only [hs] at h ⊢
          cases d with
          | zero => cases h
          | succ d' =>
            simp only at h ⊢
            by_cases hl : ν.2.2.2.1 < (am_args as).length
            · rw [if_pos hl] at h; cases h
            · rw [if_neg hl] at h ⊢
              cases h1 : am_run X f d' ν 0 (am_en as ν.2.2.2.1) [] M with
              | none => rw [h1] at h; cases h
              | some q3 =>
                obtain ⟨v1, M1⟩ := q3
                simp only [h1] at h
                simp only [ih _ _ _ _ _ _ _ h1]
                exact ih _ _ _ _ _ _ _ h
theorem am_run_le {X : am_X} {f g d : Nat} {μ : am_MM} {pc : Nat} {ls : am_LS} {st : List Value} {M : am_M} {r : Option Value × am_M} (h : am_run X f d μ pc ls st M = some r) (hfg : f ≤ g) : am_run X g d μ pc ls st M = some r := by
  obtain ⟨k, rfl⟩ := Nat.exists_eq_add_of_le hfg
  induction k with
  | zero => exact h
  | succ k ih => exact am_run_succ _ _ _ _ _ _ _ _ (ih (by omega))
section AME
variable {X : am_X} {d : Nat} {μ : am_MM} {pc pc' : Nat} {ls ls' : am_LS} {st st' : List Value} {M M' : am_M} {Q : Option Value → am_M → Prop} {i : Instr} {len : Nat}
theorem am_F_nx (hd : decode μ.2.2.1 pc = .ok (i, len)) (hs : am_stp X μ pc i len ls st M = some (.inl (pc', ls', st', M'))) : am_F X d μ pc ls st M Q ↔ am_F X d μ pc' ls' st' M' Q := by
  constructor
  · rintro ⟨f, v, M1, h, hq⟩
    cases f with
    | zero => simp [am_run] at h
    | succ f =>
      rw [am_run] at h
      simp only [hd, hs] at h
      exact ⟨f, v, M1, h, hq⟩
  · rintro ⟨f, v, M1, h, hq⟩
    refine ⟨f + 1, v, M1, ?_, hq⟩
    rw [am_run]
    simp only [hd, hs]
    exact h
theorem am_F_ret {v : Option Value} (hd : decode μ.2.2.1 pc = .ok (i, len)) (hs : am_stp X μ pc i len ls st M = some (.inr (.inl v))) : am_F X d μ pc ls st M Q ↔ Q v M := by
  constructor
  · rintro ⟨f, v, M1, h, hq⟩
    cases f with
    | zero => simp [am_run] at h
    | succ f =>
      rw [am_run] at h
      simp only [hd, hs] at h
      cases h
      exact hq
  · intro hq
    refine ⟨1, v, M, ?_, hq⟩
    rw [am_run]
    simp only [hd, hs]
theorem am_F_call {ν : am_MM} {as : List Value} (hd : decode μ.2.2.1 pc = .ok (i, len)) (hs : am_stp X μ pc i len ls st M = some (.inr (.inr (ν, as, st')))) (hl : ¬ ν.2.2.2.1 < (am_args as).length) : am_F X (d + 1) μ pc ls st M Q ↔ am_F X d ν 0 (am_en as ν.2.2.2.1) [] M (fun v M' => am_F X (d + 1) μ (pc + 3) ls (v.toList ++ st') M' Q) := by
  constructor
  · rintro ⟨f, v, M1, h, hq⟩
    cases f with
    | zero => simp [am_run] at h
    | succ f =>
      rw [am_run] at h
      simp only [hd, hs, if_neg hl] at h
      split at h
      · cases h
      · next v1 M2 h1 => exact ⟨f, v1, M2, h1, f, v, M1, h, hq⟩
  · rintro ⟨f, v1, M2, h1, g, v, M1, h, hq⟩
    refine ⟨max f g + 1, v, M1, ?_, hq⟩
    rw [am_run]
    simp only [hd, hs, if_neg hl, am_run_le h1 (Nat.le_max_left f g)]
    exact am_run_le h (Nat.le_max_right f g)
theorem am_F_mono {Q' : Option Value → am_M → Prop} (h : am_F X d μ pc ls st M Q) (hq : ∀ v M', Q v M' → Q' v M') : am_F X d μ pc ls st M Q' := by
  obtain ⟨f, v, M1, h, h2⟩ := h
  exact ⟨f, v, M1, h, hq _ _ h2⟩
/-- a contract with a known end, as a rule -/
theorem am_F_det {v : Option Value} (h : am_F X d μ pc ls st M (fun v' M'' => v' = v ∧ M'' = M')) : am_F X d μ pc ls st M Q ↔ Q v M' := by
  obtain ⟨f, v1, M1, h, rfl, rfl⟩ := h
  constructor
  · rintro ⟨g, v2, M2, h2, hq⟩
    have a1 := am_run_le h (Nat.le_max_left f g)
    have a2 := am_run_le h2 (Nat.le_max_right f g)
    rw [a1] at a2
    cases a2
    exact hq
  · intro hq
    exact ⟨f, v1, M1, h, hq⟩
end AME
