--! 98
/-! TEXTS: a string told, as the reference reads it: pure -/
theorem str_pre {x : txt} {t : Nat} (hk : kK x t = 1) (ht : stE t = .inr (t + 1)) : chk x [1, 20, 20, 21] t = erB (tkE x 20 (t + 1)) fun t1 => erB (tkE x 20 t1) fun t2 => erB (tkE x 21 t2) fun t3 => .inr t3 := by
  show erB (tkE x 1 t) _ = _
  rw [tkE_y hk, ht]
  rfl
theorem str_inl {x : txt} {s : pst} {e : Nat × Nat} (hk : kK x (s_t s) = 1) (ht : stE (s_t s) = .inr (s_t s + 1)) (hl : ¬ 7 ≤ (s_S s).length) (h : strQ x (s_t s + 1) = .inl e) : stringP x s = .inl e := by
  unfold stringP
  rw [if_neg hl, str_pre hk ht]
  unfold strQ at h
  cases h1 : tkE x 20 (s_t s + 1) with
  | inl a => rw [h1] at h; cases h; rfl
  | inr t1 =>
    rw [h1, erB_inr] at h
    rw [erB_inr]
    cases h2 : tkE x 20 t1 with
    | inl a => rw [h2] at h; cases h; rfl
    | inr t2 =>
      rw [h2, erB_inr] at h
      rw [erB_inr]
      cases h3 : tkE x 21 t2 with
      | inl a => rw [h3] at h; cases h; rfl
      | inr t3 =>
        rw [h3, erB_inr] at h
        rw [erB_inr, erB_inr]
        unfold sgnP at h
        by_cases hm : kK x t3 = 45
        · rw [if_pos hm] at h
          have e4 : chk x [45, 21, 21, 59] t3 = erB (stE t3) fun t => chk x [21, 21, 59] t := by
            show erB (tkE x 45 t3) _ = _
            rw [tkE_y hm]
          rw [if_pos hm, e4, h]
          rfl
        · rw [if_neg hm] at h
          rw [if_neg hm, h]
          rfl
theorem str_inr {x : txt} {s : pst} {t' v : Nat} (hk : kK x (s_t s) = 1) (ht : stE (s_t s) = .inr (s_t s + 1)) (hl : ¬ 7 ≤ (s_S s).length) (h : strQ x (s_t s + 1) = .inr t') (hv : v = if kK x (s_t s + 1 + 3) = 45 then s_t s + 1 + 3 + 1 else s_t s + 1 + 3) : stringP x s = .inr (strP x s v t' (if kK x (s_t s + 1 + 3) = 45 then -(nI (kV x v)) else nI (kV x v))) := by
  unfold stringP
  rw [if_neg hl, str_pre hk ht]
  unfold strQ at h
  obtain ⟨t1, h1, h⟩ := erB_some h
  obtain ⟨t2, h2, h⟩ := erB_some h
  obtain ⟨t3, h3, h⟩ := erB_some h
  rw [h1, erB_inr, h2, erB_inr, h3, erB_inr, erB_inr]
  obtain ⟨-, -, rfl⟩ := tkE_inr h1
  obtain ⟨-, -, rfl⟩ := tkE_inr h2
  obtain ⟨-, -, rfl⟩ := tkE_inr h3
  have h : sgnP x (s_t s + 1 + 3) = .inr t' := h
  show (if kK x (s_t s + 1 + 3) = 45 then erB (chk x [45, 21, 21, 59] (s_t s + 1 + 3)) _ else erB (chk x [21, 21, 59] (s_t s + 1 + 3)) _) = _
  unfold sgnP at h
  by_cases hm : kK x (s_t s + 1 + 3) = 45
  · rw [if_pos hm] at h hv
    have e4 : chk x [45, 21, 21, 59] (s_t s + 1 + 3) = erB (stE (s_t s + 1 + 3)) fun t => chk x [21, 21, 59] t := by
      show erB (tkE x 45 (s_t s + 1 + 3)) _ = _
      rw [tkE_y hm]
    rw [if_pos hm, if_pos hm, e4, h, hv]
    rfl
  · rw [if_neg hm] at h hv
    rw [if_neg hm, if_neg hm, h, hv]
    rfl
