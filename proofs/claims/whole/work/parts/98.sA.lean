--! 98
/-! TEXTS: what a good text tells is in bounds -/
def bdA (s : pst) : Prop := (∀ e, e ∈ s_n s → ∀ p, e.2 = some p → p < (s_P s).length) ∧ ((s_f s).1 = 0 → (∀ v, v ∈ s_P s → v.1 ≤ 9 ∧ v.2 ≤ 9) ∧ ∀ v, v ∈ s_S s → v.1 < (s_P s).length ∧ (∃ a, a ≤ 9 ∧ (v.2.2.1 = nI a ∨ v.2.2.1 = -(nI a))) ∧ v.2.2.2 ≤ 3)
theorem lkN_mem {nm : nmT} {w : List Nat} {p : Nat} (h : lkN nm w = some p) : ∃ e, e ∈ nm ∧ e.2 = some p := by
  unfold lkN at h
  obtain ⟨e, h1, h2⟩ := Option.bind_eq_some_iff.mp h
  exact ⟨e, List.mem_of_getElem? h1, h2⟩
section SA
variable {x : txt} {s s' : pst}
theorem bd_puppet (B : bdA s) (h : puppetP x s = .inr s') : bdA s' := by
  unfold puppetP at h
  split at h
  · cases h
  · obtain ⟨t', e1, h⟩ := erB_some h
    cases h
    obtain ⟨b1, b2⟩ := B
    have hlen : (s_P s ++ [(kV x (s_t s + 2), kV x (s_t s + 3))]).length = (s_P s).length + 1 := by rw [List.length_append, List.length_singleton]
    refine ⟨fun e he p hp => ?_, fun hf => ?_⟩
    · show p < (s_P s ++ [(kV x (s_t s + 2), kV x (s_t s + 3))]).length
      rw [hlen]
      have he : e ∈ s_n s ++ [(kM x (s_t s + 1), some (s_P s).length)] := he
      rcases List.mem_append.mp he with he | he
      · have := b1 e he p hp; omega
      · have := List.mem_singleton.mp he
        subst this
        have hp : some (s_P s).length = some p := hp
        have := Option.some.inj hp
        omega
    · have hf : (sfP x s).1 = 0 := hf
      unfold sfP at hf
      obtain ⟨hf, q3⟩ := nt_0 (by omega) hf
      obtain ⟨hf, q2⟩ := nt_0 (by omega) hf
      obtain ⟨hf, q1⟩ := nt_0 (by omega) hf
      obtain ⟨c1, c2⟩ := b2 hf
      have q3 := of_decide_eq_false q3
      have q2 := of_decide_eq_false q2
      refine ⟨fun v hv => ?_, fun v hv => ?_⟩
      · have hv : v ∈ s_P s ++ [(kV x (s_t s + 2), kV x (s_t s + 3))] := hv
        rcases List.mem_append.mp hv with hv | hv
        · exact c1 v hv
        · have := List.mem_singleton.mp hv
          subst this
          exact ⟨by show kV x (s_t s + 2) ≤ 9; omega, by show kV x (s_t s + 3) ≤ 9; omega⟩
      · obtain ⟨d1, d2⟩ := c2 v hv
        refine ⟨?_, d2⟩
        show v.1 < (s_P s ++ [(kV x (s_t s + 2), kV x (s_t s + 3))]).length
        rw [hlen]; omega
theorem bd_str {u t' : Nat} {far : Int32} (B : bdA s) (hfar : far = nI (kV x u) ∨ far = -(nI (kV x u))) : bdA (strP x s u t' far) := by
  obtain ⟨b1, b2⟩ := B
  refine ⟨fun e he p hp => ?_, fun hf => ?_⟩
  · show p < (s_P s).length
    have he : e ∈ s_n s ++ [(kM x (s_t s + 1), none)] := he
    rcases List.mem_append.mp he with he | he
    · exact b1 e he p hp
    · have := List.mem_singleton.mp he
      subst this
      cases hp
  · have hf : (sfS x s u).1 = 0 := hf
    unfold sfS at hf
    obtain ⟨hf, q5⟩ := nt_0 (by omega) hf
    obtain ⟨hf, q4⟩ := nt_0 (by omega) hf
    obtain ⟨hf, q3⟩ := nt_0 (by omega) hf
    obtain ⟨hf, q2⟩ := nt_0 (by omega) hf
    obtain ⟨hf, q1⟩ := nt_0 (by omega) hf
    obtain ⟨c1, c2⟩ := b2 hf
    have q5 := of_decide_eq_false q5
    have q4 := of_decide_eq_false q4
    refine ⟨c1, fun v hv => ?_⟩
    show v.1 < (s_P s).length ∧ _
    have hv : v ∈ s_S s ++ [((ownP x s).getD 0, kV x (s_t s + 3), far, kV x (u + 1))] := hv
    rcases List.mem_append.mp hv with hv | hv
    · exact c2 v hv
    · have := List.mem_singleton.mp hv
      subst this
      refine ⟨?_, ⟨kV x u, by omega, hfar⟩, by show kV x (u + 1) ≤ 3; omega⟩
      show (ownP x s).getD 0 < (s_P s).length
      cases ho : ownP x s with
      | none => rw [ho] at q2; cases q2
      | some p =>
        obtain ⟨e, h1, h2⟩ := lkN_mem ho
        exact b1 e h1 p h2
theorem bd_string (B : bdA s) (h : stringP x s = .inr s') : bdA s' := by
  unfold stringP at h
  split at h
  · cases h
  · obtain ⟨t4, e1, h⟩ := erB_some h
    split at h
    · obtain ⟨t', e2, h⟩ := erB_some h
      cases h
      exact bd_str B (Or.inr rfl)
    · obtain ⟨t', e2, h⟩ := erB_some h
      cases h
      exact bd_str B (Or.inl rfl)
theorem bd_law {kk : Nat} (B : bdA s) (h : lawQ x kk s = .inr s') : bdA s' := by
  unfold lawQ at h
  obtain ⟨a, e1, h⟩ := erB_some h
  cases h
  exact B
theorem bd_tell (B : bdA s) (h : tellP x s = .inr s') : bdA s' := by
  unfold tellP at h
  split at h
  · exact bd_puppet B h
  split at h
  · exact bd_string B h
  split at h
  · unfold childP at h
    split at h
    · cases h
    · obtain ⟨a, e1, h⟩ := erB_some h
      cases h
      exact ⟨B.1, fun z => B.2 (nt_0 (by omega) z).1⟩
  split at h
  · exact bd_law B h
  split at h
  · exact bd_law B h
  split at h
  · exact bd_law B h
  split at h
  · unfold stormP at h
    obtain ⟨a, e1, h⟩ := erB_some h
    cases h
    exact ⟨B.1, fun z => B.2 (nt_0 (by omega) z).1⟩
  split at h
  · unfold seedP at h
    obtain ⟨a, e1, h⟩ := erB_some h
    cases h
    exact ⟨B.1, fun z => B.2 (nt_0 (by omega) z).1⟩
  · cases h
theorem bd_all : ∀ (f : Nat) (s s' : pst), bdA s → allP x f s = .inr s' → bdA s' := by
  intro f
  induction f with
  | zero => intro s s' B h; cases h; exact B
  | succ f ih =>
    intro s s' B h
    rw [allP] at h
    split at h
    · cases h; exact B
    · obtain ⟨a, e1, h⟩ := erB_some h
      exact ih a s' (bd_tell B e1) h
theorem bd_s0 : bdA s0 := ⟨fun e he => (by cases he), fun _ => ⟨fun v hv => (by cases hv), fun v hv => (by cases hv)⟩⟩
/-- the pose of an opening -/
theorem pk_bd : ∀ (P : List (Nat × Nat)), (∀ v, v ∈ P → v.1 ≤ 9) → pkS P 0 < 16 ^ P.length ∧ ∀ p, xw (pkS P 0) p = ((P[p]?).map (fun v => v.1)).getD 0 := by
  have sh : ∀ (P : List (Nat × Nat)) (i : Nat), pkS P (i + 1) = 16 * pkS P i := by
    intro P
    induction P with
    | nil => intro i; rfl
    | cons q P ih =>
      intro i
      rw [pkS, pkS, ih (i + 1), Nat.pow_succ, Nat.mul_add]
      congr 1
      rw [← Nat.mul_assoc, Nat.mul_comm]
  intro P
  induction P with
  | nil =>
    intro _
    refine ⟨by decide, fun p => ?_⟩
    show 0 / 16 ^ p % 16 = 0
    rw [Nat.zero_div]
  | cons q P ih =>
    intro h
    obtain ⟨i1, i2⟩ := ih (fun v hv => h v (List.mem_cons_of_mem _ hv))
    have hq := h q (List.mem_cons_self)
    have e : pkS (q :: P) 0 = q.1 + 16 * pkS P 0 := by rw [pkS, sh, Nat.pow_zero, Nat.mul_one]
    refine ⟨?_, fun p => ?_⟩
    · rw [e, List.length_cons, Nat.pow_succ]; omega
    · rw [e]
      cases p with
      | zero =>
        show (q.1 + 16 * pkS P 0) / 16 ^ 0 % 16 = q.1
        rw [Nat.pow_zero, Nat.div_one]; omega
      | succ p =>
        show (q.1 + 16 * pkS P 0) / 16 ^ (p + 1) % 16 = _
        rw [Nat.pow_succ, Nat.mul_comm (16 ^ p) 16, ← Nat.div_div_eq_div_mul, show (q.1 + 16 * pkS P 0) / 16 = pkS P 0 by omega]
        exact i2 p
end SA
