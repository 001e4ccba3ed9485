/-! THE ABSTRACT MACHINE IS THE MACHINE, six: whole methods -/
theorem am_stp_inv {X : am_X} {μ : am_MM} {pc : Nat} {i : Instr} {len : Nat} {ls : am_LS} {st : List Value} {M : am_M} {r : am_R} (h : am_stp X μ pc i len ls st M = some r) :
    (∃ st', am_pure i len st = some st' ∧ r = .inl (pc + len, ls, st', M)) ∨ (∃ v, am_load i len ls = some v ∧ r = .inl (pc + len, ls, v :: st, M)) ∨ (∃ ls' st', am_store i len ls st = some (ls', st') ∧ r = .inl (pc + len, ls', st', M)) ∨ (∃ t st', am_jump i len pc st = some (t, st') ∧ r = .inl (t, ls, st', M)) ∨ (∃ st', am_read X μ.1 i len st M = some st' ∧ r = .inl (pc + len, ls, st', M)) ∨ (∃ st' M', am_write μ i len st M = some (st', M') ∧ M'.1 ≤ 1003 ∧ r = .inl (pc + len, ls, st', M')) ∨ (∃ v, am_ret μ i len st = some v ∧ r = .inr (.inl v)) ∨ (∃ q, am_inv μ i len st M = some (.inl q) ∧ r = .inr (.inr q)) ∨ (∃ st' M', am_inv μ i len st M = some (.inr (st', M')) ∧ r = .inl (pc + len, ls, st', M')) := by
  unfold am_stp at h
  split at h
  · next q hq => exact Or.inl ⟨q, hq, (Option.some.inj h).symm⟩
  · split at h
    · next q hq => exact Or.inr (Or.inl ⟨q, hq, (Option.some.inj h).symm⟩)
    · split at h
      · next a b hq => exact Or.inr (Or.inr (Or.inl ⟨a, b, hq, (Option.some.inj h).symm⟩))
      · split at h
        · next a b hq => exact Or.inr (Or.inr (Or.inr (Or.inl ⟨a, b, hq, (Option.some.inj h).symm⟩)))
        · split at h
          · next q hq => exact Or.inr (Or.inr (Or.inr (Or.inr (Or.inl ⟨q, hq, (Option.some.inj h).symm⟩))))
          · split at h
            · next a b hq =>
              split at h
              · next hc => exact Or.inr (Or.inr (Or.inr (Or.inr (Or.inr (Or.inl ⟨a, b, hq, hc, (Option.some.inj h).symm⟩)))))
              · cases h
            · split at h
              · next q hq => exact Or.inr (Or.inr (Or.inr (Or.inr (Or.inr (Or.inr (Or.inl ⟨q, hq, (Option.some.inj h).symm⟩))))))
              · split at h
                · next q hq => exact Or.inr (Or.inr (Or.inr (Or.inr (Or.inr (Or.inr (Or.inr (Or.inl ⟨q, hq, (Option.some.inj h).symm⟩)))))))
                · next a b hq => exact Or.inr (Or.inr (Or.inr (Or.inr (Or.inr (Or.inr (Or.inr (Or.inr ⟨a, b, hq, (Option.some.inj h).symm⟩)))))))
                · cases h
theorem am_write_n {μ : am_MM} {i : Instr} {len : Nat} {st st' : List Value} {M M' : am_M} (h : am_write μ i len st M = some (st', M')) : M.1 ≤ M'.1 := by
  unfold am_write at h
  split at h <;> try (first | (cases h; done) | skip)
  all_goals (repeat' (split at h)) <;> (try (cases h; done)) <;> cases h <;> simp [am_setI, am_setL, am_setR, am_make, am_many] <;> omega
theorem am_inv_n {μ : am_MM} {i : Instr} {len : Nat} {st st' : List Value} {M M' : am_M} (h : am_inv μ i len st M = some (.inr (st', M'))) : M'.1 = M.1 := by
  unfold am_inv at h
  split at h <;> try (first | (cases h; done) | skip)
  all_goals (repeat' (split at h)) <;> (try (cases h; done)) <;> cases h <;> rfl
theorem am_run_mono {X : am_X} : ∀ (f d : Nat) (μ : am_MM) (pc : Nat) (ls : am_LS) (st : List Value) (M : am_M) (v : Option Value) (M' : am_M), am_run X f d μ pc ls st M = some (v, M') → M.1 ≤ M'.1 ∧ (M.1 ≤ 1003 → M'.1 ≤ 1003) := by
  intro f
  induction f with
  | zero => intro d μ pc ls st M v M' h; simp [am_run] at h
  | succ f ih =>
    intro d μ pc ls st M v M' h
    rw [am_run] at h
    split at h
    · cases h
    · next i len hd =>
      split at h
      · cases h
      · next pc' ls' st' M1 hs =>
        have h2 := ih _ _ _ _ _ _ _ _ h
        rcases am_stp_inv hs with ⟨_, _, e⟩ | ⟨_, _, e⟩ | ⟨_, _, _, e⟩ | ⟨_, _, _, e⟩ | ⟨_, _, e⟩ | ⟨_, _, hw, hn, e⟩ | ⟨_, _, e⟩ | ⟨_, _, e⟩ | ⟨_, _, hi, e⟩
        · cases e; exact h2
        · cases e; exact h2
        · cases e; exact h2
        · cases e; exact h2
        · cases e; exact h2
        · cases e; exact ⟨Nat.le_trans (am_write_n hw) h2.1, fun _ => h2.2 hn⟩
        · cases e
        · cases e
        · cases e; rw [am_inv_n hi] at h2; exact h2
      · next v' hs => cases h; exact ⟨Nat.le_refl _, fun q => q⟩
      · next ν as st' hs =>
        split at h
        · cases h
        · next d' =>
          split at h
          · cases h
          · split at h
            · cases h
            · next v1 M1 h1 =>
              have a1 := ih _ _ _ _ _ _ _ _ h1
              have a2 := ih _ _ _ _ _ _ _ _ h
              exact ⟨Nat.le_trans a1.1 a2.1, fun q => a2.2 (a1.2 q)⟩
def am_ws (ν : am_MM) : List Cond := .code ν.2.1 ν.2.2.1 ν.2.2.2.1 ν.2.2.2.2 :: am_WS
def am_room (d mc ms : Nat) : Room := { frames := d + 1, cells := mc, slots := ms, locals := 60 * (d + 1) }
theorem am_GoodIn {ν : am_MM} (h : Cond.code ν.2.1 ν.2.2.1 ν.2.2.2.1 ν.2.2.2.2 ∈ am_WS) : GoodIn am_WS (am_ws ν) := fun w hw => by
  rcases List.mem_cons.mp hw with rfl | hw
  · exact am_WSg _ h
  · exact am_WSg _ hw
theorem am_args_len (vs : List Value) (ad : Nat → Nat) : (lg_sl (vs.map (am_rv ad))).length = (am_args vs).length := by
  induction vs with
  | nil => rfl
  | cons v vs ih =>
    simp only [lg_sl, List.map_cons, List.flatMap_cons, List.length_append, am_rv_cat] at ih ⊢
    rw [ih, am_args]
    by_cases hc : v.category = 2 <;> simp [hc] <;> omega
theorem am_args_mem (ad : Nat → Nat) : ∀ (vs : List Value) (o i : Nat) (v : Value), (am_args vs)[i]? = some (some v) → (o + i, am_rv ad v) ∈ lv_args o (vs.map (am_rv ad)) := by
  intro vs
  induction vs with
  | nil => intro o i v h; simp [am_args] at h
  | cons w vs ih =>
    intro o i v h
    rw [am_args] at h
    simp only [List.map_cons, lv_args, am_rv_cat]
    by_cases hc : w.category = 2
    · rw [if_pos hc] at h ⊢
      match i, h with
      | 0, h => simp at h; subst h; exact List.mem_cons_self
      | 1, h => simp at h
      | i + 2, h =>
        simp only [List.getElem?_cons_succ] at h
        have := ih (o + 2) i v h
        rw [show o + 2 + i = o + (i + 2) by omega] at this
        exact List.mem_cons_of_mem _ this
    · rw [if_neg hc] at h ⊢
      match i, h with
      | 0, h => simp at h; subst h; exact List.mem_cons_self
      | i + 1, h =>
        simp only [List.getElem?_cons_succ] at h
        have := ih (o + 1) i v h
        rw [show o + 1 + i = o + (i + 1) by omega] at this
        exact List.mem_cons_of_mem _ this
theorem am_en_LV {ad : Nat → Nat} {vs : List Value} {n : Nat} {lsR : Array Slot} (hn : (am_args vs).length ≤ n) (h : lv_has lsR n (lv_args 0 (vs.map (am_rv ad)))) : am_LV ad (am_en vs n) lsR := by
  refine ⟨by rw [h.1]; simp [am_en]; omega, h.2.1, fun i v hv => ?_⟩
  unfold am_en at hv
  by_cases hi : i < (am_args vs).length
  · rw [List.getElem?_append_left hi] at hv
    have := am_args_mem ad vs 0 i v hv
    rw [Nat.zero_add] at this
    exact h.2.2 _ this
  · rw [List.getElem?_append_right (by omega)] at hv
    rw [List.getElem?_replicate] at hv
    split at hv <;> simp at hv
theorem am_nest0 : am_LK.all (fun e => decide (e.2.2.1 ≠ 3) || decide ((e.1, e.2.1) = (10, 51)) || decide ((e.1, e.2.1) = (12, 29)) || decide ((e.1, e.2.1) = (12, 45)) || decide ((e.1, e.2.1) = (12, 52)) || decide ((e.1, e.2.1) = (6, 30))) = true := by decide +kernel
set_option maxRecDepth 20000 in
theorem am_nest {X : am_X} {base : Nat} {ro : Nat → Nat} {s : State} {c i n : Nat} {ν : am_MM} (h : am_lk c i = some (3, n, ν)) (hO : am_RO X base ro s) : va_Nw (.methodLinkNest (am_cn c) i ν.2.1 RX12) s := by
  have h9 : (c, i) = (10, 51) ∨ (c, i) = (12, 29) ∨ (c, i) = (12, 45) ∨ (c, i) = (12, 52) ∨ (c, i) = (6, 30) := by
    have h' := h
    unfold am_lk at h'
    cases hf : am_LK.find? (fun e => e.1 == c && e.2.1 == i) with
    | none => rw [hf] at h'; cases h'
    | some e =>
      rw [hf] at h'
      have h1 := List.find?_some hf
      have h2 := List.mem_of_find?_eq_some hf
      have h3 := List.all_eq_true.mp am_nest0 _ h2
      simp only [Bool.and_eq_true, beq_iff_eq] at h1
      simp only [Option.map_some, Option.some.injEq] at h'
      simp only [Bool.or_eq_true, decide_eq_true_eq] at h3
      rw [h1.1, h1.2] at h3
      rcases h3 with ((((h3 | h3) | h3) | h3) | h3) | h3
      · rw [h'] at h3; exact absurd rfl h3
      · exact Or.inl h3
      · exact Or.inr (Or.inl h3)
      · exact Or.inr (Or.inr (Or.inl h3))
      · exact Or.inr (Or.inr (Or.inr (Or.inl h3)))
      · exact Or.inr (Or.inr (Or.inr (Or.inr h3)))
  obtain ⟨-, -, -, -, -, o1, o2, o3, o4, o5, -⟩ := hO
  rcases h9 with e | e | e | e | e <;> cases e
  · have e2 : am_lk 10 51 = some (3, 0, mX1_init) := rfl
    rw [e2] at h; cases h; exact o1
  · have e2 : am_lk 12 29 = some (3, 0, mX9_init) := rfl
    rw [e2] at h; cases h; exact o2
  · have e2 : am_lk 12 45 = some (3, 0, mX3_init) := rfl
    rw [e2] at h; cases h; exact o3
  · have e2 : am_lk 12 52 = some (3, 0, mX6_init) := rfl
    rw [e2] at h; cases h; exact o4
  · have e2 : am_lk 6 30 = some (3, 0, mX3_init) := rfl
    rw [e2] at h; cases h; exact o5
/-- a method's start and end -/
def am_Pc (X : am_X) (base : Nat) (ro : Nat → Nat) (ct : Nat → ClassId) (D : va_G) (as : List Value) (M : am_M) : Array Value → State → Prop := va_Pc (as.map (am_rv (am_ad base ro))) (fun U => U.heap.size = base + M.1 ∧ va_P D vwCl (am_Wd ct (am_ad base ro) M) U.heap ∧ va_K D vwCl (am_tl ct) U ∧ am_RO X base ro U)
def am_Qc (base : Nat) (ro : Nat → Nat) (ct : Nat → ClassId) (D : va_G) (v : Option Value) (M' : am_M) : Array Value → State → Outcome → State → Prop := fun _ st oc t => oc = .returned (v.map (am_rv (am_ad base ro))) ∧ va_P D vwCl (am_Wd ct (am_ad base ro) M') t.heap ∧ va_F (fun q => base ≤ q) st t
theorem am_blind {X : am_X} {base : Nat} {ro : Nat → Nat} {ct : Nat → ClassId} {D : va_G} {as : List Value} {M : am_M} : FrameBlind (am_Pc X base ro ct D as M) := by
  rintro a U g mk ⟨h0, h1, h2, h3, h4⟩
  exact ⟨h0, h1, h2, va_K.moved (u := U) (U := U.calling g mk a) (Vm.Alike.refl U.vm) h3, am_RO.moved (s := U) (U := U.calling g mk a) (State.WarmedH.refl U) (fun _ _ _ => rfl) h4⟩
