--! 98
/-! THE START: the two states are tied; the law's run -/
def R0 : Nat → Nat → Option Nat := fun _ _ => none
def RF : Nat → Nat → Option Nat := R13 (R12 R0)
theorem OR_fin : am_OR RF := by unfold am_OR; decide +kernel
theorem zR_12 {n : Nat} (h : 69 ≤ n) : zR n (R12 R0) := by
  have b : zR 69 R0 := fun _ _ _ => rfl
  have : zR 69 (R12 R0) := by
    unfold R12
    simp only [zR_u, zR_w, Nat.reduceLT, b]
  exact this.le h
theorem RF_40 (j : Nat) : RF 40 j = none := by
  unfold RF R13 R12
  simp only [am_u, am_w, Nat.reduceEqDiff, ↓reduceIte]
  rfl
theorem RF_41 (j : Nat) : RF 41 j = none := by
  unfold RF R13 R12
  simp only [am_u, am_w, Nat.reduceEqDiff, ↓reduceIte]
  rfl
theorem relR_fin : relR 116 RF := by
  refine ⟨OR_fin, by decide +kernel, fun j k _ h => ?_, fun j k _ h => ?_, fun i j k _ _ h _ => ?_, fun i j k _ _ h _ => ?_, fun i j k _ _ h _ => ?_, fun k hk => ?_, Or.inl ⟨by decide +kernel, by decide +kernel, by decide +kernel, by decide +kernel⟩⟩
  · rw [RF_40] at h; cases h
  · rw [RF_41] at h; cases h
  · rw [RF_40] at h; cases h
  · rw [RF_41] at h; cases h
  · rw [RF_40] at h; cases h
  · obtain ⟨h1, h2, h3⟩ := hk
    omega
theorem L13_k {L : Nat → Nat → Int64} : ∀ k, k < 20 → L13 L 76 k = lN (cdW 27 (wds.getD k [])) := by
  have key : ∀ k, k < 20 → L13 (fun _ _ => 0) 76 k = lN (cdW 27 (wds.getD k [])) := by decide +kernel
  intro k hk
  rw [← key k hk]
  have : k = 0 ∨ k = 1 ∨ k = 2 ∨ k = 3 ∨ k = 4 ∨ k = 5 ∨ k = 6 ∨ k = 7 ∨ k = 8 ∨ k = 9 ∨ k = 10 ∨ k = 11 ∨ k = 12 ∨ k = 13 ∨ k = 14 ∨ k = 15 ∨ k = 16 ∨ k = 17 ∨ k = 18 ∨ k = 19 := by omega
  rcases this with rfl | rfl | rfl | rfl | rfl | rfl | rfl | rfl | rfl | rfl | rfl | rfl | rfl | rfl | rfl | rfl | rfl | rfl | rfl | rfl <;> simp only [L13, am_u, Nat.reduceEqDiff, ↓reduceIte]
theorem L13_n {L : Nat → Nat → Int64} {k j : Nat} (h : k ≠ 76) : L13 L k j = L k j := by
  unfold L13
  simp only [am_u, h, ↓reduceIte]
theorem w0 : ∀ p, p < 5 → xw 0 p = 0 ∧ hdw 0 p = 0 ∧ hnw 0 p = 0 := by decide
theorem ps0 {r : Nat → Int32} (h : ∀ j, j < 15 → r j = nI 0) : psr 0 0 r := by
  refine ⟨by decide, fun p hp => ?_, fun p _ hp => (w0 p hp).1⟩
  obtain ⟨a, b, c⟩ := w0 p hp
  rw [a, b, c, h p (by omega), h (5 + p) (by omega), h (10 + p) (by omega)]
  exact ⟨rfl, rfl, rfl, by decide⟩
section XA
variable {X : am_X} {e n : Nat} {I I1 : Nat → Nat → Int32} {L L1 : Nat → Nat → Int64}
theorem rel_start (s1 : st12 I1) (w1 : relW L1) (lo : ∀ k j, k < 69 → I k j = I1 k j) (F : rf_S I σ0) (z89 : I 89 0 = nI 0 ∧ I 90 0 = nI 0) (h2 : I 69 2 = I1 69 2) (h17 : I 69 17 = -1) (row : ∀ j, j < 68 → I 103 j = rOp I σ0 (fun _ => nI 0) j) (h54 : ∀ j, j = 54 ∨ j = 60 → I 69 j = I1 69 j) (h114 : ∀ j, I 114 j = I1 114 j) : REL (116, I, L13 L1, RF) := by
  obtain ⟨a1, a2, a3, a4, a5, a6, a7, a8, a9, a10⟩ := s1
  have zz : (0 : Int32) = nI 0 := rfl
  have nP : ∀ j, ¬ j < p_P σ0 := fun j => Nat.not_lt_zero j
  have row' : ∀ j, j < 68 → I 103 j = if j = 18 then nI 1 else nI 0 := fun j hj => by
    rw [row j hj]
    unfold rOp
    rw [if_neg (nP j)]
    by_cases h18 : j < 18
    · rw [if_pos h18, if_neg (by omega)]
    · rw [if_neg h18]
      by_cases h : j = 18
      · rw [if_pos h, if_pos h]; rfl
      · rw [if_neg h, if_neg h]
  have op0 : ∀ j, opR I σ0 j = nI 0 := fun j => if_neg (nP j)
  show ∃ σ, relR 116 RF ∧ relL (L13 L1) ∧ relS I σ ∧ relT I ∧ crs I 34 (p_P σ) (p_S σ) (I 103) ∧ relU I RF (p_P σ) (p_S σ) ∧ relH I RF (p_P σ) (p_S σ) ∧ relJ I (p_P σ)
  refine ⟨σ0, relR_fin, fun k hk => ⟨by rw [L13_n (by omega)]; exact w1 k hk, L13_k k hk⟩, ⟨F, ⟨?_, ?_, ?_, fun s hs => absurd hs (Nat.not_lt_zero s), ?_⟩, ⟨by decide, by decide, by decide, fun s hs => absurd hs (Nat.not_lt_zero s)⟩, ?_, ?_, fun p hp => absurd hp (Nat.not_lt_zero p), fun c hc => absurd hc (Nat.not_lt_zero c), 0, ?_, ps0 (fun j _ => op0 j)⟩, ⟨0, by omega, ?_, ?_, fun j hj => absurd hj (Nat.not_lt_zero j), ?_⟩, ?_, ⟨0, 0, by omega, by omega, ?_, ?_, ?_, fun i hi => absurd hi (Nat.not_lt_zero i)⟩, ⟨0, by omega, ?_, fun i hi => ⟨?_, fun hb => ?_⟩⟩, ⟨0, by omega, ?_, ?_, fun i hi => absurd hi (Nat.not_lt_zero i)⟩⟩
  · rw [lo 2 0 (by omega)]; exact a4 0 (by omega)
  · rw [lo 2 1 (by omega)]; exact a4 1 (by omega)
  · rw [lo 2 2 (by omega)]; exact a4 2 (by omega)
  · exact a5.ag (fun k j k1 k2 => lo k j (by omega))
  · show I 2 3 = I 89 0
    rw [lo 2 3 (by omega), a4 3 (by omega), z89.1]
  · show I 2 4 = I 90 0
    rw [lo 2 4 (by omega), a4 4 (by omega), z89.2]
  · rw [lo 2 5 (by omega)]; exact a4 5 (by omega)
  · rw [lo 0 1 (by omega)]; exact a2
  · rw [h2, a1 69 2 (by omega)]; rfl
  · rw [lo 0 2 (by omega), a3, h17]
  · refine crs_new (w := 0) ?_ (ps0 (fun j hj => by rw [row' j (by omega), if_neg (by omega)])) (fun j j1 j2 j3 => by rw [row' j j2, if_neg j3]) (by rw [row' 18 (by omega), if_pos rfl])
    obtain ⟨c1, c2, c3, c4⟩ := a6
    exact ⟨by rw [lo 34 0 (by omega)]; exact c1, fun j j1 j2 j3 => by rw [lo 34 j (by omega)]; exact c2 j j1 j2 j3, by rw [lo 34 4 (by omega)]; exact c3, fun j hj => by rw [lo 35 j (by omega)]; exact c4 j hj⟩
  · rw [lo 39 4 (by omega)]; exact a9
  · rw [h54 54 (by omega), a1 69 54 (by omega)]; rfl
  · rw [lo 39 3 (by omega)]; exact a8
  · rw [lo 39 2 (by omega)]; exact a7
  · rw [h114 i, a1 114 i (by omega), Nat.zero_div]; rfl
  · rw [Nat.zero_div] at hb
    exact absurd hb (by decide)
  · rw [lo 57 10 (by omega)]; exact a10
  · rw [h54 60 (by omega), a1 69 60 (by omega)]; rfl
theorem lw_all (hX : X.1 ≤ 3072) : am_F X (e + 33) mL_law 0 [some (.ref 2000000), none, none, none] [] (0, fun _ _ => 0, fun _ _ => 0, R0) lwQ := by
  have hI : ∀ m, zI m (fun _ _ => 0) := fun _ _ _ _ => rfl
  have hL : ∀ m, zL m (fun _ _ => 0) := fun _ _ _ _ => rfl
  have hR : ∀ m, zR m R0 := fun _ _ _ _ => rfl
  simp only [fL_law_0, am_mk, hI, hL, hR, fL_law_3, fL_law_4, shr_0, Nat.reduceLT, Nat.reduceAdd, Nat.reduceLeDiff, am_ci, am_cr, am_cn0, am_s0, am_s1, am_s1r]
  refine i_X12 (d := e + 26) (hI 0) (hL 0) (hR 0) (fun a b v h => by cases h) (fun I1 L1 s1 l1 w1 => ?_)
  have zI1 : ∀ m, 69 ≤ m → zI m I1 := fun m hm k j hk => s1.1 k j (by omega)
  have zL1 : ∀ m, 69 ≤ m → zL m L1 := fun m hm k j hk => l1 k j (by omega) (by omega)
  have zR1 : ∀ m, 69 ≤ m → zR m (R12 R0) := fun m hm => zR_12 hm
  simp only [Option.toList_none, List.nil_append]
  refine am_F_E (ls := [some (.ref 2000000), none, none, none]) (st := [.ref 0]) ?_
  simp only [am_lv_of, rL_law_7, rL_law_8, am_mk, zI1, zL1, zR1, rL_law_11, rL_law_12, sh_69, Nat.reduceLT, Nat.reduceAdd, Nat.reduceLeDiff, am_ci, am_cr, am_cn0, am_s0, am_s1, am_s1r]
  refine i_X13 (d := e + 29) (zI1 70 (by omega)) (zL1 70 (by omega)) (zR1 70 (by omega)) OR_fin (fun I2 lo F z89 h2 h17 row h54 h114 => ?_) (by rw [s1.1 69 18 (by omega)]; rfl)
  simp only [am_lv_of, Option.toList_none, List.nil_append, rL_law_15, rL_law_16, rL_law_17, am_ci, am_cr, am_cn0]
  refine am_E_mono (Q := lwQ) ?_ (fun v M' h => by have h : v = some (.int (nI 1)) := h; subst h; rfl)
  exact lw_loop hX X.1 0 116 I2 (L13 L1) RF (by omega) (Nat.zero_le _) (rel_start s1 w1 lo F z89 h2 h17 row h54 h114)
end XA
theorem am_goal_ok : am_goal := by
  intro L xs hL
  obtain ⟨f, v, M', h1, h2⟩ := lw_all (X := (L, xs)) (e := 7) hL
  have h2 : v = some (.int (nI 1)) := h2
  subst h2
  exact ⟨f, M', h1⟩
