--! 59
/-! A TURN ENDS: course and row -/
theorem rVd_ok (x : Int32) : ∃ v, v ≤ 2 ∧ rVd x = nI v := by
  unfold rVd
  by_cases h : 0 ≤ x
  · obtain ⟨j, hj, rfl⟩ := nI_of (Int32.not_lt.mpr h)
    rw [if_pos h, pk_rem hj (by omega) (by omega)]
    exact ⟨j % 3, by omega, rfl⟩
  · rw [if_neg h]
    exact ⟨0, by omega, rfl⟩
theorem tgI_le {f : Nat → Int32} {p : Nat} : ∀ (m o : Nat), tgI f p o m ≤ m := by
  intro m
  induction m with
  | zero => intro o; exact Nat.le_refl 0
  | succ m ih => intro o; rw [tgI]; have := ih (o + 1); split <;> omega
theorem tgO_le {f : Nat → Int32} {P : Nat} (hP : P ≤ 5) : ∀ (m p : Nat), tgO f P p m ≤ m * 5 := by
  intro m
  induction m with
  | zero => intro p; exact Nat.zero_le _
  | succ m ih => intro p; rw [tgO]; have := ih (p + 1); have := tgI_le (f := f) (p := p) (P - (p + 1)) (p + 1); omega
theorem tg_le {f : Nat → Int32} {P : Nat} (hP : P ≤ 5) : tg f P ≤ 25 := by
  have := tgO_le (f := f) hP P 0
  unfold tg
  omega
theorem psr.apB {w P : Nat} {r : Nat → Int32} (h : psr w P r) (hP : P ≤ 5) : bnd (rAp r P) := by
  rw [← h.ap hP]
  have a0 := (h.2.1 0 (by omega)).2.2.2
  have a1 := (h.2.1 1 (by omega)).2.2.2
  unfold bnd
  rw [pk_sub_toInt (by omega) (by omega)]
  omega
theorem tgB {f : Nat → Int32} {P : Nat} (hP : P ≤ 5) : bnd (nI (tg f P)) := by
  have := tg_le (f := f) hP
  unfold bnd
  rw [nI_toInt (by omega)]
  omega
section TD
variable {X : am_X} {d n : Nat} {I : Nat → Nat → Int32} {L : Nat → Nat → Int64} {R : Nat → Nat → Option Nat} {Q : Option Value → am_M → Prop} {σ : rfP}
theorem rEnd_n {r : Nat → Int32} {j : Nat} (h1 : j ≠ 15) (h2 : j ≠ 16) (h3 : j ≠ 17) : rEnd σ r j = r j := by
  unfold rEnd rEn0
  rw [upd_n h3, upd_n h2, upd_n h1]
theorem rEnd_15 {r : Nat → Int32} : rEnd σ r 15 = nI 1 - r 15 := by
  unfold rEnd rEn0
  rw [upd_n (by omega), upd_n (by omega), upd_at]
theorem rEnd_16 {r : Nat → Int32} : rEnd σ r 16 = r 16 + nI 1 := by
  unfold rEnd rEn0
  rw [upd_n (by omega), upd_at]
theorem rEnd_17 {r : Nat → Int32} : rEnd σ r 17 = rVerd σ (rEn0 r) := by
  unfold rEnd
  rw [upd_at]
theorem flip2 {x : Int32} (h : x = nI 0 ∨ x = nI 1) : nI 1 - x = nI 0 ∨ nI 1 - x = nI 1 := by
  rcases h with rfl | rfl
  · right; decide
  · left; decide
/-- the three fields that a turn changes first -/
def tOv (I J : Nat → Nat → Int32) : Prop := (∀ j, j ≠ 1 → j ≠ 2 → j ≠ 5 → J 34 j = I 34 j) ∧ J 34 1 = I 34 1 + nI 1 ∧ J 34 5 = I 34 5 + nI 1 ∧ J 34 2 = nI 1 - I 34 2 ∧ ∀ k j, 35 ≤ k → k < 39 → J k j = I k j
theorem c_turnOver (hR : am_OR R) (hN : 116 ≤ n) (hn : n ≤ 1000) (hQ : ∀ I', am_ag (coP 34) I I' → tOv I I' → Q none (n, I', L, R)) : am_E X d mX3_turnOver 0 [some (.ref 34)] [] (n, I, L, R) Q := by
  have hl := am_lt hN
  have hvw9 := am_lw hN
  simp only [am_lv_of, rX3_turnOver_0, rX3_turnOver_1, rX3_turnOver_2, rX3_turnOver_5, rX3_turnOver_6, rX3_turnOver_7, rX3_turnOver_10, rX3_turnOver_11, rX3_turnOver_12, rX3_turnOver_15, rX3_turnOver_16, rX3_turnOver_17, rX3_turnOver_20, rX3_turnOver_21, rX3_turnOver_22, rX3_turnOver_23, rX3_turnOver_26, rX3_turnOver_27, rX3_turnOver_30, ro_0_0 hR, ro_0_3 hR, ro_0_4 hR, ro_0_5 hR, ro_0_6 hR, ro_0_7 hR, ro_0_8 hR, ro_0_9 hR, ro_0_10 hR, ro_0_11 hR, ro_2_6 hR, ro_2_7 hR, ro_2_8 hR, ro_2_9 hR, ro_2_10 hR, ro_2_11 hR, ro_2_12 hR, ro_2_13 hR, ro_9_0 hR, ro_9_1 hR, ro_9_2 hR, ro_14_0 hR, ro_14_1 hR, ro_14_2 hR, ro_14_7 hR, ro_15_0 hR, ro_15_1 hR, ro_15_2 hR, ro_15_3 hR, ro_20_6 hR, ro_20_7 hR, ro_20_8 hR, ro_20_9 hR, ro_20_10 hR, ro_20_11 hR, ro_20_12 hR, ro_20_13 hR, ro_27_0 hR, ro_27_1 hR, ro_27_2 hR, ro_32_0 hR, ro_32_1 hR, ro_34_10 hR, ro_34_11 hR, ro_34_12 hR, ro_34_13 hR, ro_39_0 hR, ro_39_1 hR, ro_42_0 hR, ro_42_1 hR, ro_47_0 hR, ro_47_1 hR, ro_47_2 hR, ro_47_3 hR, ro_55_0 hR, ro_55_1 hR, ro_55_2 hR, ro_57_0 hR, ro_57_1 hR, ro_57_2 hR, ro_57_3 hR, ro_57_4 hR, ro_57_5 hR, ro_57_8 hR, sh_0, sh_1, sh_2, sh_3, sh_4, sh_5, sh_6, sh_7, sh_8, sh_9, sh_10, sh_11, sh_12, sh_13, sh_14, sh_15, sh_16, sh_17, sh_18, sh_19, sh_20, sh_21, sh_22, sh_23, sh_24, sh_25, sh_26, sh_27, sh_28, sh_29, sh_30, sh_31, sh_32, sh_33, sh_34, sh_35, sh_36, sh_37, sh_38, sh_39, sh_40, sh_41, sh_42, sh_43, sh_44, sh_45, sh_46, sh_47, sh_48, sh_49, sh_50, sh_51, sh_52, sh_53, sh_54, sh_55, sh_56, sh_57, sh_58, sh_59, sh_60, sh_61, sh_62, sh_63, sh_64, sh_65, sh_66, sh_67, sh_68, hl, hvw9, Nat.reduceLT, Nat.reduceAdd, Nat.reduceMul, ne_eq, Nat.reduceEqDiff, not_false_eq_true, or_true, true_or, or_false, false_or, and_true, true_and, and_self, Nat.reduceLeDiff, am_ci, am_cr, am_cn0, Option.toList_some, Option.toList_none, List.cons_append, List.nil_append, am_s0, am_s1, am_s1r, am_s2, am_s2r, am_s3r, nI_add, am_u_ne, am_u_at, am_u_n1, am_u_n2, am_w_ne, hn]
  refine hQ _ (fun k j hk => ?_) ⟨fun j j1 j2 j3 => ?_, ?_, ?_, ?_, fun k j hk hk2 => ?_⟩
  · unfold coP at hk
    simp [am_u, show ¬ k = 34 by omega]
  · simp [am_u, j1, j2, j3]
  · simp [am_u]
  · simp [am_u]
  · simp [am_u]
  · simp [am_u, show ¬ k = 34 by omega]
theorem crs_tOv {J : Nat → Nat → Int32} {P S : Nat} {r : Nat → Int32} (h : crs I 34 P S r) (h0 : r 17 = nI 0) (g : tOv I J) (hv : rVerd σ (rEn0 r) = nI 0) {Kx : Nat} : crs J 34 P S (rKp P (rEnd σ r) 0 Kx) := by
  obtain ⟨w, K, h1, h2, h3, h4, h5, h6, h7, h8, h9, h10, h11, h12, h13, h14, h15, h16, h17⟩ := h
  obtain ⟨g2, g3, g4, g5, g6⟩ := g
  have er : ∀ j, rKp P (rEnd σ r) 0 Kx j = if j = 19 then r 19 + nI 1 else rEnd σ r j := fun j => by
    unfold rKp
    rw [if_pos rfl]
    by_cases e : j = 19
    · subst e; rw [upd_at, if_pos rfl, rEnd_n (by omega) (by omega) (by omega)]
    · rw [upd_n e, if_neg e]
  have es : ∀ j, j ≠ 15 → j ≠ 16 → j ≠ 17 → j ≠ 19 → rKp P (rEnd σ r) 0 Kx j = r j := fun j j1 j2 j3 j4 => by rw [er, if_neg j4, rEnd_n j1 j2 j3]
  refine ⟨w, K, ?_, h2.mv' (fun j hj => es j (by omega) (by omega) (by omega) (by omega)), ?_, ?_, ?_, ?_, ?_, ?_, ?_, ?_, ?_, ?_, h13, fun s hs => ?_, fun i hi => ?_, ?_, ?_⟩
  · rw [g2 0 (by omega) (by omega) (by omega)]; exact h1
  · rw [g3, er, if_neg (by omega), rEnd_16, h3]
  · rw [g5, er, if_neg (by omega), rEnd_15, h4]
  · rw [g2 3 (by omega) (by omega) (by omega), er, if_neg (by omega), rEnd_17, h5, h0, hv]
  · rw [g2 4 (by omega) (by omega) (by omega), es _ (by omega) (by omega) (by omega) (by omega)]; exact h6
  · rw [g4, er, if_pos rfl, h7]
  · rw [g2 6 (by omega) (by omega) (by omega), es _ (by omega) (by omega) (by omega) (by omega)]; exact h8
  · rw [g2 7 (by omega) (by omega) (by omega), es _ (by omega) (by omega) (by omega) (by omega)]; exact h9
  · rw [g2 8 (by omega) (by omega) (by omega), es _ (by omega) (by omega) (by omega) (by omega)]; exact h10
  · rw [g2 9 (by omega) (by omega) (by omega)]; exact h11
  · rw [es _ (by omega) (by omega) (by omega) (by omega)]; exact h12
  · rw [g6 _ _ (by omega) (by omega), es _ (by omega) (by omega) (by omega) (by omega)]; exact h14 s hs
  · rw [g6 _ _ (by omega) (by omega), g6 _ _ (by omega) (by omega), g6 _ _ (by omega) (by omega), es _ (by omega) (by omega) (by omega) (by omega), es _ (by omega) (by omega) (by omega) (by omega), es _ (by omega) (by omega) (by omega) (by omega)]; exact h15 i hi
  · rw [er, if_neg (by omega), rEnd_15]; exact flip2 h16
  · rw [er, if_neg (by omega), rEnd_17, hv]; exact Or.inl rfl
/-- precedents behind a closing -/
def kpK (K : Nat) : Nat := if K = 12 then 11 else K
def kpE (K : Nat) : Nat := if K = 12 then 1 else 0
theorem rKp_at {P v K : Nat} {q : Nat → Int32} (hv : v = 1 ∨ v = 2) (hK : K ≤ 12) : (∀ j, j < 31 → j ≠ 19 → j ≠ 27 + v → j ≠ 30 → rKp P q v K j = q j) ∧ rKp P q v K 19 = q 19 + nI 1 ∧ rKp P q v K (27 + v) = q (27 + v) + nI 1 ∧ rKp P q v K 30 = nI (kpK K + 1) ∧ (∀ i, i < kpK K → ∀ c, c < 3 → rKp P q v K (31 + 3 * i + c) = q (31 + 3 * (i + kpE K) + c)) ∧ rKp P q v K (31 + 3 * kpK K) = rAp q P ∧ rKp P q v K (31 + 3 * kpK K + 1) = nI (tg q P) ∧ rKp P q v K (31 + 3 * kpK K + 2) = nI v := by
  have h0 : ¬ v = 0 := by omega
  unfold kpK kpE
  by_cases h12 : K = 12
  · subst h12
    have e : rKp P q v 12 = rK4 (upd (rSh (rK2 q v)) 30 (nI 11)) 11 (rAp q P) (nI (tg q P)) (nI v) := by unfold rKp; rw [if_neg h0, if_pos rfl]
    rw [e]
    simp only [if_true]
    refine ⟨fun j j1 j2 j3 j4 => ?_, ?_, ?_, ?_, fun i hi c hc => ?_, ?_, ?_, ?_⟩
    · unfold rK4
      rw [upd_n j4, upd_n (by omega), upd_n (by omega), upd_n (by omega), upd_n j4]
      unfold rSh rK2
      rw [if_neg (by omega), upd_n j3, upd_n j2]
    · unfold rK4
      rw [upd_n (by omega), upd_n (by omega), upd_n (by omega), upd_n (by omega), upd_n (by omega)]
      unfold rSh rK2
      rw [if_neg (by omega), upd_n (by omega), upd_at]
    · unfold rK4
      rw [upd_n (by omega), upd_n (by omega), upd_n (by omega), upd_n (by omega), upd_n (by omega)]
      unfold rSh rK2
      rw [if_neg (by omega), upd_at]
    · unfold rK4
      rw [upd_at]
    · unfold rK4
      rw [upd_n (by omega), upd_n (by omega), upd_n (by omega), upd_n (by omega), upd_n (by omega)]
      unfold rSh rK2
      rw [if_pos (by omega), upd_n (by omega), upd_n (by omega)]
      exact congrArg q (by omega)
    · unfold rK4
      rw [upd_n (by omega), upd_n (by omega), upd_n (by omega), upd_at]
    · unfold rK4
      rw [upd_n (by omega), upd_n (by omega), upd_at]
    · unfold rK4
      rw [upd_n (by omega), upd_at]
  · have e : rKp P q v K = rK4 (rK2 q v) K (rAp q P) (nI (tg q P)) (nI v) := by unfold rKp; rw [if_neg h0, if_neg h12]
    rw [e]
    simp only [if_neg h12]
    refine ⟨fun j j1 j2 j3 j4 => ?_, ?_, ?_, ?_, fun i hi c hc => ?_, ?_, ?_, ?_⟩
    · unfold rK4
      rw [upd_n j4, upd_n (by omega), upd_n (by omega), upd_n (by omega)]
      unfold rK2
      rw [upd_n j3, upd_n j2]
    · unfold rK4
      rw [upd_n (by omega), upd_n (by omega), upd_n (by omega), upd_n (by omega)]
      unfold rK2
      rw [upd_n (by omega), upd_at]
    · unfold rK4
      rw [upd_n (by omega), upd_n (by omega), upd_n (by omega), upd_n (by omega)]
      unfold rK2
      rw [upd_at]
    · unfold rK4
      rw [upd_at]
    · unfold rK4
      rw [upd_n (by omega), upd_n (by omega), upd_n (by omega), upd_n (by omega)]
      unfold rK2
      rw [upd_n (by omega), upd_n (by omega)]
      exact congrArg q (by omega)
    · unfold rK4
      rw [upd_n (by omega), upd_n (by omega), upd_n (by omega), upd_at]
    · unfold rK4
      rw [upd_n (by omega), upd_n (by omega), upd_at]
    · unfold rK4
      rw [upd_n (by omega), upd_at]
theorem crs_clo {J J' : Nat → Nat → Int32} {P S v K : Nat} {r : Nat → Int32} (hP : P ≤ 5) (h : crs I 34 P S r) (hK : r 30 = nI K) (hK2 : K ≤ 12) (g : tOv I J) (hv : v = 1 ∨ v = 2) (hvd : rVerd σ (rEn0 r) = nI v) (k : clo J J' v (kpK K) (kpE K) (rAp (rEnd σ r) P) (nI (tg (rEnd σ r) P))) : crs J' 34 P S (rKp P (rEnd σ r) v K) := by
  obtain ⟨w, K0, h1, h2, h3, h4, h5, h6, h7, h8, h9, h10, h11, h12, h13, h14, h15, h16, h17⟩ := h
  have eK : K0 = K := by
    have := h12.symm.trans hK
    exact (nI_eq (by omega) (by omega)).mp this
  subst eK
  obtain ⟨g2, g3, g4, g5, g6⟩ := g
  obtain ⟨k1, k2, k3, k4, k5, k6, k7, k8, k9, k10⟩ := k
  obtain ⟨a1, a2, a3, a4, a5, a6, a7, a8⟩ := rKp_at (P := P) (q := rEnd σ r) hv hK2
  have hkk : kpK K0 + 1 ≤ 12 := by unfold kpK; split <;> omega
  have hke : ∀ i, i < kpK K0 → i + kpE K0 < K0 := fun i hi => by unfold kpK at hi; unfold kpE; split <;> rename_i hh <;> simp only [hh, if_true, if_false] at hi <;> omega
  have hp2 : psr w P (rEnd σ r) := h2.mv' (fun j hj => rEnd_n (by omega) (by omega) (by omega))
  have es : ∀ j, j < 31 → j ≠ 15 → j ≠ 16 → j ≠ 17 → j ≠ 19 → j ≠ 27 + v → j ≠ 30 → rKp P (rEnd σ r) v K0 j = r j := fun j j0 j1 j2 j3 j4 j5 j6 => by rw [a1 j j0 j4 j5 j6, rEnd_n j1 j2 j3]
  refine ⟨w, kpK K0 + 1, ?_, hp2.mv' (fun j hj => a1 j (by omega) (by omega) (by omega) (by omega)), ?_, ?_, ?_, ?_, ?_, ?_, ?_, ?_, ?_, ?_, hkk, fun s hs => ?_, fun i hi => ?_, ?_, ?_⟩
  · rw [k2 0 (by omega) (by omega) (by omega), g2 0 (by omega) (by omega) (by omega)]; exact h1
  · rw [k2 1 (by omega) (by omega) (by omega), g3, a1 16 (by omega) (by omega) (by omega) (by omega), rEnd_16, h3]
  · rw [k2 2 (by omega) (by omega) (by omega), g5, a1 15 (by omega) (by omega) (by omega) (by omega), rEnd_15, h4]
  · rw [k3, a1 17 (by omega) (by omega) (by omega) (by omega), rEnd_17, hvd]
  · rw [k2 4 (by omega) (by omega) (by omega), g2 4 (by omega) (by omega) (by omega), es 18 (by omega) (by omega) (by omega) (by omega) (by omega) (by omega) (by omega)]; exact h6
  · rw [k2 5 (by omega) (by omega) (by omega), g4, a2, rEnd_n (by omega) (by omega) (by omega), h7]
  · rw [k2 6 (by omega) (by omega) (by omega), g2 6 (by omega) (by omega) (by omega), es 20 (by omega) (by omega) (by omega) (by omega) (by omega) (by omega) (by omega)]; exact h8
  · rcases hv with rfl | rfl
    · rw [k4, a3, rEnd_n (by omega) (by omega) (by omega), g2 7 (by omega) (by omega) (by omega), h9]
    · rw [k2 7 (by omega) (by omega) (by omega), g2 7 (by omega) (by omega) (by omega), es 28 (by omega) (by omega) (by omega) (by omega) (by omega) (by omega) (by omega)]; exact h9
  · rcases hv with rfl | rfl
    · rw [k2 8 (by omega) (by omega) (by omega), g2 8 (by omega) (by omega) (by omega), es 29 (by omega) (by omega) (by omega) (by omega) (by omega) (by omega) (by omega)]; exact h10
    · rw [k4, a3, rEnd_n (by omega) (by omega) (by omega), g2 8 (by omega) (by omega) (by omega), h10]
  · exact k5
  · exact a4
  · rw [k6, g6 35 _ (by omega) (by omega), es (21 + s) (by omega) (by omega) (by omega) (by omega) (by omega) (by omega) (by omega)]; exact h14 s hs
  · by_cases hi2 : i = kpK K0
    · subst hi2
      refine ⟨by rw [k8, a6], by rw [k9, show 32 + 3 * kpK K0 = 31 + 3 * kpK K0 + 1 by omega, a7], by rw [k10, show 33 + 3 * kpK K0 = 31 + 3 * kpK K0 + 2 by omega, a8], by rw [a6]; exact hp2.apB hP, by rw [show 32 + 3 * kpK K0 = 31 + 3 * kpK K0 + 1 by omega, a7]; exact tgB hP⟩
    · have hi3 : i < kpK K0 := by omega
      obtain ⟨x1, x2, x3⟩ := k7 i hi3
      have b0 := a5 i hi3 0 (by omega)
      have b1 := a5 i hi3 1 (by omega)
      have b2 := a5 i hi3 2 (by omega)
      obtain ⟨y1, y2, y3, y4, y5⟩ := h15 (i + kpE K0) (hke i hi3)
      rw [rEnd_n (by omega) (by omega) (by omega)] at b0 b1 b2
      rw [show 32 + 3 * i = 31 + 3 * i + 1 by omega, show 33 + 3 * i = 31 + 3 * i + 2 by omega, show (31 + 3 * i) = 31 + 3 * i + 0 by omega, b0, show 31 + 3 * i + 0 + 1 = 31 + 3 * i + 1 by omega, show 31 + 3 * i + 0 + 2 = 31 + 3 * i + 2 by omega, b1, b2, x1, x2, x3, g6 36 _ (by omega) (by omega), g6 37 _ (by omega) (by omega), g6 38 _ (by omega) (by omega)]
      rw [show 32 + 3 * (i + kpE K0) = 31 + 3 * (i + kpE K0) + 1 by omega] at y2 y5
      rw [show 33 + 3 * (i + kpE K0) = 31 + 3 * (i + kpE K0) + 2 by omega] at y3
      exact ⟨y1, y2, y3, y4, y5⟩
  · rw [a1 15 (by omega) (by omega) (by omega) (by omega), rEnd_15]; exact flip2 h16
  · rw [a1 17 (by omega) (by omega) (by omega) (by omega), rEnd_17, hvd]
    rcases hv with rfl | rfl
    · exact Or.inr (Or.inl rfl)
    · exact Or.inr (Or.inr rfl)
def ctP (k j : Nat) : Prop := coP 34 k j ∨ skc k j
theorem c_endTurn {r : Nat → Int32} (hR : am_OR R) (hN : 116 ≤ n) (hn : n ≤ 1000) (ho : ok_S σ) (H : cl_S I σ) (h : crs I 34 (p_P σ) (p_S σ) r) (h0 : r 17 = nI 0) (hQ : ∀ I' v K, v ≤ 2 → rVerd σ (rEn0 r) = nI v → r 30 = nI K → K ≤ 12 → am_ag ctP I I' → crs I' 34 (p_P σ) (p_S σ) (rKp (p_P σ) (rEnd σ r) v K) → Q none (n, I', L, R)) : am_E X (d + 4) mX12_endTurn 0 [some (.ref 0), none] [] (n, I, L, R) Q := by
  have hl := am_lt hN
  have hvw9 := am_lw hN
  have o1 := ho.1
  obtain ⟨w, K, h1, h2, h3, h4, h5, h6, h7, h8, h9, h10, h11, h12, h13, h14, h15, h16, h17⟩ := id h
  simp only [am_lv_of, rX12_endTurn_0, rX12_endTurn_1, rX12_endTurn_4, ro_0_0 hR, ro_0_3 hR, ro_0_4 hR, ro_0_5 hR, ro_0_6 hR, ro_0_7 hR, ro_0_8 hR, ro_0_9 hR, ro_0_10 hR, ro_0_11 hR, ro_2_6 hR, ro_2_7 hR, ro_2_8 hR, ro_2_9 hR, ro_2_10 hR, ro_2_11 hR, ro_2_12 hR, ro_2_13 hR, ro_9_0 hR, ro_9_1 hR, ro_9_2 hR, ro_14_0 hR, ro_14_1 hR, ro_14_2 hR, ro_14_7 hR, ro_15_0 hR, ro_15_1 hR, ro_15_2 hR, ro_15_3 hR, ro_20_6 hR, ro_20_7 hR, ro_20_8 hR, ro_20_9 hR, ro_20_10 hR, ro_20_11 hR, ro_20_12 hR, ro_20_13 hR, ro_27_0 hR, ro_27_1 hR, ro_27_2 hR, ro_32_0 hR, ro_32_1 hR, ro_34_10 hR, ro_34_11 hR, ro_34_12 hR, ro_34_13 hR, ro_39_0 hR, ro_39_1 hR, ro_42_0 hR, ro_42_1 hR, ro_47_0 hR, ro_47_1 hR, ro_47_2 hR, ro_47_3 hR, ro_55_0 hR, ro_55_1 hR, ro_55_2 hR, ro_57_0 hR, ro_57_1 hR, ro_57_2 hR, ro_57_3 hR, ro_57_4 hR, ro_57_5 hR, ro_57_8 hR, sh_0, sh_1, sh_2, sh_3, sh_4, sh_5, sh_6, sh_7, sh_8, sh_9, sh_10, sh_11, sh_12, sh_13, sh_14, sh_15, sh_16, sh_17, sh_18, sh_19, sh_20, sh_21, sh_22, sh_23, sh_24, sh_25, sh_26, sh_27, sh_28, sh_29, sh_30, sh_31, sh_32, sh_33, sh_34, sh_35, sh_36, sh_37, sh_38, sh_39, sh_40, sh_41, sh_42, sh_43, sh_44, sh_45, sh_46, sh_47, sh_48, sh_49, sh_50, sh_51, sh_52, sh_53, sh_54, sh_55, sh_56, sh_57, sh_58, sh_59, sh_60, sh_61, sh_62, sh_63, sh_64, sh_65, sh_66, sh_67, sh_68, hl, hvw9, Nat.reduceLT, Nat.reduceAdd, Nat.reduceMul, ne_eq, Nat.reduceEqDiff, not_false_eq_true, or_true, true_or, or_false, false_or, and_true, true_and, and_self, Nat.reduceLeDiff, am_ci, am_cr, am_cn0, Option.toList_some, Option.toList_none, List.cons_append, List.nil_append, am_s0, am_s1, am_s1r, am_s2, am_s2r, am_s3r, nI_add, am_u_ne, am_u_at, am_u_n1, am_u_n2, am_w_ne]
  refine c_turnOver hR hN hn (fun J ga g => ?_)
  have HJ : cl_S J σ := H.ag (fun k j hk => ga k j (by unfold coP; omega))
  have j0 : J 34 0 = nI w := by rw [g.1 0 (by omega) (by omega) (by omega)]; exact h1
  have j1 : J 34 1 = rEn0 r 16 := by rw [g.2.1, h3]; unfold rEn0; rw [upd_at]
  have p1 : psr w (p_P σ) (rEn0 r) := h2.mv' (fun j hj => by unfold rEn0; rw [upd_n (by omega), upd_n (by omega)])
  simp only [am_lv_of, rX12_endTurn_7, rX12_endTurn_8, rX12_endTurn_11, rX12_endTurn_12, rX12_endTurn_15, rX12_endTurn_18, rX12_endTurn_19, rX12_endTurn_22, rX12_endTurn_25, ro_0_0 hR, ro_0_3 hR, ro_0_4 hR, ro_0_5 hR, ro_0_6 hR, ro_0_7 hR, ro_0_8 hR, ro_0_9 hR, ro_0_10 hR, ro_0_11 hR, ro_2_6 hR, ro_2_7 hR, ro_2_8 hR, ro_2_9 hR, ro_2_10 hR, ro_2_11 hR, ro_2_12 hR, ro_2_13 hR, ro_9_0 hR, ro_9_1 hR, ro_9_2 hR, ro_14_0 hR, ro_14_1 hR, ro_14_2 hR, ro_14_7 hR, ro_15_0 hR, ro_15_1 hR, ro_15_2 hR, ro_15_3 hR, ro_20_6 hR, ro_20_7 hR, ro_20_8 hR, ro_20_9 hR, ro_20_10 hR, ro_20_11 hR, ro_20_12 hR, ro_20_13 hR, ro_27_0 hR, ro_27_1 hR, ro_27_2 hR, ro_32_0 hR, ro_32_1 hR, ro_34_10 hR, ro_34_11 hR, ro_34_12 hR, ro_34_13 hR, ro_39_0 hR, ro_39_1 hR, ro_42_0 hR, ro_42_1 hR, ro_47_0 hR, ro_47_1 hR, ro_47_2 hR, ro_47_3 hR, ro_55_0 hR, ro_55_1 hR, ro_55_2 hR, ro_57_0 hR, ro_57_1 hR, ro_57_2 hR, ro_57_3 hR, ro_57_4 hR, ro_57_5 hR, ro_57_8 hR, sh_0, sh_1, sh_2, sh_3, sh_4, sh_5, sh_6, sh_7, sh_8, sh_9, sh_10, sh_11, sh_12, sh_13, sh_14, sh_15, sh_16, sh_17, sh_18, sh_19, sh_20, sh_21, sh_22, sh_23, sh_24, sh_25, sh_26, sh_27, sh_28, sh_29, sh_30, sh_31, sh_32, sh_33, sh_34, sh_35, sh_36, sh_37, sh_38, sh_39, sh_40, sh_41, sh_42, sh_43, sh_44, sh_45, sh_46, sh_47, sh_48, sh_49, sh_50, sh_51, sh_52, sh_53, sh_54, sh_55, sh_56, sh_57, sh_58, sh_59, sh_60, sh_61, sh_62, sh_63, sh_64, sh_65, sh_66, sh_67, sh_68, hl, hvw9, Nat.reduceLT, Nat.reduceAdd, Nat.reduceMul, ne_eq, Nat.reduceEqDiff, not_false_eq_true, or_true, true_or, or_false, false_or, and_true, true_and, and_self, Nat.reduceLeDiff, am_ci, am_cr, am_cn0, Option.toList_some, Option.toList_none, List.cons_append, List.nil_append, am_s0, am_s1, am_s1r, am_s2, am_s2r, am_s3r, nI_add, am_u_ne, am_u_at, am_u_n1, am_u_n2, am_w_ne, j0, j1]
  refine c_verdictOn hR hN hn ho HJ p1 (fun J1 g1 => ?_)
  obtain ⟨v, hv, ev⟩ := rVd_ok (lawO (rV (rEn0 r) (p_P σ)) (nI 0) (p_lw σ 1))
  have ev : rVerd σ (rEn0 r) = nI v := ev
  rw [ev]
  have gt : am_ag ctP I J1 := (ga.mono (fun k j z => Or.inl z)).trans (g1.mono (fun k j z => Or.inr z))
  have q : ∀ k j, 34 ≤ k → k < 39 → J1 k j = J k j := fun k j k1 k2 => g1 k j (by unfold skc; omega)
  have t1 : tOv I J1 := by
    obtain ⟨a2, a3, a4, a5, a6⟩ := g
    exact ⟨fun j x1 x2 x3 => by rw [q 34 j (by omega) (by omega)]; exact a2 j x1 x2 x3, by rw [q 34 1 (by omega) (by omega)]; exact a3, by rw [q 34 5 (by omega) (by omega)]; exact a4, by rw [q 34 2 (by omega) (by omega)]; exact a5, fun k j k1 k2 => by rw [q k j (by omega) (by omega)]; exact a6 k j k1 k2⟩
  have HJ1 := HJ.sk g1
  by_cases hv0 : v = 0
  · subst hv0
    have z : nI 0 = (0 : Int32) := rfl
    simp only [am_lv_of, Option.toList_some, List.cons_append, List.nil_append, rX12_endTurn_28, rX12_endTurn_29, rX12_endTurn_30, rX12_endTurn_33, rX12_endTurn_34, rX12_endTurn_37, rX12_endTurn_38, rX12_endTurn_41, rX12_endTurn_44, rX12_endTurn_47, rX12_endTurn_48, rX12_endTurn_51, rX12_endTurn_52, rX12_endTurn_55, rX12_endTurn_58, rX12_endTurn_61, rX12_endTurn_62, rX12_endTurn_65, ro_0_0 hR, ro_0_3 hR, ro_0_4 hR, ro_0_5 hR, ro_0_6 hR, ro_0_7 hR, ro_0_8 hR, ro_0_9 hR, ro_0_10 hR, ro_0_11 hR, ro_2_6 hR, ro_2_7 hR, ro_2_8 hR, ro_2_9 hR, ro_2_10 hR, ro_2_11 hR, ro_2_12 hR, ro_2_13 hR, ro_9_0 hR, ro_9_1 hR, ro_9_2 hR, ro_14_0 hR, ro_14_1 hR, ro_14_2 hR, ro_14_7 hR, ro_15_0 hR, ro_15_1 hR, ro_15_2 hR, ro_15_3 hR, ro_20_6 hR, ro_20_7 hR, ro_20_8 hR, ro_20_9 hR, ro_20_10 hR, ro_20_11 hR, ro_20_12 hR, ro_20_13 hR, ro_27_0 hR, ro_27_1 hR, ro_27_2 hR, ro_32_0 hR, ro_32_1 hR, ro_34_10 hR, ro_34_11 hR, ro_34_12 hR, ro_34_13 hR, ro_39_0 hR, ro_39_1 hR, ro_42_0 hR, ro_42_1 hR, ro_47_0 hR, ro_47_1 hR, ro_47_2 hR, ro_47_3 hR, ro_55_0 hR, ro_55_1 hR, ro_55_2 hR, ro_57_0 hR, ro_57_1 hR, ro_57_2 hR, ro_57_3 hR, ro_57_4 hR, ro_57_5 hR, ro_57_8 hR, sh_0, sh_1, sh_2, sh_3, sh_4, sh_5, sh_6, sh_7, sh_8, sh_9, sh_10, sh_11, sh_12, sh_13, sh_14, sh_15, sh_16, sh_17, sh_18, sh_19, sh_20, sh_21, sh_22, sh_23, sh_24, sh_25, sh_26, sh_27, sh_28, sh_29, sh_30, sh_31, sh_32, sh_33, sh_34, sh_35, sh_36, sh_37, sh_38, sh_39, sh_40, sh_41, sh_42, sh_43, sh_44, sh_45, sh_46, sh_47, sh_48, sh_49, sh_50, sh_51, sh_52, sh_53, sh_54, sh_55, sh_56, sh_57, sh_58, sh_59, sh_60, sh_61, sh_62, sh_63, sh_64, sh_65, sh_66, sh_67, sh_68, hl, hvw9, Nat.reduceLT, Nat.reduceAdd, Nat.reduceMul, ne_eq, Nat.reduceEqDiff, not_false_eq_true, or_true, true_or, or_false, false_or, and_true, true_and, and_self, Nat.reduceLeDiff, am_ci, am_cr, am_cn0, Option.toList_some, Option.toList_none, List.cons_append, List.nil_append, am_s0, am_s1, am_s1r, am_s2, am_s2r, am_s3r, nI_add, am_u_ne, am_u_at, am_u_n1, am_u_n2, am_w_ne, ↓reduceIte, z]
    exact hQ J1 0 K (by omega) ev h12 h13 gt (crs_tOv h h0 t1 ev)
  · have z : ¬ nI v = 0 := nI_ne0 (by omega) (by omega)
    have j0' : J1 34 0 = nI w := by rw [q 34 0 (by omega) (by omega)]; exact j0
    have p2 : psr w (p_P σ) (rEnd σ r) := h2.mv' (fun j hj => rEnd_n (by omega) (by omega) (by omega))
    simp only [am_lv_of, Option.toList_some, List.cons_append, List.nil_append, rX12_endTurn_28, rX12_endTurn_29, rX12_endTurn_30, rX12_endTurn_33, rX12_endTurn_34, rX12_endTurn_37, rX12_endTurn_38, rX12_endTurn_41, rX12_endTurn_44, rX12_endTurn_47, rX12_endTurn_48, rX12_endTurn_51, rX12_endTurn_52, rX12_endTurn_55, rX12_endTurn_58, rX12_endTurn_61, rX12_endTurn_62, ro_0_0 hR, ro_0_3 hR, ro_0_4 hR, ro_0_5 hR, ro_0_6 hR, ro_0_7 hR, ro_0_8 hR, ro_0_9 hR, ro_0_10 hR, ro_0_11 hR, ro_2_6 hR, ro_2_7 hR, ro_2_8 hR, ro_2_9 hR, ro_2_10 hR, ro_2_11 hR, ro_2_12 hR, ro_2_13 hR, ro_9_0 hR, ro_9_1 hR, ro_9_2 hR, ro_14_0 hR, ro_14_1 hR, ro_14_2 hR, ro_14_7 hR, ro_15_0 hR, ro_15_1 hR, ro_15_2 hR, ro_15_3 hR, ro_20_6 hR, ro_20_7 hR, ro_20_8 hR, ro_20_9 hR, ro_20_10 hR, ro_20_11 hR, ro_20_12 hR, ro_20_13 hR, ro_27_0 hR, ro_27_1 hR, ro_27_2 hR, ro_32_0 hR, ro_32_1 hR, ro_34_10 hR, ro_34_11 hR, ro_34_12 hR, ro_34_13 hR, ro_39_0 hR, ro_39_1 hR, ro_42_0 hR, ro_42_1 hR, ro_47_0 hR, ro_47_1 hR, ro_47_2 hR, ro_47_3 hR, ro_55_0 hR, ro_55_1 hR, ro_55_2 hR, ro_57_0 hR, ro_57_1 hR, ro_57_2 hR, ro_57_3 hR, ro_57_4 hR, ro_57_5 hR, ro_57_8 hR, sh_0, sh_1, sh_2, sh_3, sh_4, sh_5, sh_6, sh_7, sh_8, sh_9, sh_10, sh_11, sh_12, sh_13, sh_14, sh_15, sh_16, sh_17, sh_18, sh_19, sh_20, sh_21, sh_22, sh_23, sh_24, sh_25, sh_26, sh_27, sh_28, sh_29, sh_30, sh_31, sh_32, sh_33, sh_34, sh_35, sh_36, sh_37, sh_38, sh_39, sh_40, sh_41, sh_42, sh_43, sh_44, sh_45, sh_46, sh_47, sh_48, sh_49, sh_50, sh_51, sh_52, sh_53, sh_54, sh_55, sh_56, sh_57, sh_58, sh_59, sh_60, sh_61, sh_62, sh_63, sh_64, sh_65, sh_66, sh_67, sh_68, hl, hvw9, Nat.reduceLT, Nat.reduceAdd, Nat.reduceMul, ne_eq, Nat.reduceEqDiff, not_false_eq_true, or_true, true_or, or_false, false_or, and_true, true_and, and_self, Nat.reduceLeDiff, am_ci, am_cr, am_cn0, Option.toList_some, Option.toList_none, List.cons_append, List.nil_append, am_s0, am_s1, am_s1r, am_s2, am_s2r, am_s3r, nI_add, am_u_ne, am_u_at, am_u_n1, am_u_n2, am_w_ne, ↓reduceIte, z, j0', c_apart h2.1, c_tanglesIn hN h2.1 HJ1.1 o1]
    rw [p2.ap o1, p2.tg o1]
    have h9' : J1 34 9 = nI K := by rw [t1.1 9 (by omega) (by omega) (by omega)]; exact h11
    refine c_close hR hN hn h13 (by omega) h9' (fun J2 k => ?_)
    simp only [am_lv_of, Option.toList_none, List.nil_append, rX12_endTurn_65]
    exact hQ J2 v K hv ev h12 h13 (gt.trans (k.1.mono (fun k j z => Or.inl z))) (crs_clo o1 h h12 h13 t1 (by omega) ev k)
end TD
