--! 98
/-! PROMISE 4: read -/
/-- what a reading leaves: the live part, and all that is none of a text's business -/
def kpL (lv k j : Nat) : Prop := k < 69 ∨ 101 ≤ k ∨ (k = 69 ∧ (j = 18 ∨ j = 54 ∨ j = 60)) ∨ ((k = 79 ∨ k = 82 ∨ k = 87 ∨ k = 89 ∨ k = 90) ∧ j = lv) ∨ ((k = 80 ∨ k = 81) ∧ 5 * lv ≤ j ∧ j < 5 * lv + 5) ∨ (((83 ≤ k ∧ k ≤ 86) ∨ k = 88) ∧ 7 * lv ≤ j ∧ j < 7 * lv + 7) ∨ ((k = 91 ∨ k = 92) ∧ 3 * lv ≤ j ∧ j < 3 * lv + 3) ∨ ((93 ≤ k ∧ k ≤ 97) ∧ 130 * lv ≤ j ∧ j < 130 * lv + 130) ∨ ((k = 98 ∨ k = 99) ∧ 420 * lv ≤ j ∧ j < 420 * lv + 420)
theorem kp_n {lv k j : Nat} (hlv : lv < 2) (h : kpL lv k j) : ¬ rdA2 (1 - lv) k j := by
  intro z
  have : lv = 0 ∨ lv = 1 := by omega
  rcases this with rfl | rfl
  · rcases h with h | h | h | h | h | h | h | h | h <;> rcases z with (z | z | z | z | z | z | z | z | z) | z | z <;> omega
  · rcases h with h | h | h | h | h | h | h | h | h <;> rcases z with (z | z | z | z | z | z | z | z | z) | z | z <;> omega
section SD
variable {X : am_X} {d n : Nat} {I J : Nat → Nat → Int32} {L K : Nat → Nat → Int64} {R : Nat → Nat → Option Nat} {Q : Option Value → am_M → Prop} {x : txt} {s : pst} {pt : Nat} {σ : rfP}
theorem relR_15 (h : relR n R) : relR n (am_u R 15 4 (some 1)) := by
  obtain ⟨h1, h2, h3, h4, h5, h6, h7, h8, h9⟩ := h
  have e40 : am_u R 15 4 (some 1) 40 = R 40 := am_u_ne (by omega)
  have e41 : am_u R 15 4 (some 1) 41 = R 41 := am_u_ne (by omega)
  have e42 : am_u R 15 4 (some 1) 42 = R 42 := am_u_ne (by omega)
  refine ⟨OR_15 h1, ?_, ?_, ?_, ?_, ?_, ?_, fun k hk => ?_, ?_⟩
  · unfold cnt at h2 ⊢; rw [e40, e41]; exact h2
  · rw [e40]; exact h3
  · rw [e41]; exact h4
  · rw [e40]; exact h5
  · rw [e41]; exact h6
  · rw [e40, e41]; exact h7
  · have : am_u R 15 4 (some 1) k = R k := am_u_ne (by have := hk.1; omega)
    rw [this]; exact h8 k hk
  · unfold plL at h9 ⊢; rw [e42]; exact h9
theorem RELs.rd (H : RELs (n, I, L, R) σ) (g : ∀ k j, ¬ rdP k j → ¬ (k = 0 ∧ (j = 1 ∨ j = 2)) → ¬ rdA2 (1 - p_lv σ) k j → J k j = I k j) (t1 : J 0 1 = nI 0) (t2 : J 69 2 = nI 0) (t3 : J 0 2 = J 69 17) (hL : relL K) : RELs (n, J, K, am_u R 15 4 (some 1)) σ := by
  obtain ⟨h1, h2, h3, h4, h5, h6, h7, h8⟩ := H
  have h1 : relR n R := h1
  have lv2 : p_lv σ < 2 := h3.1.2.1
  have e : ∀ k j, kpL (p_lv σ) k j → ¬ ((14 ≤ k ∧ k ≤ 31) ∨ k = 2000 ∨ k = 2001) → ¬ (k = 0 ∧ (j = 1 ∨ j = 2)) → J k j = I k j := fun k j h a b => g k j a b (kp_n lv2 h)
  have eL : ∀ k j, k < 69 → ¬ (14 ≤ k ∧ k ≤ 31) → ¬ (k = 0 ∧ (j = 1 ∨ j = 2)) → J k j = I k j := fun k j h a b => e k j (Or.inl h) (by omega) b
  have eH : ∀ k j, 101 ≤ k → k < 2000 → J k j = I k j := fun k j h h2 => e k j (Or.inr (Or.inl h)) (by omega) (by omega)
  have e69 : ∀ j, j = 18 ∨ j = 54 ∨ j = 60 → J 69 j = I 69 j := fun j h => e 69 j (Or.inr (Or.inr (Or.inl ⟨rfl, h⟩))) (by omega) (by omega)
  have e1 : ∀ k, k = 79 ∨ k = 82 ∨ k = 87 ∨ k = 89 ∨ k = 90 → J k (p_lv σ) = I k (p_lv σ) := fun k h => e k _ (Or.inr (Or.inr (Or.inr (Or.inl ⟨h, rfl⟩)))) (by omega) (by omega)
  have e5 : ∀ k j, k = 80 ∨ k = 81 → j < 5 → J k (5 * p_lv σ + j) = I k (5 * p_lv σ + j) := fun k j h hj => e k _ (Or.inr (Or.inr (Or.inr (Or.inr (Or.inl ⟨h, by omega, by omega⟩))))) (by omega) (by omega)
  have e7 : ∀ k j, (83 ≤ k ∧ k ≤ 86) ∨ k = 88 → j < 7 → J k (7 * p_lv σ + j) = I k (7 * p_lv σ + j) := fun k j h hj => e k _ (Or.inr (Or.inr (Or.inr (Or.inr (Or.inr (Or.inl ⟨h, by omega, by omega⟩)))))) (by omega) (by omega)
  have e3 : ∀ k j, k = 91 ∨ k = 92 → j < 3 → J k (3 * p_lv σ + j) = I k (3 * p_lv σ + j) := fun k j h hj => e k _ (Or.inr (Or.inr (Or.inr (Or.inr (Or.inr (Or.inr (Or.inl ⟨h, by omega, by omega⟩))))))) (by omega) (by omega)
  have eB : ∀ k j, ((93 ≤ k ∧ k ≤ 97) ∧ 130 * p_lv σ ≤ j ∧ j < 130 * p_lv σ + 130) ∨ ((k = 98 ∨ k = 99) ∧ 420 * p_lv σ ≤ j ∧ j < 420 * p_lv σ + 420) → J k j = I k j := fun k j h => e k j (Or.inr (Or.inr (Or.inr (Or.inr (Or.inr (Or.inr (Or.inr h))))))) (by omega) (by omega)
  show relR n (am_u R 15 4 (some 1)) ∧ relL K ∧ relS J σ ∧ relT J ∧ crs J 34 (p_P σ) (p_S σ) (J 103) ∧ relU J (am_u R 15 4 (some 1)) (p_P σ) (p_S σ) ∧ relH J (am_u R 15 4 (some 1)) (p_P σ) (p_S σ) ∧ relJ J (p_P σ)
  refine ⟨relR_15 h1, hL, ?_, ⟨0, by omega, t1, t2, fun j hj => absurd hj (by omega), t3⟩, ?_, ?_, ?_, ?_⟩
  · obtain ⟨s1, s2, s3, s4, s5, s6, s7, w, s8, s9⟩ := id (show relS I σ from h3)
    obtain ⟨a1, a2, a3, a4, a5, a6, a7, a8, a9, a10⟩ := id s1
    refine ⟨⟨by rw [e69 18 (by omega)]; exact a1, a2, by rw [e1 79 (by omega)]; exact a3, a4, by rw [e1 82 (by omega)]; exact a5, a6, by rw [e1 87 (by omega)]; exact a7, a8, fun i hi => ?_, fun k hk => ?_⟩, s2.ag (fun k j hk => eL k j (by omega) (by omega) (by omega)), s3, ?_, ?_, fun p hp => ?_, fun c hc => ?_, w, ?_, ?_⟩
    · rw [e7 83 i (by omega) (by omega), e7 84 i (by omega) (by omega), e7 85 i (by omega) (by omega), e7 86 i (by omega) (by omega)]
      exact a9 i hi
    · have hq := a10 k hk
      cases hw : p_lw σ k with
      | none =>
        rw [hw] at hq
        show J 91 (3 * p_lv σ + k) = J 92 (3 * p_lv σ + k)
        rw [e3 91 k (by omega) hk, e3 92 k (by omega) hk]
        exact hq
      | some q =>
        rw [hw] at hq
        obtain ⟨r, ee⟩ := q
        obtain ⟨f, f1, f2, f3, f4⟩ := hq
        have e33 : (3 * p_lv σ + k) / 3 = p_lv σ := by omega
        rw [e33] at f4
        exact ⟨f, f1, by rw [e3 91 k (by omega) hk]; exact f2, by rw [e3 92 k (by omega) hk]; exact f3, fun J' g' => f4 J' (fun k' j' hk' => by rw [e33] at g'; exact (g' k' j' hk').trans (eB k' j' hk'))⟩
    · rw [eL 2 3 (by omega) (by omega) (by omega), e1 89 (by omega)]; exact s4
    · rw [eL 2 4 (by omega) (by omega) (by omega), e1 90 (by omega)]; exact s5
    · rw [eL 3 p (by omega) (by omega) (by omega), e5 81 p (by omega) (by omega)]; exact s6 p hp
    · rw [eL 8 c (by omega) (by omega) (by omega), e7 88 c (by omega) (by omega)]; exact s7 c hc
    · rw [eL 2 5 (by omega) (by omega) (by omega)]; exact s8
    · have : opR J σ = opR I σ := funext fun j => by
        unfold opR
        split
        · next hj => exact e5 80 j (by omega) (by omega)
        · rfl
      rw [this]; exact s9
  · exact (show crs I 34 (p_P σ) (p_S σ) (I 103) from h5).mv (fun k j k1 k2 => eL k j (by omega) (by omega) (by omega)) (fun j _ => eH 103 j (by omega) (by omega))
  · obtain ⟨u, nx, u1, u2, u3, u4, u5, u6⟩ := relU.fr (I' := J) (show relU I R (p_P σ) (p_S σ) from h6) h1 (fun k j hk => by
      rcases hk with h | h | h | h
      · exact eL k j (by omega) (by omega) (by omega)
      · exact eH k j (by omega) (by omega)
      · exact eH k j (by omega) (by omega)
      · rw [h.1]; exact e69 j (by omega))
    refine ⟨u, nx, u1, u2, u3, u4, u5, fun i hi => ?_⟩
    obtain ⟨k, k1, k2⟩ := u6 i hi
    exact ⟨k, by rw [am_u_n1 (by omega)]; exact k1, k2⟩
  · obtain ⟨h, b1, b2, b3⟩ := relH.fr (I' := J) (show relH I R (p_P σ) (p_S σ) from h7) h1 (fun k j hk => by
      rcases hk with h | h | h | h
      · exact eL k j (by omega) (by omega) (by omega)
      · exact eH k j (by omega) (by omega)
      · exact eH k j (by omega) (by omega)
      · exact eH k j (by omega) (by omega))
    refine ⟨h, b1, b2, fun i hi => ⟨(b3 i hi).1, fun hb => ?_⟩⟩
    obtain ⟨k, k1, k2⟩ := (b3 i hi).2 hb
    exact ⟨k, by rw [am_u_n1 (by omega)]; exact k1, k2⟩
  · exact relJ.fr (show relJ I (p_P σ) from h8) (fun k j hk => by
      by_cases h : k = 69
      · rw [h]; exact e69 j (by omega)
      · by_cases h' : k < 69
        · exact eL k j h' (by omega) (by omega)
        · exact eH k j (by omega) (by omega))
/-- the outcome of a text: kind of fault and its place -/
def otc (x : txt) : Nat × Nat := match allP x 401 s0 with
  | .inl e => (e.1, kP x e.2)
  | .inr s => s_f s
theorem rd_bad {I2 : Nat → Nat → Int32} (H : RELs (n, I, L, R) σ) (tx : txI I 70 x) (h2 : I 69 2 = nI x.1) (g : ∀ k j, ¬ rdP k j → ¬ (k = 0 ∧ (j = 1 ∨ j = 2)) → I2 k j = I k j) (l : agN L K) (v1 : I2 0 1 = nI 0) (v2 : I2 0 2 = nI (otc x).2) (ho : (otc x).1 ≠ 0) : am_E X (d + 7) mX13_read 0 [some (.ref 69), none] [] (n, I2, K, am_u R 15 4 (some 1)) (fun v' M2 => some (.int (nI (otc x).1)) = v' ∧ REL M2) := by
  have hLL : relL L := H.2.1
  have hV : relV K := fun k hk => by rw [l 76 k (by omega) (by omega)]; exact (hLL k hk).2
  have hKL : ∀ {M : Nat → Nat → Int64}, (∀ k j, k ≠ 75 → k ≠ 77 → M k j = K k j) → relL M := fun h k hk => by
    rw [h 16 k (by omega) (by omega), h 76 k (by omega) (by omega), l 16 k (by omega) (by omega), l 76 k (by omega) (by omega)]
    exact hLL k hk
  have n69 : ∀ k j, 32 ≤ k → k < 2000 → I2 k j = I k j := fun k j hk hk2 => g k j (by unfold rdP; omega) (by omega)
  have fin : ∀ J' L', am_ag (rdA2 (1 - p_lv σ)) I2 J' → (∀ k j, k ≠ 75 → k ≠ 77 → L' k j = K k j) → J' 69 2 = nI 0 → J' 69 17 = nI (otc x).2 → REL (n, J', L', am_u R 15 4 (some 1)) := by
    intro J' L' gJ lJ b2 b17
    have lv2 : p_lv σ < 2 := H.rf.2.1
    have c0 : ∀ j, J' 0 j = I2 0 j := fun j => gJ 0 j (kp_n lv2 (Or.inl (by omega)))
    exact ⟨σ, H.rd (fun k j h1 h2 h3 => (gJ k j h3).trans (g k j h1 h2)) (by rw [c0]; exact v1) b2 (by rw [c0, b17]; exact v2) (hKL lJ)⟩
  refine c_readR (d := d) (x := x) (lv := p_lv σ) (pt := 1 - p_lv σ) (OR_15 H.1.1) H.1.N H.1.n (by rw [n69 69 2 (by omega) (by omega)]; exact h2) (tx.ag (fun j => n69 70 j (by omega) (by omega))) hV (by rw [n69 69 18 (by omega) (by omega)]; exact H.rf.1) H.rf.2.1 rfl (fun e he J' L' gJ lJ b2 b17 => ?_) (fun s hs hf J' L' gJ lJ b2 b17 => ?_) (fun s hs hf => ?_)
  · have eo : otc x = (e.1, kP x e.2) := by unfold otc; rw [he]
    rw [eo] at fin ⊢
    exact ⟨rfl, fin J' L' gJ lJ b2 b17⟩
  · have eo : otc x = s_f s := by unfold otc; rw [hs]
    rw [eo] at fin ⊢
    exact ⟨rfl, fin J' L' gJ lJ b2 b17⟩
  · have eo : otc x = s_f s := by unfold otc; rw [hs]
    rw [eo] at ho
    exact absurd hf ho
theorem cpS.mv {I0 I J J' : Nat → Nat → Int32} (C : cpS I J) (g : ∀ k j, 20 ≤ k → k ≤ 29 → I k j = I0 k j) (g' : ∀ k j, 2 ≤ k → k ≤ 11 → J' k j = J k j) : cpS I0 J' := by
  obtain ⟨c1, c2, c3, c4, c5, c6⟩ := C
  refine ⟨fun j hj => ?_, fun j hj => ?_, fun k j k1 k2 hj => ?_, ?_, fun j hj => ?_, fun j hj => ?_⟩
  · rw [g' 2 j (by omega) (by omega), c1 j hj, g 20 j (by omega) (by omega)]
  · rw [g' 3 j (by omega) (by omega), c2 j hj, g 21 j (by omega) (by omega)]
  · rw [g' k j (by omega) (by omega), c3 k j k1 k2 hj, g (k + 18) j (by omega) (by omega)]
  · rw [g' 9 3 (by omega) (by omega), c4, g 27 3 (by omega) (by omega)]
  · rw [g' 10 j (by omega) (by omega), c5 j hj, g 28 j (by omega) (by omega)]
  · rw [g' 11 j (by omega) (by omega), c6 j hj, g 29 j (by omega) (by omega)]
/-- a good text: the two scripts are tied -/
theorem rel_good {I1 J1 J6 : Nat → Nat → Int32} {K1 : Nat → Nat → Int64} {R1 : Nat → Nat → Option Nat} (hpt : pt < 2) (B : bdA s) (hf : (s_f s).1 = 0) (D : DR I1 s) (C : cpS I1 J6) (S : RS J1 K1 x pt s) (g : ∀ k j, 79 ≤ k → k ≤ 99 → J6 k j = J1 k j) (h18 : J6 69 18 = nI pt) : relS J6 (sgm pt s) := by
  obtain ⟨d1, d2, d3, d4, d5, d6, d7, d8, d9, d10, d11, d12, d13⟩ := id D
  obtain ⟨T, F, O, H, HD, h19, h12, tp, ts, tc, ⟨hm, hd⟩, tl⟩ := id S
  obtain ⟨b1, b2⟩ := B.2 hf
  have tp6 := tp.ag (J := J6) (fun k j k1 k2 => g k j (by omega) (by omega))
  have tc6 := tc.ag (J := J6) (fun k j k1 k2 => g k j (by omega) (by omega))
  have C' := C
  obtain ⟨c1, c2, c3, c4, c5, c6⟩ := C
  refine ⟨rf_sgm S hpt g h18 hf B, cl_sgm D T.2.2.1 hf C', ok_sgm B hf d1 d2 d3, ?_, ?_, fun p hp => ?_, fun c hc => ?_, pkS (s_P s) 0, ?_, ps_sgm tp6 (fun v hv => (b1 v hv).1)⟩
  · show J6 2 3 = J6 89 pt
    rw [c1 3 (by omega), d7, g 89 pt (by omega) (by omega), hm]
  · show J6 2 4 = J6 90 pt
    rw [c1 4 (by omega), d8, g 90 pt (by omega) (by omega), hd]
  · have hp : p < (s_P s).length := hp
    have e : (s_P s)[p]? = some ((s_P s)[p]?.getD (0, 0)) := gtD hp
    refine ⟨?_, ((s_P s)[p]?.getD (0, 0)).2, (b1 _ (List.mem_of_getElem? e)).2, ?_⟩
    · show J6 3 p = J6 81 (5 * pt + p)
      rw [c2 p (by omega), d10 p _ e, (tp6.2.2 p _ e).2]
    · rw [c2 p (by omega), d10 p _ e]
  · have hc : c < (s_C s).length := hc
    have e : (s_C s)[c]? = some ((s_C s)[c]?.getD 0) := gtD hc
    show J6 8 c = J6 88 (7 * pt + c)
    rw [c3 8 c (by omega) (by omega) (by omega), d12 c _ e, tc6.2.2 c _ e]
  · rw [c1 5 (by omega)]; exact d9
theorem crs_new {w P S : Nat} {r : Nat → Int32} (h : cr0 I (nI w)) (hp : psr w P r) (h15 : ∀ j, 15 ≤ j → j < 68 → j ≠ 18 → r j = nI 0) (h18 : r 18 = nI 1) : crs I 34 P S r := by
  obtain ⟨c1, c2, c3, c4⟩ := h
  refine ⟨w, 0, c1, hp, ?_, ?_, ?_, ?_, ?_, ?_, ?_, ?_, ?_, ?_, by omega, fun i hi => ⟨?_, fun _ => ?_⟩, fun i hi => absurd hi (by omega), Or.inl ?_, Or.inl ?_⟩
  · rw [c2 1 (by omega) (by omega) (by omega), h15 16 (by omega) (by omega) (by omega)]
  · rw [c2 2 (by omega) (by omega) (by omega), h15 15 (by omega) (by omega) (by omega)]
  · rw [c2 3 (by omega) (by omega) (by omega), h15 17 (by omega) (by omega) (by omega)]
  · rw [c3, h18]
  · rw [c2 5 (by omega) (by omega) (by omega), h15 19 (by omega) (by omega) (by omega)]
  · rw [c2 6 (by omega) (by omega) (by omega), h15 20 (by omega) (by omega) (by omega)]
  · rw [c2 7 (by omega) (by omega) (by omega), h15 28 (by omega) (by omega) (by omega)]
  · rw [c2 8 (by omega) (by omega) (by omega), h15 29 (by omega) (by omega) (by omega)]
  · exact c2 9 (by omega) (by omega) (by omega)
  · exact h15 30 (by omega) (by omega) (by omega)
  · show I 35 i = r (21 + i)
    rw [c4 i hi, h15 (21 + i) (by omega) (by omega) (by omega)]
  · exact h15 (21 + i) (by omega) (by omega) (by omega)
  · exact h15 15 (by omega) (by omega) (by omega)
  · exact h15 17 (by omega) (by omega) (by omega)
theorem psr_cg {w P : Nat} {r r' : Nat → Int32} (h : psr w P r) (e : ∀ j, j < 15 → r' j = r j) : psr w P r' := ⟨h.1, fun p hp => by rw [e p (by omega), e (5 + p) (by omega), e (10 + p) (by omega)]; exact h.2.1 p hp, h.2.2⟩
end SD
