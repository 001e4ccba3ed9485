--! 72
/-! POSES AS NUMBERS: rows made of them; moves -/
/-- a pose as it may be -/
def okP (σ : rfP) (w : Nat) : Prop := w < 2 ^ 30 ∧ (∀ p, p < 5 → xw w p ≤ 9) ∧ ∀ p, p_P σ ≤ p → p < 5 → xw w p = 0
def rowW (w : Nat) (sd pl : Int32) (j : Nat) : Int32 := if j < 5 then nI (xw w j) else if j < 10 then nI (hdw w (j - 5)) else if j < 15 then nI (hnw w (j - 10)) else if j = 15 then sd else if j = 16 then pl else nI 0
theorem psr_row {σ : rfP} {w : Nat} {sd pl : Int32} (h : okP σ w) : psr w (p_P σ) (rowW w sd pl) := by
  refine ⟨h.1, fun p hp => ⟨?_, ?_, ?_, h.2.1 p hp⟩, h.2.2⟩
  · unfold rowW; rw [if_pos hp]
  · unfold rowW; rw [if_neg (by omega), if_pos (by omega)]; exact congrArg (fun z => nI (hdw w z)) (by omega)
  · unfold rowW; rw [if_neg (by omega), if_neg (by omega), if_pos (by omega)]; exact congrArg (fun z => nI (hnw w z)) (by omega)
theorem psr.ok {σ : rfP} {w : Nat} {r : Nat → Int32} (h : psr w (p_P σ) r) : okP σ w := ⟨h.1, fun p hp => (h.2.1 p hp).2.2.2, h.2.2⟩
theorem row_c {P w : Nat} {r : Nat → Int32} {sd pl : Int32} (h : psr w P r) (h15 : r 15 = sd) (h16 : r 16 = pl) : ∀ j, j < 17 → r j = rowW w sd pl j := by
  intro j hj
  unfold rowW
  by_cases a1 : j < 5
  · rw [if_pos a1]; exact (h.2.1 j a1).1
  · rw [if_neg a1]
    by_cases a2 : j < 10
    · rw [if_pos a2, ← (h.2.1 (j - 5) (by omega)).2.1]; exact congrArg r (by omega)
    · rw [if_neg a2]
      by_cases a3 : j < 15
      · rw [if_pos a3, ← (h.2.1 (j - 10) (by omega)).2.2.1]; exact congrArg r (by omega)
      · rw [if_neg a3]
        by_cases a4 : j = 15
        · rw [if_pos a4, a4]; exact h15
        · have : j = 16 := by omega
          subst this
          rw [if_neg a4, if_pos rfl]; exact h16
theorem rowW_15 {w : Nat} {sd pl : Int32} : rowW w sd pl 15 = sd := by unfold rowW; simp
theorem rowW_16 {w : Nat} {sd pl : Int32} : rowW w sd pl 16 = pl := by unfold rowW; simp
/-- does the puppet stay within -/
def stW (σ : rfP) (w s : Nat) : Bool := decide (9 ≤ xw w (p_ow σ s) + fb σ s ∧ xw w (p_ow σ s) + fb σ s ≤ 18)
theorem st_xw {σ : rfP} {w s : Nat} {r : Nat → Int32} (ho : ok_S σ) (hs : s < p_S σ) (hw : ∀ p, p < 5 → xw w p ≤ 9) (hr : ∀ p, p < 5 → r p = nI (xw w p)) : rSt σ r s = stW σ w s := by
  obtain ⟨o1, o2, o3, o4⟩ := ho
  obtain ⟨a1, a2, a3, a4, a5⟩ := o4 s hs
  have h5 : p_ow σ s < 5 := by omega
  have := hw _ h5
  have h := st_iff (x := xw w (p_ow σ s)) (b := fb σ s) (by omega) a2
  unfold rSt rGo stW
  rw [hr _ h5, a3]
  cases hb : (decide (nI 0 ≤ nI (xw w (p_ow σ s)) + (nI (fb σ s) - nI 9)) && decide (nI (xw w (p_ow σ s)) + (nI (fb σ s) - nI 9) ≤ nI 9)) with
  | true => rw [decide_eq_true (h.mp hb)]
  | false => rw [decide_eq_false (fun z => by rw [h.mpr z] at hb; cases hb)]
theorem psr.stW {σ : rfP} {w s : Nat} {r : Nat → Int32} (ho : ok_S σ) (hs : s < p_S σ) (h : psr w (p_P σ) r) : rSt σ r s = stW σ w s := st_xw ho hs (fun p hp => (h.2.1 p hp).2.2.2) (fun p hp => (h.2.1 p hp).1)
theorem okP.mv {σ : rfP} {w s : Nat} (h : okP σ w) (ho : ok_S σ) (hs : s < p_S σ) (hst : stW σ w s = true) : okP σ (cMv σ w s) := by
  have hp := psr_row (sd := nI 0) (pl := nI 0) h
  exact (hp.mv ho hs (by rw [hp.stW ho hs]; exact hst)).ok
theorem mv_xw {σ : rfP} {w s : Nat} {r : Nat → Int32} (h : okP σ w) (ho : ok_S σ) (hs : s < p_S σ) (hst : stW σ w s = true) (hr : ∀ p, p < 5 → r p = nI (xw w p)) : rGo σ r s = nI (xw (cMv σ w s) (p_ow σ s)) ∧ ∀ p, p < 5 → p ≠ p_ow σ s → xw (cMv σ w s) p = xw w p := by
  have hp := psr_row (sd := nI 0) (pl := nI 0) h
  have hm := hp.mv ho hs (by rw [hp.stW ho hs]; exact hst)
  obtain ⟨o1, o2, o3, o4⟩ := ho
  obtain ⟨a1, a2, a3, a4, a5⟩ := o4 s hs
  have h5 : p_ow σ s < 5 := by omega
  have hx : 9 ≤ xw w (p_ow σ s) + fb σ s ∧ xw w (p_ow σ s) + fb σ s ≤ 18 := of_decide_eq_true hst
  obtain ⟨m1, m2, -⟩ := mv_ok (t := ft σ s) h.1 h5 a4 hx.1 hx.2
  constructor
  · unfold rGo cMv
    rw [hr _ h5, a3, go_eq hx.1, m2 _ h5, if_pos rfl]
  · intro p hp5 hne
    unfold cMv
    rw [m2 p hp5, if_neg hne]
section PW
variable {X : am_X} {d n : Nat} {I : Nat → Nat → Int32} {L : Nat → Nat → Int64} {R : Nat → Nat → Option Nat} {Q : Option Value → am_M → Prop} {σ : rfP}
theorem c_movedW {w s : Nat} (hR : am_OR R) (hN : 116 ≤ n) (hn : n ≤ 1000) (ho : ok_S σ) (H : cl_S I σ) (hs : s < p_S σ) (h : okP σ w) : am_E X (d + 1) mX10_moved 0 [some (.ref 2), some (.int (nI w)), some (.int (nI s)), none, none] [] (n, I, L, R) Q ↔ Q (some (.int (if stW σ w s = true then nI (cMv σ w s) else -1))) (n, I, L, R) := by
  have hp := psr_row (sd := nI 0) (pl := nI 0) h
  rw [c_moved hR hN hn ho H hs hp, hp.stW ho hs]
/-- may it be pulled; the verdict -/
def mayW (σ : rfP) (w s : Nat) (sd pl : Int32) : Bool := rMay σ (rowW w sd pl) s sd
def vdW (σ : rfP) (w : Nat) (pl : Int32) : Int32 := rVerd σ (rowW w (nI 0) pl)
theorem mayW_st {w s : Nat} {sd pl : Int32} (ho : ok_S σ) (hs : s < p_S σ) (h : okP σ w) (hm : mayW σ w s sd pl = true) : stW σ w s = true := by
  have hp := psr_row (sd := sd) (pl := pl) h
  rw [← hp.stW ho hs]
  unfold mayW rMay at hm
  simp at hm
  exact hm.1.2
theorem rV_no15 {r r' : Nat → Int32} {P : Nat} (h : ∀ p, p < 17 → p ≠ 15 → r p = r' p) (hP : P ≤ 5) {j : Nat} : rV r P j = rV r' P j := by
  unfold rV rAp rNd
  rw [tg_congr (g := r') (fun q hq => h q (by omega) (by omega)), h 0 (by omega) (by omega), h 1 (by omega) (by omega), h 5 (by omega) (by omega), h 6 (by omega) (by omega), h 7 (by omega) (by omega), h 8 (by omega) (by omega), h 9 (by omega) (by omega), h 12 (by omega) (by omega), h 16 (by omega) (by omega)]
theorem rVerd_c2 {r r' : Nat → Int32} (ho : ok_S σ) (g : ∀ j, j < 17 → j ≠ 15 → r' j = r j) : rVerd σ r' = rVerd σ r := by
  have e : rV r' (p_P σ) = rV r (p_P σ) := funext fun j => rV_no15 g ho.1
  unfold rVerd
  rw [e]
theorem psr.vd {w : Nat} {r : Nat → Int32} (ho : ok_S σ) (h : psr w (p_P σ) r) : rVerd σ r = vdW σ w (r 16) := rVerd_c2 ho (fun j hj hne => by
  rw [row_c h rfl rfl j hj]
  unfold rowW
  rw [if_neg hne, if_neg hne])
theorem psr.may {w s : Nat} {r : Nat → Int32} (ho : ok_S σ) (hs : s < p_S σ) (h : psr w (p_P σ) r) : rMay σ r s (r 15) = mayW σ w s (r 15) (r 16) := rMay_c ho hs (row_c h rfl rfl)
theorem vdW_ok (w : Nat) (pl : Int32) : ∃ v, v ≤ 2 ∧ vdW σ w pl = nI v := rVd_ok _
theorem c_allowsW {w s : Nat} {sd pl : Int32} (hR : am_OR R) (hN : 116 ≤ n) (hn : n ≤ 1000) (ho : ok_S σ) (H : cl_S I σ) (hs : s < p_S σ) (h : okP σ w) (hQ : ∀ I', am_ag skc I I' → Q (some (.int (bI (mayW σ w s sd pl)))) (n, I', L, R)) : am_E X (d + 3) mX0_allows 0 [some (.ref 32), some (.int (nI w)), some (.int pl), some (.int sd), some (.int (nI s)), none] [] (n, I, L, R) Q := by
  have := c_allows (X := X) (d := d) (L := L) (Q := Q) (side := sd) hR hN hn ho H hs (psr_row (sd := sd) (pl := pl) h) hQ
  rw [rowW_16] at this
  exact this
theorem c_verdictOnW {w : Nat} {pl : Int32} (hR : am_OR R) (hN : 116 ≤ n) (hn : n ≤ 1000) (ho : ok_S σ) (H : cl_S I σ) (h : okP σ w) (hQ : ∀ I', am_ag skc I I' → Q (some (.int (vdW σ w pl))) (n, I', L, R)) : am_E X (d + 3) mX0_verdictOn 0 [some (.ref 32), some (.int (nI w)), some (.int pl), none] [] (n, I, L, R) Q := by
  have := c_verdictOn (X := X) (d := d) (L := L) (Q := Q) hR hN hn ho H (psr_row (sd := nI 0) (pl := pl) h) hQ
  rw [rowW_16] at this
  exact this
end PW
