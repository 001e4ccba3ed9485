--! 44
/-! WHAT TIES THE TWO STATES -/
def bnd (x : Int32) : Prop := -100 ≤ x.toInt ∧ x.toInt ≤ 100
def isB (x : Int32) : Prop := -128 ≤ x.toInt ∧ x.toInt ≤ 127
/-- a course (cells c .. c + 4) and a row of the reference's -/
def crs (I : Nat → Nat → Int32) (c P S : Nat) (r : Nat → Int32) : Prop := ∃ w K : Nat, I c 0 = nI w ∧ psr w P r ∧ I c 1 = r 16 ∧ I c 2 = r 15 ∧ I c 3 = r 17 ∧ I c 4 = r 18 ∧ I c 5 = r 19 ∧ I c 6 = r 20 ∧ I c 7 = r 28 ∧ I c 8 = r 29 ∧ I c 9 = nI K ∧ r 30 = nI K ∧ K ≤ 12 ∧ (∀ s, s < 7 → I (c + 1) s = r (21 + s) ∧ (S ≤ s → r (21 + s) = nI 0)) ∧ (∀ i, i < K → I (c + 2) i = r (31 + 3 * i) ∧ I (c + 3) i = r (32 + 3 * i) ∧ I (c + 4) i = r (33 + 3 * i) ∧ bnd (r (31 + 3 * i)) ∧ bnd (r (32 + 3 * i))) ∧ (r 15 = nI 0 ∨ r 15 = nI 1) ∧ (r 17 = nI 0 ∨ r 17 = nI 1 ∨ r 17 = nI 2)
theorem crs.mv {I I' : Nat → Nat → Int32} {c P S : Nat} {r r' : Nat → Int32} (h : crs I c P S r) (g : ∀ k j, c ≤ k → k < c + 5 → I' k j = I k j) (hr : ∀ j, j < 68 → r' j = r j) : crs I' c P S r' := by
  obtain ⟨w, K, h1, h2, h3, h4, h5, h6, h7, h8, h9, h10, h11, h12, h13, h14, h15, h16, h17⟩ := h
  have g0 : ∀ j, I' c j = I c j := fun j => g c j (by omega) (by omega)
  refine ⟨w, K, ?_, ?_, ?_, ?_, ?_, ?_, ?_, ?_, ?_, ?_, ?_, ?_, h13, ?_, ?_, ?_, ?_⟩
  · rw [g0]; exact h1
  · exact ⟨h2.1, fun p hp => by rw [hr _ (by omega), hr _ (by omega), hr _ (by omega)]; exact h2.2.1 p hp, h2.2.2⟩
  · rw [g0, hr _ (by omega)]; exact h3
  · rw [g0, hr _ (by omega)]; exact h4
  · rw [g0, hr _ (by omega)]; exact h5
  · rw [g0, hr _ (by omega)]; exact h6
  · rw [g0, hr _ (by omega)]; exact h7
  · rw [g0, hr _ (by omega)]; exact h8
  · rw [g0, hr _ (by omega)]; exact h9
  · rw [g0, hr _ (by omega)]; exact h10
  · rw [g0]; exact h11
  · rw [hr _ (by omega)]; exact h12
  · intro s hs
    rw [g _ _ (by omega) (by omega), hr _ (by omega)]
    exact h14 s hs
  · intro i hi
    rw [g _ _ (by omega) (by omega), g _ _ (by omega) (by omega), g _ _ (by omega) (by omega), hr _ (by omega), hr _ (by omega), hr _ (by omega)]
    exact h15 i hi
  · rw [hr _ (by omega)]; exact h16
  · rw [hr _ (by omega)]; exact h17
def cnt (R : Nat → Nat → Option Nat) : Nat := ((List.range 40).filter (fun j => (R 40 j).isSome)).length + ((List.range 3).filter (fun j => (R 41 j).isSome)).length
theorem cnt_le (R : Nat → Nat → Option Nat) : cnt R ≤ 43 := by
  have h1 := List.length_filter_le (fun j => (R 40 j).isSome) (List.range 40)
  have h2 := List.length_filter_le (fun j => (R 41 j).isSome) (List.range 3)
  simp only [List.length_range] at h1 h2
  unfold cnt
  omega
def isCo (n k : Nat) : Prop := 116 ≤ k ∧ (k - 116) % 5 = 0 ∧ k + 5 ≤ n
def plL (R : Nat → Nat → Option Nat) : Prop := (R 42 2 = some 43 ∧ R 42 3 = some 44 ∧ R 42 4 = some 45 ∧ R 42 5 = some 46) ∨ (R 42 2 = some 45 ∧ R 42 3 = some 46 ∧ R 42 4 = some 43 ∧ R 42 5 = some 44)
def relR (n : Nat) (R : Nat → Nat → Option Nat) : Prop := am_OR R ∧ n = 116 + 5 * cnt R ∧ (∀ j k, j < 40 → R 40 j = some k → isCo n k) ∧ (∀ j k, j < 3 → R 41 j = some k → isCo n k) ∧ (∀ i j k, i < 40 → j < 40 → R 40 i = some k → R 40 j = some k → i = j) ∧ (∀ i j k, i < 3 → j < 3 → R 41 i = some k → R 41 j = some k → i = j) ∧ (∀ i j k, i < 40 → j < 3 → R 40 i = some k → R 41 j = some k → False) ∧ (∀ k, isCo n k → R k 10 = some (k + 1) ∧ R k 11 = some (k + 2) ∧ R k 12 = some (k + 3) ∧ R k 13 = some (k + 4)) ∧ plL R
theorem relR.N {n : Nat} {R : Nat → Nat → Option Nat} (h : relR n R) : 116 ≤ n := by have := h.2.1; omega
theorem relR.n {n : Nat} {R : Nat → Nat → Option Nat} (h : relR n R) : n ≤ 1000 := by have := h.2.1; have := cnt_le R; omega
/-- the letters of the words in quotes -/
def wds : List (List Nat) := [[16, 21, 16, 16, 5, 20], [19, 20, 18, 9, 14, 7], [3, 8, 9, 12, 4], [15, 18, 4, 5, 18], [22, 5, 18, 4, 9, 3, 20], [22, 15, 20, 5, 19], [19, 20, 15, 18, 13], [19, 5, 5, 4], [9, 6], [20, 8, 5, 14], [5, 12, 19, 5], [1, 16, 1, 18, 20], [20, 1, 14, 7, 12, 5, 19], [16, 21, 12, 12, 19], [14, 15, 4, 19], [19, 9, 4, 5], [8, 1, 14, 4], [19, 5, 1, 20], [23, 8, 9, 3, 8], [1, 20]]
def cdW (b : Nat) (l : List Nat) : Nat := l.foldl (fun a c => b * a + c) 0
def relL (L : Nat → Nat → Int64) : Prop := ∀ k, k < 20 → L 16 k = lN (cdW 32 (wds.getD k [])) ∧ L 76 k = lN (cdW 27 (wds.getD k []))
/-- the row of an opening -/
def opR (I : Nat → Nat → Int32) (σ : rfP) (j : Nat) : Int32 := if j < p_P σ then I 80 (5 * p_lv σ + j) else nI 0
def relS (I : Nat → Nat → Int32) (σ : rfP) : Prop := rf_S I σ ∧ cl_S I σ ∧ ok_S σ ∧ I 2 3 = I 89 (p_lv σ) ∧ I 2 4 = I 90 (p_lv σ) ∧ (∀ p, p < p_P σ → I 3 p = I 81 (5 * p_lv σ + p) ∧ ∃ v, v ≤ 9 ∧ I 3 p = nI v) ∧ (∀ c, c < p_C σ → I 8 c = I 88 (7 * p_lv σ + c)) ∧ ∃ w, I 2 5 = nI w ∧ psr w (p_P σ) (opR I σ)
def relT (I : Nat → Nat → Int32) : Prop := ∃ T, T ≤ 2000 ∧ I 0 1 = nI T ∧ I 69 2 = nI T ∧ (∀ j, j < T → I 1 j = I 70 j ∧ isB (I 1 j)) ∧ I 0 2 = I 69 17
def relU (I : Nat → Nat → Int32) (R : Nat → Nat → Option Nat) (P S : Nat) : Prop := ∃ u nx, u ≤ 40 ∧ nx < 40 ∧ I 39 4 = nI u ∧ I 69 54 = nI u ∧ I 39 3 = nI nx ∧ ∀ i, i < u → ∃ k, R 40 ((nx + 40 - u + i) % 40) = some k ∧ crs I k P S (fun j => I 105 (68 * i + j))
def relH (I : Nat → Nat → Int32) (R : Nat → Nat → Option Nat) (P S : Nat) : Prop := ∃ h, h < 8 ∧ I 39 2 = nI h ∧ ∀ s, s < 3 → I 114 s = nI (h / 2 ^ s % 2) ∧ (h / 2 ^ s % 2 = 1 → ∃ k, R 41 s = some k ∧ crs I k P S (fun j => I 115 (68 * s + j)))
def relJ (I : Nat → Nat → Int32) (P : Nat) : Prop := ∃ T, T ≤ 20 ∧ I 57 10 = nI T ∧ I 69 60 = nI T ∧ ∀ i, i < T → ∃ p, p < P ∧ I 58 i = nI p ∧ I 110 i = nI p ∧ I 59 i = I 111 i ∧ I 60 i = I 112 i
def RELs (M : am_M) (σ : rfP) : Prop := relR M.1 M.2.2.2 ∧ relL M.2.2.1 ∧ relS M.2.1 σ ∧ relT M.2.1 ∧ crs M.2.1 34 (p_P σ) (p_S σ) (M.2.1 103) ∧ relU M.2.1 M.2.2.2 (p_P σ) (p_S σ) ∧ relH M.2.1 M.2.2.2 (p_P σ) (p_S σ) ∧ relJ M.2.1 (p_P σ)
def REL (M : am_M) : Prop := ∃ σ, RELs M σ
/-- places that a call may leave as it likes -/
def scrP (k j : Nat) : Prop := k = 12 ∨ k = 13 ∨ (14 ≤ k ∧ k ≤ 31) ∨ k = 33 ∨ (k = 42 ∧ 6 ≤ j) ∨ (43 ≤ k ∧ k ≤ 56) ∨ (k = 57 ∧ j ≠ 10) ∨ (61 ≤ k ∧ k ≤ 68) ∨ (k = 69 ∧ (j = 4 ∨ (10 ≤ j ∧ j ≤ 16) ∨ j = 19 ∨ j = 20 ∨ j = 37 ∨ j = 43 ∨ j = 47 ∨ j = 50 ∨ j = 53)) ∨ (71 ≤ k ∧ k ≤ 78) ∨ (100 ≤ k ∧ k ≤ 102) ∨ k = 104 ∨ (106 ≤ k ∧ k ≤ 109) ∨ k = 113
theorem relS.fr {I I' : Nat → Nat → Int32} {σ : rfP} (h : relS I σ) (e : ∀ k j, (k = 69 ∧ j = 18) ∨ (79 ≤ k ∧ k ≤ 99) ∨ k = 2 ∨ k = 3 ∨ k = 4 ∨ k = 5 ∨ k = 6 ∨ k = 7 ∨ k = 8 ∨ (k = 9 ∧ j = 3) ∨ k = 10 ∨ k = 11 → I' k j = I k j) : relS I' σ := by
  obtain ⟨h1, h2, h3, h4, h5, h6, h7, w, h8, h9⟩ := h
  refine ⟨?_, h2.ag (fun k j hk => e k j (by omega)), h3, ?_, ?_, ?_, ?_, w, ?_, ?_⟩
  · obtain ⟨a1, a2, a3, a4, a5, a6, a7, a8, a9, a10⟩ := h1
    refine ⟨?_, a2, ?_, a4, ?_, a6, ?_, a8, fun s hs => ?_, fun k hk => (a10 k hk).mv (fun k j hk => e k j (by omega))⟩
    · rw [e 69 18 (by omega)]; exact a1
    · rw [e 79 _ (by omega)]; exact a3
    · rw [e 82 _ (by omega)]; exact a5
    · rw [e 87 _ (by omega)]; exact a7
    · rw [e 83 _ (by omega), e 84 _ (by omega), e 85 _ (by omega), e 86 _ (by omega)]; exact a9 s hs
  · rw [e 2 _ (by omega), e 89 _ (by omega)]; exact h4
  · rw [e 2 _ (by omega), e 90 _ (by omega)]; exact h5
  · intro p hp; rw [e 3 _ (by omega), e 81 _ (by omega)]; exact h6 p hp
  · intro p hp; rw [e 8 _ (by omega), e 88 _ (by omega)]; exact h7 p hp
  · rw [e 2 _ (by omega)]; exact h8
  · have : opR I' σ = opR I σ := funext fun j => by unfold opR; rw [e 80 _ (by omega)]
    rw [this]; exact h9
theorem relS.scr {I I' : Nat → Nat → Int32} {σ : rfP} (h : relS I σ) (g : am_ag scrP I I') : relS I' σ := relS.fr h (fun k j hk => g k j (by unfold scrP; omega))
theorem relT.fr {I I' : Nat → Nat → Int32} (h : relT I) (e : ∀ k j, k = 0 ∨ k = 1 ∨ k = 70 ∨ (k = 69 ∧ (j = 2 ∨ j = 17)) → I' k j = I k j) : relT I' := by
  obtain ⟨T, h1, h2, h3, h4, h5⟩ := h
  exact ⟨T, h1, by rw [e 0 _ (by omega)]; exact h2, by rw [e 69 _ (by omega)]; exact h3, fun j hj => by rw [e 1 _ (by omega), e 70 _ (by omega)]; exact h4 j hj, by rw [e 0 _ (by omega), e 69 _ (by omega)]; exact h5⟩
theorem relT.scr {I I' : Nat → Nat → Int32} (h : relT I) (g : am_ag scrP I I') : relT I' := relT.fr h (fun k j hk => g k j (by unfold scrP; omega))
theorem relU.fr {I I' : Nat → Nat → Int32} {n : Nat} {R : Nat → Nat → Option Nat} {P S : Nat} (h : relU I R P S) (hR : relR n R) (e : ∀ k j, k = 39 ∨ k = 105 ∨ (116 ≤ k ∧ k < 2000) ∨ (k = 69 ∧ j = 54) → I' k j = I k j) : relU I' R P S := by
  obtain ⟨u, nx, h1, h2, h3, h4, h5, h6⟩ := h
  refine ⟨u, nx, h1, h2, by rw [e 39 _ (by omega)]; exact h3, by rw [e 69 _ (by omega)]; exact h4, by rw [e 39 _ (by omega)]; exact h5, fun i hi => ?_⟩
  obtain ⟨k, a1, a2⟩ := h6 i hi
  have hc := hR.2.2.1 _ k (by omega) a1
  exact ⟨k, a1, a2.mv (fun x j x1 x2 => e x j (by have := hc.1; have := hc.2.2; have := hR.n; omega)) (fun j hj => e 105 _ (by omega))⟩
theorem relU.scr {I I' : Nat → Nat → Int32} {n : Nat} {R : Nat → Nat → Option Nat} {P S : Nat} (h : relU I R P S) (hR : relR n R) (g : am_ag scrP I I') : relU I' R P S := relU.fr h hR (fun k j hk => g k j (by unfold scrP; omega))
theorem relH.fr {I I' : Nat → Nat → Int32} {n : Nat} {R : Nat → Nat → Option Nat} {P S : Nat} (h : relH I R P S) (hR : relR n R) (e : ∀ k j, k = 39 ∨ k = 114 ∨ k = 115 ∨ (116 ≤ k ∧ k < 2000) → I' k j = I k j) : relH I' R P S := by
  obtain ⟨b, h1, h2, h3⟩ := h
  refine ⟨b, h1, by rw [e 39 _ (by omega)]; exact h2, fun s hs => ⟨by rw [e 114 _ (by omega)]; exact (h3 s hs).1, fun hb => ?_⟩⟩
  obtain ⟨k, a1, a2⟩ := (h3 s hs).2 hb
  have hc := hR.2.2.2.1 _ k hs a1
  exact ⟨k, a1, a2.mv (fun x j x1 x2 => e x j (by have := hc.1; have := hc.2.2; have := hR.n; omega)) (fun j hj => e 115 _ (by omega))⟩
theorem relH.scr {I I' : Nat → Nat → Int32} {n : Nat} {R : Nat → Nat → Option Nat} {P S : Nat} (h : relH I R P S) (hR : relR n R) (g : am_ag scrP I I') : relH I' R P S := relH.fr h hR (fun k j hk => g k j (by unfold scrP; omega))
theorem relJ.fr {I I' : Nat → Nat → Int32} {P : Nat} (h : relJ I P) (e : ∀ k j, (k = 57 ∧ j = 10) ∨ k = 58 ∨ k = 59 ∨ k = 60 ∨ (k = 69 ∧ j = 60) ∨ k = 110 ∨ k = 111 ∨ k = 112 → I' k j = I k j) : relJ I' P := by
  obtain ⟨T, h1, h2, h3, h4⟩ := h
  exact ⟨T, h1, by rw [e 57 _ (by omega)]; exact h2, by rw [e 69 _ (by omega)]; exact h3, fun i hi => by rw [e 58 _ (by omega), e 59 _ (by omega), e 60 _ (by omega), e 110 _ (by omega), e 111 _ (by omega), e 112 _ (by omega)]; exact h4 i hi⟩
theorem relJ.scr {I I' : Nat → Nat → Int32} {P : Nat} (h : relJ I P) (g : am_ag scrP I I') : relJ I' P := relJ.fr h (fun k j hk => g k j (by unfold scrP; omega))
theorem crs.scr {I I' : Nat → Nat → Int32} {P S : Nat} (h : crs I 34 P S (I 103)) (g : am_ag scrP I I') : crs I' 34 P S (I' 103) := h.mv (fun k j x1 x2 => g k j (by unfold scrP; omega)) (fun j _ => g 103 j (by unfold scrP; omega))
theorem RELs.scr {n : Nat} {I I' : Nat → Nat → Int32} {L : Nat → Nat → Int64} {R : Nat → Nat → Option Nat} {σ : rfP} (h : RELs (n, I, L, R) σ) (g : am_ag scrP I I') : RELs (n, I', L, R) σ := by
  obtain ⟨h1, h2, h3, h4, h5, h6, h7, h8⟩ := h
  exact ⟨h1, h2, h3.scr g, h4.scr g, h5.scr g, h6.scr h1 g, h7.scr h1 g, h8.scr g⟩
theorem sk_scr {I I' : Nat → Nat → Int32} (h : am_ag skc I I') : am_ag scrP I I' := h.mono (fun k j z => by unfold skc at z; unfold scrP; omega)
theorem sc2_scr {I I' : Nat → Nat → Int32} (h : am_ag sc2 I I') : am_ag scrP I I' := h.mono (fun k j z => by unfold sc2 sc1 at z; unfold scrP; omega)
theorem sc1_scr {I I' : Nat → Nat → Int32} (h : am_ag sc1 I I') : am_ag scrP I I' := sc2_scr (h.mono sc1_sc2)
/-- both sides answer alike, and the two states are tied again -/
def sim (X : am_X) (D : Nat) (mc mr : am_MM) (lc lr : List (Option Value)) (M : am_M) : Prop := am_E X D mc 0 lc [] M (fun v M1 => am_E X D mr 0 lr [] M1 (fun v' M2 => v = v' ∧ REL M2))
theorem RELs.rf {n : Nat} {I : Nat → Nat → Int32} {L : Nat → Nat → Int64} {R : Nat → Nat → Option Nat} {σ : rfP} (h : RELs (n, I, L, R) σ) : rf_S I σ := h.2.2.1.1
theorem RELs.cl {n : Nat} {I : Nat → Nat → Int32} {L : Nat → Nat → Int64} {R : Nat → Nat → Option Nat} {σ : rfP} (h : RELs (n, I, L, R) σ) : cl_S I σ := h.2.2.1.2.1
theorem RELs.co {n : Nat} {I : Nat → Nat → Int32} {L : Nat → Nat → Int64} {R : Nat → Nat → Option Nat} {σ : rfP} (h : RELs (n, I, L, R) σ) : crs I 34 (p_P σ) (p_S σ) (I 103) := h.2.2.2.2.1
