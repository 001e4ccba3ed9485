--! 80
/-! PLAYS: the class's fewest pulls -/
def sdN (b m : Nat) : Int32 := nI ((b + m) % 2)
/-- the verdict behind m pulls -/
def vdL (σ : rfP) (v0 pl : Int32) : Nat → Nat → Int32
  | 0, _ => v0
  | m + 1, w => vdW σ w (pl + nI (m + 1))
def pvz (σ : rfP) (v0 pl : Int32) (m w : Nat) : Bool := decide (vdL σ v0 pl m w = 0)
def pmay (σ : rfP) (b : Nat) (pl : Int32) (m w s : Nat) : Bool := mayW σ w s (sdN b m) (pl + nI m)
def okL (σ : rfP) (b : Nat) (pl v0 : Int32) (w0 m : Nat) : Nat → Option Nat := plW (p_S σ) (pmay σ b pl) (cMv σ) (pvz σ v0 pl) m 0 w0
def fdL : Nat → Nat → Int32
  | 0, _ => -1
  | m + 1, t => nI (t / 7 ^ m % 7)
def glV (σ : rfP) (kind pp : Nat) (wt v0 pl : Int32) (m w : Nat) : Bool := gB kind wt pp (p_P σ) w (vdL σ v0 pl m w)
theorem okL_ext {σ : rfP} {b w0 m y s : Nat} {pl v0 : Int32} (hs : s < 7) : okL σ b pl v0 w0 (m + 1) (7 * y + s) = (okL σ b pl v0 w0 m y).bind (fun w => if s < p_S σ ∧ pvz σ v0 pl m w = true ∧ mayW σ w s (sdN b m) (pl + nI m) = true then some (cMv σ w s) else none) := by
  unfold okL
  rw [plW_ext hs, Nat.zero_add]
  rfl
theorem plW_okP {σ : rfP} {may : Nat → Nat → Nat → Bool} {vz : Nat → Nat → Bool} {way : Nat} (ho : ok_S σ) (hmay : ∀ m w s, s < p_S σ → okP σ w → may m w s = true → stW σ w s = true) : ∀ (rem made w w' : Nat), okP σ w → plW (p_S σ) may (cMv σ) vz rem made w way = some w' → okP σ w' := by
  intro rem
  induction rem with
  | zero => intro made w w' hw h; cases h; exact hw
  | succ rem ih =>
    intro made w w' hw h
    rw [plW] at h
    split at h
    · next hh => exact ih _ _ _ (hw.mv ho hh.1 (hmay _ _ _ hh.1 hw hh.2.2)) h
    · cases h
theorem pmay_st {σ : rfP} {b : Nat} {pl : Int32} (ho : ok_S σ) : ∀ m w s, s < p_S σ → okP σ w → pmay σ b pl m w s = true → stW σ w s = true := fun _ _ _ hs hw h => mayW_st ho hs hw h
theorem okL_okP {σ : rfP} {b w0 m y w : Nat} {pl v0 : Int32} (ho : ok_S σ) (hw : okP σ w0) (h : okL σ b pl v0 w0 m y = some w) : okP σ w := plW_okP ho (pmay_st ho) m 0 w0 w hw h
theorem fdL_ext {m y s : Nat} (hs : s < 7) : fdL (m + 1) (7 * y + s) = if fdL m y = -1 then nI s else fdL m y := by
  cases m with
  | zero =>
    rw [if_pos (show fdL 0 y = -1 from rfl)]
    show nI ((7 * y + s) / 7 ^ 0 % 7) = nI s
    rw [Nat.pow_zero, Nat.div_one]
    exact congrArg nI (by omega)
  | succ m =>
    have e : (7 * y + s) / 7 ^ (m + 1) % 7 = y / 7 ^ m % 7 := by
      rw [Nat.pow_succ, Nat.mul_comm (7 ^ m) 7, ← Nat.div_div_eq_div_mul, show (7 * y + s) / 7 = y by omega]
    have ne : ¬ fdL (m + 1) y = -1 := by
      show ¬ nI (y / 7 ^ m % 7) = -1
      intro z
      have h2 : ¬ nI (y / 7 ^ m % 7) < 0 := nI_pos (by have := Nat.mod_lt (y / 7 ^ m) (show 0 < 7 by omega); omega)
      rw [z] at h2
      exact absurd h2 (by decide)
    rw [if_neg ne]
    show nI ((7 * y + s) / 7 ^ (m + 1) % 7) = nI (y / 7 ^ m % 7)
    rw [e]
/-- what is found: level by level, way by way -/
def fnd (ok : Nat → Nat → Option Nat) (gl : Nat → Nat → Bool) (g0 : Bool) (res fst : Int32) : Prop :=
  (g0 = true ∧ res = nI 0) ∨ (g0 = false ∧ ∃ m t x, m < 5 ∧ t < 7 ^ (m + 1) ∧ (∀ m', m' < m → noG (ok (m' + 1)) (gl (m' + 1)) (7 ^ (m' + 1))) ∧ noG (ok (m + 1)) (gl (m + 1)) t ∧ ok (m + 1) t = some x ∧ gl (m + 1) x = true ∧ res = nI (m + 1) ∧ fst = nI (t / 7 ^ m % 7)) ∨ (g0 = false ∧ (∀ m', m' < 5 → noG (ok (m' + 1)) (gl (m' + 1)) (7 ^ (m' + 1))) ∧ res = -2)
def plS (k j : Nat) : Prop := skc k j ∨ (k = 42 ∧ (j = 6 ∨ j = 7 ∨ j = 11)) ∨ (43 ≤ k ∧ k ≤ 46)
theorem pls_scr {I I' : Nat → Nat → Int32} (h : am_ag plS I I') : am_ag scrP I I' := h.mono (fun k j z => by unfold plS skc at z; unfold scrP; omega)
section PD
variable {X : am_X} {d n : Nat} {I : Nat → Nat → Int32} {L : Nat → Nat → Int64} {R : Nat → Nat → Option Nat} {Q : Option Value → am_M → Prop} {σ : rfP}
theorem l_fewC {w0 b kind pp : Nat} {pl v0 wt : Int32} (hN : 116 ≤ n) (hn : n ≤ 1000) (ho : ok_S σ) (H : cl_S I σ) (hw : okP σ w0) (hR : am_OR R) (h1 : I 34 1 = pl) (h2 : I 34 2 = nI b) (hb : b < 2) (hk : I 42 8 = nI kind) (hk2 : kind ≤ 2) (hwt : I 42 9 = wt) (hpp : kind = 2 → I 42 10 = nI pp ∧ pp < 5)
    (hQ1 : ∀ m t x I' R', m < 5 → t < 7 ^ (m + 1) → (∀ m', m' < m → noG (okL σ b pl v0 w0 (m' + 1)) (glV σ kind pp wt v0 pl (m' + 1)) (7 ^ (m' + 1))) → noG (okL σ b pl v0 w0 (m + 1)) (glV σ kind pp wt v0 pl (m + 1)) t → okL σ b pl v0 w0 (m + 1) t = some x → glV σ kind pp wt v0 pl (m + 1) x = true → am_ag plS I I' → agR R R' → plL R' → I' 42 11 = nI (t / 7 ^ m % 7) → Q (some (.int (nI (m + 1)))) (n, I', L, R'))
    (hQ2 : ∀ I' R', (∀ m', m' < 5 → noG (okL σ b pl v0 w0 (m' + 1)) (glV σ kind pp wt v0 pl (m' + 1)) (7 ^ (m' + 1))) → am_ag plS I I' → agR R R' → plL R' → Q (some (.int (-2))) (n, I', L, R')) :
    ∀ (m made : Nat) (J : Nat → Nat → Int32) (R1 : Nat → Nat → Option Nat) (A B C D : Nat), made + m = 5 → am_ag plS I J → agR R R1 → plA R1 A B C D → (made < 5 → arrI J A B (lv (okL σ b pl v0 w0 made) (pvz σ v0 pl made) (fdL made) (7 ^ made)) ∧ J 42 6 = nI (lv (okL σ b pl v0 w0 made) (pvz σ v0 pl made) (fdL made) (7 ^ made)).length) → (∀ m', m' < made → noG (okL σ b pl v0 w0 (m' + 1)) (glV σ kind pp wt v0 pl (m' + 1)) (7 ^ (m' + 1))) → am_E X (d + 6) mX7_fewest 53 [some (.ref 42), some (.ref 34), some (.int (nI made))] [] (n, J, L, R1) Q := by
  have hl := am_lt hN
  have hvw9 := am_lw hN
  intro m
  induction m with
  | zero =>
    intro made J R1 A B C D hm hJ hR1 hpl _ hg
    have hm : made = 5 := by omega
    subst hm
    have c1 : nI 5 ≤ nI 5 := by decide
    simp only [am_lv_of, rX7_fewest_53, rX7_fewest_54, rX7_fewest_55, rX7_fewest_89, rX7_fewest_91, ↓reduceIte, c1]
    exact hQ2 J R1 hg hJ hR1 hpl.L
  | succ m ih =>
    intro made J R1 A B C D hm hJ hRR hpl hlv hg
    have hR := hRR.OR hR
    obtain ⟨ha, h6⟩ := hlv (by omega)
    obtain ⟨bA, bB, bC, bD, -⟩ := hpl.bd
    have c1 : ¬ nI 5 ≤ nI made := nI_ge (by omega) (by omega)
    have q1 : J 34 1 = pl := by rw [hJ 34 1 (by unfold plS skc; omega)]; exact h1
    have q2 : J 34 2 = nI b := by rw [hJ 34 2 (by unfold plS skc; omega)]; exact h2
    have e : nI (b + made) &&& nI 1 = sdN b made := pk_andN (show b + made < 2 ^ 32 by omega) 1 (by decide)
    have epl : pl + nI made + nI 1 = pl + nI (made + 1) := by rw [Int32.add_assoc, nI_add]
    have z0 : (nI 0 = 0) = True := eq_true rfl
    have z1 : ¬ nI 1 = 0 := by decide
    have e7 : 7 ^ (made + 1) = 7 * 7 ^ made := by rw [Nat.pow_succ, Nat.mul_comm]
    rw [rX7_fewest_53]
    simp only [am_lv_of, rX7_fewest_54, rX7_fewest_55, rX7_fewest_58, rX7_fewest_59, rX7_fewest_60, rX7_fewest_63, rX7_fewest_64, rX7_fewest_65, rX7_fewest_66, rX7_fewest_69, rX7_fewest_70, rX7_fewest_71, rX7_fewest_72, rX7_fewest_73, ro_0_0 hR, ro_0_3 hR, ro_0_4 hR, ro_0_5 hR, ro_0_6 hR, ro_0_7 hR, ro_0_8 hR, ro_0_9 hR, ro_0_10 hR, ro_0_11 hR, ro_2_6 hR, ro_2_7 hR, ro_2_8 hR, ro_2_9 hR, ro_2_10 hR, ro_2_11 hR, ro_2_12 hR, ro_2_13 hR, ro_9_0 hR, ro_9_1 hR, ro_9_2 hR, ro_14_0 hR, ro_14_1 hR, ro_14_2 hR, ro_14_7 hR, ro_15_0 hR, ro_15_1 hR, ro_15_2 hR, ro_15_3 hR, ro_20_6 hR, ro_20_7 hR, ro_20_8 hR, ro_20_9 hR, ro_20_10 hR, ro_20_11 hR, ro_20_12 hR, ro_20_13 hR, ro_27_0 hR, ro_27_1 hR, ro_27_2 hR, ro_32_0 hR, ro_32_1 hR, ro_34_10 hR, ro_34_11 hR, ro_34_12 hR, ro_34_13 hR, ro_39_0 hR, ro_39_1 hR, ro_42_0 hR, ro_42_1 hR, ro_47_0 hR, ro_47_1 hR, ro_47_2 hR, ro_47_3 hR, ro_55_0 hR, ro_55_1 hR, ro_55_2 hR, ro_57_0 hR, ro_57_1 hR, ro_57_2 hR, ro_57_3 hR, ro_57_4 hR, ro_57_5 hR, ro_57_8 hR, sh_0, sh_1, sh_2, sh_3, sh_4, sh_5, sh_6, sh_7, sh_8, sh_9, sh_10, sh_11, sh_12, sh_13, sh_14, sh_15, sh_16, sh_17, sh_18, sh_19, sh_20, sh_21, sh_22, sh_23, sh_24, sh_25, sh_26, sh_27, sh_28, sh_29, sh_30, sh_31, sh_32, sh_33, sh_34, sh_35, sh_36, sh_37, sh_38, sh_39, sh_40, sh_41, sh_42, sh_43, sh_44, sh_45, sh_46, sh_47, sh_48, sh_49, sh_50, sh_51, sh_52, sh_53, sh_54, sh_55, sh_56, sh_57, sh_58, sh_59, sh_60, sh_61, sh_62, sh_63, sh_64, sh_65, sh_66, sh_67, sh_68, hl, hvw9, Nat.reduceLT, Nat.reduceAdd, Nat.reduceMul, ne_eq, Nat.reduceEqDiff, not_false_eq_true, or_true, true_or, or_false, false_or, and_true, true_and, and_self, Nat.reduceLeDiff, am_ci, am_cr, am_cn0, Option.toList_some, Option.toList_none, List.cons_append, List.nil_append, am_s0, am_s1, am_s1r, am_s2, am_s2r, am_s3r, nI_add, am_u_ne, am_u_at, am_u_n1, am_u_n2, am_w_ne, ↓reduceIte, c1, q1, q2, e]
    refine c_oneMore (σ := σ) (N := 7 ^ made) (kind := kind) (pp := pp) (wt := wt) (lst := made = 4) (ok := okL σ b pl v0 w0 made) (ok' := okL σ b pl v0 w0 (made + 1)) (z := pvz σ v0 pl made) (z' := pvz σ v0 pl (made + 1)) (fd := fdL made) (fd' := fdL (made + 1)) hR hN hn ho (H.ag (fun k j hk => hJ k j (by unfold plS skc; omega))) hpl ha h6 (lv_210 ho (pmay_st ho) hw (by omega)) (by rw [hJ 42 8 (by unfold plS skc; omega)]; exact hk) hk2 (by rw [hJ 42 9 (by unfold plS skc; omega)]; exact hwt) (fun z => by rw [hJ 42 10 (by unfold plS skc; omega)]; exact hpp z) (fun y w hy => okL_okP ho hw hy) (fun y s hs => okL_ext hs) (fun y s hs => fdL_ext hs) (fun x => by rw [epl]; rfl) (fun h4 t => lv_210 ho (pmay_st ho) hw (by omega)) (fun t x I' t1 t2 t3 t4 t5 t6 => ?_) (fun I' l R' r1 r2 g a1 a2 a3 => ?_)
    · rw [epl] at t2 t4
      simp only [am_lv_of, Option.toList_some, List.cons_append, List.nil_append, rX7_fewest_76, rX7_fewest_79, rX7_fewest_80, rX7_fewest_81, rX7_fewest_82, hl, hvw9, Nat.reduceLT, Nat.reduceAdd, Nat.reduceMul, ne_eq, Nat.reduceEqDiff, not_false_eq_true, or_true, true_or, or_false, false_or, and_true, true_and, and_self, Nat.reduceLeDiff, am_ci, am_cr, am_cn0, Option.toList_some, Option.toList_none, List.cons_append, List.nil_append, am_s0, am_s1, am_s1r, am_s2, am_s2r, am_s3r, nI_add, am_u_ne, am_u_at, am_u_n1, am_u_n2, am_w_ne, z1, ↓reduceIte]
      exact hQ1 made t x I' R1 (by omega) (by rw [e7]; exact t1) hg t2 t3 t4 (hJ.trans (t5.mono (fun k j z => by unfold omP skc at z; unfold plS skc; omega))) hRR hpl.L t6
    · rw [epl] at a3
      simp only [am_lv_of, Option.toList_some, List.cons_append, List.nil_append, rX7_fewest_76, rX7_fewest_83, rX7_fewest_86, hl, hvw9, Nat.reduceLT, Nat.reduceAdd, Nat.reduceMul, ne_eq, Nat.reduceEqDiff, not_false_eq_true, or_true, true_or, or_false, false_or, and_true, true_and, and_self, Nat.reduceLeDiff, am_ci, am_cr, am_cn0, Option.toList_some, Option.toList_none, List.cons_append, List.nil_append, am_s0, am_s1, am_s1r, am_s2, am_s2r, am_s3r, nI_add, am_u_ne, am_u_at, am_u_n1, am_u_n2, am_w_ne, z0, ↓reduceIte]
      refine ih (made + 1) I' R' C D A B (by omega) (hJ.trans (g.mono (fun k j z => by unfold omP skc at z; unfold plS skc; omega))) (hRR.trans r1) r2 (fun hlt => ?_) (fun m' hm' => ?_)
      · have := a3.2.2.2 (by omega)
        rw [e7, ← this]
        exact ⟨a1, a2⟩
      · by_cases em : m' = made
        · rw [em, e7]; exact a3.1
        · exact hg m' (by omega)
theorem c_fewestC {w0 b kind pp : Nat} {pl v0 wt : Int32} (hN : 116 ≤ n) (hn : n ≤ 1000) (ho : ok_S σ) (H : cl_S I σ) (hw : okP σ w0) (hR : am_OR R) (hpl : plL R) (h0 : I 34 0 = nI w0) (h1 : I 34 1 = pl) (h2 : I 34 2 = nI b) (h3 : I 34 3 = v0) (hb : b < 2) (hk : I 42 8 = nI kind) (hk2 : kind ≤ 2) (hwt : I 42 9 = wt) (hpp : kind = 2 → I 42 10 = nI pp ∧ pp < 5)
    (hQ : ∀ res fst I' R', am_ag plS I I' → agR R R' → plL R' → I' 42 11 = fst → fnd (okL σ b pl v0 w0) (glV σ kind pp wt v0 pl) (decide (v0 = 0) && gB kind wt pp (p_P σ) w0 (nI 0)) res fst → Q (some (.int res)) (n, I', L, R')) : am_E X (d + 6) mX7_fewest 0 [some (.ref 42), some (.ref 34), none] [] (n, I, L, R) Q := by
  have hl := am_lt hN
  have hvw9 := am_lw hN
  have g1 : am_ag plS I (am_u I 42 11 (-1)) := am_ag.refl.u (Or.inr (Or.inl ⟨rfl, Or.inr (Or.inr rfl)⟩))
  have hP : I 2 0 = nI (p_P σ) := H.1
  by_cases hv : v0 = 0
  · have hv' : (v0 = 0) = True := eq_true hv
    simp only [am_lv_of, rX7_fewest_0, rX7_fewest_1, rX7_fewest_2, rX7_fewest_5, rX7_fewest_6, rX7_fewest_9, rX7_fewest_12, rX7_fewest_14, rX7_fewest_15, rX7_fewest_16, rX7_fewest_17, rX7_fewest_20, rX7_fewest_21, ro_0_0 hR, ro_0_3 hR, ro_0_4 hR, ro_0_5 hR, ro_0_6 hR, ro_0_7 hR, ro_0_8 hR, ro_0_9 hR, ro_0_10 hR, ro_0_11 hR, ro_2_6 hR, ro_2_7 hR, ro_2_8 hR, ro_2_9 hR, ro_2_10 hR, ro_2_11 hR, ro_2_12 hR, ro_2_13 hR, ro_9_0 hR, ro_9_1 hR, ro_9_2 hR, ro_14_0 hR, ro_14_1 hR, ro_14_2 hR, ro_14_7 hR, ro_15_0 hR, ro_15_1 hR, ro_15_2 hR, ro_15_3 hR, ro_20_6 hR, ro_20_7 hR, ro_20_8 hR, ro_20_9 hR, ro_20_10 hR, ro_20_11 hR, ro_20_12 hR, ro_20_13 hR, ro_27_0 hR, ro_27_1 hR, ro_27_2 hR, ro_32_0 hR, ro_32_1 hR, ro_34_10 hR, ro_34_11 hR, ro_34_12 hR, ro_34_13 hR, ro_39_0 hR, ro_39_1 hR, ro_42_0 hR, ro_42_1 hR, ro_47_0 hR, ro_47_1 hR, ro_47_2 hR, ro_47_3 hR, ro_55_0 hR, ro_55_1 hR, ro_55_2 hR, ro_57_0 hR, ro_57_1 hR, ro_57_2 hR, ro_57_3 hR, ro_57_4 hR, ro_57_5 hR, ro_57_8 hR, sh_0, sh_1, sh_2, sh_3, sh_4, sh_5, sh_6, sh_7, sh_8, sh_9, sh_10, sh_11, sh_12, sh_13, sh_14, sh_15, sh_16, sh_17, sh_18, sh_19, sh_20, sh_21, sh_22, sh_23, sh_24, sh_25, sh_26, sh_27, sh_28, sh_29, sh_30, sh_31, sh_32, sh_33, sh_34, sh_35, sh_36, sh_37, sh_38, sh_39, sh_40, sh_41, sh_42, sh_43, sh_44, sh_45, sh_46, sh_47, sh_48, sh_49, sh_50, sh_51, sh_52, sh_53, sh_54, sh_55, sh_56, sh_57, sh_58, sh_59, sh_60, sh_61, sh_62, sh_63, sh_64, sh_65, sh_66, sh_67, sh_68, hl, hvw9, Nat.reduceLT, Nat.reduceAdd, Nat.reduceMul, ne_eq, Nat.reduceEqDiff, not_false_eq_true, or_true, true_or, or_false, false_or, and_true, true_and, and_self, Nat.reduceLeDiff, am_ci, am_cr, am_cn0, Option.toList_some, Option.toList_none, List.cons_append, List.nil_append, am_s0, am_s1, am_s1r, am_s2, am_s2r, am_s3r, nI_add, am_u_ne, am_u_at, am_u_n1, am_u_n2, am_w_ne, ↓reduceIte, hn, h3, hv', h0]
    rw [c_isGoal (kind := kind) (pp := pp) (P := p_P σ) (wt := wt) hR hN (by rw [am_u_n2 (by omega)]; exact hk) hk2 (by rw [am_u_n2 (by omega)]; exact hwt) (fun z => by rw [am_u_n2 (by omega)]; exact hpp z) (by rw [am_u_n1 (by omega)]; exact hP) ho.1 hw.1]
    simp only [am_lv_of, Option.toList_some, List.cons_append, List.nil_append, rX7_fewest_24, bI_ne]
    cases hg : gB kind wt pp (p_P σ) w0 (nI 0) with
    | true =>
      simp only [am_lv_of, Bool.true_eq_false, ↓reduceIte, rX7_fewest_27, rX7_fewest_28, hl, hvw9, Nat.reduceLT, Nat.reduceAdd, Nat.reduceMul, ne_eq, Nat.reduceEqDiff, not_false_eq_true, or_true, true_or, or_false, false_or, and_true, true_and, and_self, Nat.reduceLeDiff, am_ci, am_cr, am_cn0, Option.toList_some, Option.toList_none, List.cons_append, List.nil_append, am_s0, am_s1, am_s1r, am_s2, am_s2r, am_s3r, nI_add, am_u_ne, am_u_at, am_u_n1, am_u_n2, am_w_ne]
      exact hQ _ _ _ R g1 agR.refl hpl rfl (Or.inl ⟨by rw [hg]; simp [hv], rfl⟩)
    | false =>
      have hg0 : (decide (v0 = 0) && gB kind wt pp (p_P σ) w0 (nI 0)) = false := by rw [hg]; simp
      obtain ⟨A, B, C, D, hA⟩ := plA_of hpl
      obtain ⟨rA, rB, rC, rD⟩ := hA.rf
      obtain ⟨sA, sB, sC, sD⟩ := hA.sh
      obtain ⟨bA, bB, bC, bD, nAC, nAD, nBC, nBD, nCD, nAB⟩ := hA.bd
      have lA : A < n := by omega
      have lB : B < n := by omega
      have n34A : ¬ 34 = A := by omega
      have n34B : ¬ 34 = B := by omega
      simp only [am_lv_of, ↓reduceIte, rX7_fewest_29, rX7_fewest_30, rX7_fewest_33, rX7_fewest_34, rX7_fewest_35, rX7_fewest_38, rX7_fewest_39, rX7_fewest_40, rX7_fewest_43, rX7_fewest_44, rX7_fewest_45, rX7_fewest_46, rX7_fewest_47, rX7_fewest_48, rX7_fewest_51, rX7_fewest_52, ro_0_0 hR, ro_0_3 hR, ro_0_4 hR, ro_0_5 hR, ro_0_6 hR, ro_0_7 hR, ro_0_8 hR, ro_0_9 hR, ro_0_10 hR, ro_0_11 hR, ro_2_6 hR, ro_2_7 hR, ro_2_8 hR, ro_2_9 hR, ro_2_10 hR, ro_2_11 hR, ro_2_12 hR, ro_2_13 hR, ro_9_0 hR, ro_9_1 hR, ro_9_2 hR, ro_14_0 hR, ro_14_1 hR, ro_14_2 hR, ro_14_7 hR, ro_15_0 hR, ro_15_1 hR, ro_15_2 hR, ro_15_3 hR, ro_20_6 hR, ro_20_7 hR, ro_20_8 hR, ro_20_9 hR, ro_20_10 hR, ro_20_11 hR, ro_20_12 hR, ro_20_13 hR, ro_27_0 hR, ro_27_1 hR, ro_27_2 hR, ro_32_0 hR, ro_32_1 hR, ro_34_10 hR, ro_34_11 hR, ro_34_12 hR, ro_34_13 hR, ro_39_0 hR, ro_39_1 hR, ro_42_0 hR, ro_42_1 hR, ro_47_0 hR, ro_47_1 hR, ro_47_2 hR, ro_47_3 hR, ro_55_0 hR, ro_55_1 hR, ro_55_2 hR, ro_57_0 hR, ro_57_1 hR, ro_57_2 hR, ro_57_3 hR, ro_57_4 hR, ro_57_5 hR, ro_57_8 hR, sh_0, sh_1, sh_2, sh_3, sh_4, sh_5, sh_6, sh_7, sh_8, sh_9, sh_10, sh_11, sh_12, sh_13, sh_14, sh_15, sh_16, sh_17, sh_18, sh_19, sh_20, sh_21, sh_22, sh_23, sh_24, sh_25, sh_26, sh_27, sh_28, sh_29, sh_30, sh_31, sh_32, sh_33, sh_34, sh_35, sh_36, sh_37, sh_38, sh_39, sh_40, sh_41, sh_42, sh_43, sh_44, sh_45, sh_46, sh_47, sh_48, sh_49, sh_50, sh_51, sh_52, sh_53, sh_54, sh_55, sh_56, sh_57, sh_58, sh_59, sh_60, sh_61, sh_62, sh_63, sh_64, sh_65, sh_66, sh_67, sh_68, hl, hvw9, Nat.reduceLT, Nat.reduceAdd, Nat.reduceMul, ne_eq, Nat.reduceEqDiff, not_false_eq_true, or_true, true_or, or_false, false_or, and_true, true_and, and_self, Nat.reduceLeDiff, am_ci, am_cr, am_cn0, Option.toList_some, Option.toList_none, List.cons_append, List.nil_append, am_s0, am_s1, am_s1r, am_s2, am_s2r, am_s3r, nI_add, am_u_ne, am_u_at, am_u_n1, am_u_n2, am_w_ne, hn, h0, rA, rB, sA, sB, lA, lB, n34A, n34B]
      refine l_fewC (σ := σ) (w0 := w0) (b := b) (kind := kind) (pp := pp) (pl := pl) (v0 := v0) (wt := wt) (I := I) (R := R) hN hn ho H hw hR h1 h2 hb hk hk2 hwt hpp (fun m t x I' R' m1 m2 m3 m4 m5 m6 m7 m8 m9 m10 => hQ _ _ I' R' m7 m8 m9 m10 (Or.inr (Or.inl ⟨hg0, m, t, x, m1, m2, m3, m4, m5, m6, rfl, rfl⟩))) (fun I' R' m3 m7 m8 m9 => hQ _ _ I' R' m7 m8 m9 rfl (Or.inr (Or.inr ⟨hg0, m3, rfl⟩))) 5 0 _ R A B C D (by omega) ?_ agR.refl hA (fun _ => ?_) (fun m' hm' => absurd hm' (Nat.not_lt_zero _))
      · refine am_ag.u (am_ag.u (am_ag.u g1 ?_) ?_) ?_
        · unfold plS; omega
        · unfold plS; omega
        · unfold plS; omega
      · have el : lv (okL σ b pl v0 w0 0) (pvz σ v0 pl 0) (fdL 0) (7 ^ 0) = [(w0, -1)] := by
          have : lv (okL σ b pl v0 w0 0) (pvz σ v0 pl 0) (fdL 0) (0 + 1) = lv (okL σ b pl v0 w0 0) (pvz σ v0 pl 0) (fdL 0) 0 ++ [(w0, fdL 0 0)] := lv_new (w := w0) rfl (decide_eq_true hv) (by simp [lv])
          exact this
        rw [el]
        refine ⟨fun i q hq => ?_, by rw [am_u_at]; rfl⟩
        have hi : i = 0 := by
          have := (List.getElem?_eq_some_iff.mp hq).1
          simpa using this
        subst hi
        have : q = (w0, -1) := by simpa using hq.symm
        subst this
        refine ⟨?_, ?_, hw.1⟩
        · rw [am_u_n1 (by omega), am_u_n1 nAB, am_u_at]
        · rw [am_u_n1 (by omega), am_u_at]
  · simp only [am_lv_of, rX7_fewest_0, rX7_fewest_1, rX7_fewest_2, rX7_fewest_5, rX7_fewest_6, rX7_fewest_9, rX7_fewest_12, rX7_fewest_14, ro_0_0 hR, ro_0_3 hR, ro_0_4 hR, ro_0_5 hR, ro_0_6 hR, ro_0_7 hR, ro_0_8 hR, ro_0_9 hR, ro_0_10 hR, ro_0_11 hR, ro_2_6 hR, ro_2_7 hR, ro_2_8 hR, ro_2_9 hR, ro_2_10 hR, ro_2_11 hR, ro_2_12 hR, ro_2_13 hR, ro_9_0 hR, ro_9_1 hR, ro_9_2 hR, ro_14_0 hR, ro_14_1 hR, ro_14_2 hR, ro_14_7 hR, ro_15_0 hR, ro_15_1 hR, ro_15_2 hR, ro_15_3 hR, ro_20_6 hR, ro_20_7 hR, ro_20_8 hR, ro_20_9 hR, ro_20_10 hR, ro_20_11 hR, ro_20_12 hR, ro_20_13 hR, ro_27_0 hR, ro_27_1 hR, ro_27_2 hR, ro_32_0 hR, ro_32_1 hR, ro_34_10 hR, ro_34_11 hR, ro_34_12 hR, ro_34_13 hR, ro_39_0 hR, ro_39_1 hR, ro_42_0 hR, ro_42_1 hR, ro_47_0 hR, ro_47_1 hR, ro_47_2 hR, ro_47_3 hR, ro_55_0 hR, ro_55_1 hR, ro_55_2 hR, ro_57_0 hR, ro_57_1 hR, ro_57_2 hR, ro_57_3 hR, ro_57_4 hR, ro_57_5 hR, ro_57_8 hR, sh_0, sh_1, sh_2, sh_3, sh_4, sh_5, sh_6, sh_7, sh_8, sh_9, sh_10, sh_11, sh_12, sh_13, sh_14, sh_15, sh_16, sh_17, sh_18, sh_19, sh_20, sh_21, sh_22, sh_23, sh_24, sh_25, sh_26, sh_27, sh_28, sh_29, sh_30, sh_31, sh_32, sh_33, sh_34, sh_35, sh_36, sh_37, sh_38, sh_39, sh_40, sh_41, sh_42, sh_43, sh_44, sh_45, sh_46, sh_47, sh_48, sh_49, sh_50, sh_51, sh_52, sh_53, sh_54, sh_55, sh_56, sh_57, sh_58, sh_59, sh_60, sh_61, sh_62, sh_63, sh_64, sh_65, sh_66, sh_67, sh_68, hl, hvw9, Nat.reduceLT, Nat.reduceAdd, Nat.reduceMul, ne_eq, Nat.reduceEqDiff, not_false_eq_true, or_true, true_or, or_false, false_or, and_true, true_and, and_self, Nat.reduceLeDiff, am_ci, am_cr, am_cn0, Option.toList_some, Option.toList_none, List.cons_append, List.nil_append, am_s0, am_s1, am_s1r, am_s2, am_s2r, am_s3r, nI_add, am_u_ne, am_u_at, am_u_n1, am_u_n2, am_w_ne, ↓reduceIte, hn, h3, hv]
    refine hQ _ _ _ R g1 agR.refl hpl rfl (Or.inr (Or.inr ⟨by simp [hv], fun m' hm' y hy w hw' => ?_, rfl⟩))
    have : okL σ b pl v0 w0 (m' + 1) y = none := by
      unfold okL
      rw [plW, if_neg (fun z => hv (of_decide_eq_true z.2.1))]
    rw [this] at hw'
    cases hw'
end PD
