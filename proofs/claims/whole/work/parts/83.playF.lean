--! 82
/-! PROMISES 17, 18: straight, reach -/
section PF
variable {X : am_X} {d n : Nat} {I : Nat → Nat → Int32} {L : Nat → Nat → Int64} {R : Nat → Nat → Option Nat} {Q : Option Value → am_M → Prop} {σ : rfP}
def gA (ok : Nat → Option Nat) (gl : Nat → Bool) (t : Nat) : Bool := match ok t with
  | some x => gl x
  | none => false
/-- how the reference is told what is looked for -/
def pkR (σ : rfP) (kind pp : Nat) (p : Int32) : Prop := (kind = 1 ∧ p = -1) ∨ (kind = 2 ∧ p = nI pp ∧ pp < p_P σ)
theorem c_leadsTo {way ln w0 b kind pp : Nat} {pl v0 p wt : Int32} (hR : am_OR R) (hN : 116 ≤ n) (hn : n ≤ 1000) (ho : ok_S σ) (H : rf_S I σ) (hw : nowR I σ w0 b pl v0) (hln : ln ≤ 5) (hway : way < 7 ^ 5) (hpk : pkR σ kind pp p) (hQ : ∀ I', am_ag sc2 I I' → Q (some (.int (bI (gA (okL σ b pl v0 w0 ln) (glV σ kind pp wt v0 pl ln) way)))) (n, I', L, R)) : am_E X (d + 8) mX13_leadsTo 0 [some (.ref 69), some (.int (nI way)), some (.int (nI ln)), some (.int p), some (.int wt)] [] (n, I, L, R) Q := by
  have hl := am_lt hN
  have hvw9 := am_lw hN
  have P5 := ho.1
  simp only [am_lv_of, rX13_leadsTo_0, rX13_leadsTo_1, rX13_leadsTo_2, rX13_leadsTo_3, ro_69_1 hR, ro_69_3 hR, ro_69_5 hR, ro_69_6 hR, ro_69_7 hR, ro_69_8 hR, ro_69_9 hR, ro_69_21 hR, ro_69_22 hR, ro_69_23 hR, ro_69_24 hR, ro_69_25 hR, ro_69_26 hR, ro_69_27 hR, ro_69_28 hR, ro_69_29 hR, ro_69_30 hR, ro_69_31 hR, ro_69_32 hR, ro_69_33 hR, ro_69_34 hR, ro_69_35 hR, ro_69_36 hR, ro_69_38 hR, ro_69_39 hR, ro_69_40 hR, ro_69_41 hR, ro_69_42 hR, ro_69_44 hR, ro_69_45 hR, ro_69_46 hR, ro_69_48 hR, ro_69_49 hR, ro_69_51 hR, ro_69_52 hR, ro_69_55 hR, ro_69_56 hR, ro_69_57 hR, ro_69_58 hR, ro_69_59 hR, ro_69_61 hR, ro_69_62 hR, ro_69_63 hR, ro_69_64 hR, ro_69_65 hR, ro_69_66 hR, sh_69, sh_70, sh_71, sh_72, sh_73, sh_74, sh_75, sh_76, sh_77, sh_78, sh_79, sh_80, sh_81, sh_82, sh_83, sh_84, sh_85, sh_86, sh_87, sh_88, sh_89, sh_90, sh_91, sh_92, sh_93, sh_94, sh_95, sh_96, sh_97, sh_98, sh_99, sh_100, sh_101, sh_102, sh_103, sh_104, sh_105, sh_106, sh_107, sh_108, sh_109, sh_110, sh_111, sh_112, sh_113, sh_114, sh_115, hl, hvw9, Nat.reduceLT, Nat.reduceAdd, Nat.reduceMul, ne_eq, Nat.reduceEqDiff, not_false_eq_true, or_true, true_or, or_false, false_or, and_true, true_and, and_self, Nat.reduceLeDiff, am_ci, am_cr, am_cn0, Option.toList_some, Option.toList_none, List.cons_append, List.nil_append, am_s0, am_s1, am_s1r, am_s2, am_s2r, am_s3r, nI_add, am_u_ne, am_u_at, am_u_n1, am_u_n2, am_w_ne]
  refine c_isPlayed hR hN hn ho H hw hln hway (fun J g hx => ?_)
  have hq := hQ J g
  have HJ := H.ag g
  unfold gA at hq
  simp only [am_lv_of, Option.toList_some, List.cons_append, List.nil_append, rX13_leadsTo_6, bI_ne]
  cases hok : okL σ b pl v0 w0 ln way with
  | none =>
    rw [hok] at hq
    simp only [am_lv_of, Option.isSome_none, ↓reduceIte, rX13_leadsTo_49, rX13_leadsTo_50_0]
    exact hq
  | some x =>
    rw [hok] at hq
    obtain ⟨e1, e2⟩ := hx x hok
    simp only [am_lv_of, Option.isSome_some, Bool.true_eq_false, ↓reduceIte, rX13_leadsTo_9, rX13_leadsTo_10, rX13_leadsTo_13, rX13_leadsTo_15, ro_69_1 hR, ro_69_3 hR, ro_69_5 hR, ro_69_6 hR, ro_69_7 hR, ro_69_8 hR, ro_69_9 hR, ro_69_21 hR, ro_69_22 hR, ro_69_23 hR, ro_69_24 hR, ro_69_25 hR, ro_69_26 hR, ro_69_27 hR, ro_69_28 hR, ro_69_29 hR, ro_69_30 hR, ro_69_31 hR, ro_69_32 hR, ro_69_33 hR, ro_69_34 hR, ro_69_35 hR, ro_69_36 hR, ro_69_38 hR, ro_69_39 hR, ro_69_40 hR, ro_69_41 hR, ro_69_42 hR, ro_69_44 hR, ro_69_45 hR, ro_69_46 hR, ro_69_48 hR, ro_69_49 hR, ro_69_51 hR, ro_69_52 hR, ro_69_55 hR, ro_69_56 hR, ro_69_57 hR, ro_69_58 hR, ro_69_59 hR, ro_69_61 hR, ro_69_62 hR, ro_69_63 hR, ro_69_64 hR, ro_69_65 hR, ro_69_66 hR, sh_69, sh_70, sh_71, sh_72, sh_73, sh_74, sh_75, sh_76, sh_77, sh_78, sh_79, sh_80, sh_81, sh_82, sh_83, sh_84, sh_85, sh_86, sh_87, sh_88, sh_89, sh_90, sh_91, sh_92, sh_93, sh_94, sh_95, sh_96, sh_97, sh_98, sh_99, sh_100, sh_101, sh_102, sh_103, sh_104, sh_105, sh_106, sh_107, sh_108, sh_109, sh_110, sh_111, sh_112, sh_113, sh_114, sh_115, hl, hvw9, Nat.reduceLT, Nat.reduceAdd, Nat.reduceMul, ne_eq, Nat.reduceEqDiff, not_false_eq_true, or_true, true_or, or_false, false_or, and_true, true_and, and_self, Nat.reduceLeDiff, am_ci, am_cr, am_cn0, Option.toList_some, Option.toList_none, List.cons_append, List.nil_append, am_s0, am_s1, am_s1r, am_s2, am_s2r, am_s3r, nI_add, am_u_ne, am_u_at, am_u_n1, am_u_n2, am_w_ne, e2, rX13_leadsTo_16]
    simp only [glV] at hq
    by_cases hv : vdL σ v0 pl ln x = 0
    · have hv' : (vdL σ v0 pl ln x = 0) = True := eq_true hv
      unfold gB at hq
      rw [if_pos hv] at hq
      rcases hpk with ⟨rfl, rfl⟩ | ⟨rfl, rfl, hpp⟩
      · have m1 : ((-1 : Int32) = -1) = True := eq_true rfl
        simp only [am_lv_of, hv', not_true_eq_false, ↓reduceIte, rX13_leadsTo_19, rX13_leadsTo_20, rX13_leadsTo_21, rX13_leadsTo_24, rX13_leadsTo_25, ro_69_1 hR, ro_69_3 hR, ro_69_5 hR, ro_69_6 hR, ro_69_7 hR, ro_69_8 hR, ro_69_9 hR, ro_69_21 hR, ro_69_22 hR, ro_69_23 hR, ro_69_24 hR, ro_69_25 hR, ro_69_26 hR, ro_69_27 hR, ro_69_28 hR, ro_69_29 hR, ro_69_30 hR, ro_69_31 hR, ro_69_32 hR, ro_69_33 hR, ro_69_34 hR, ro_69_35 hR, ro_69_36 hR, ro_69_38 hR, ro_69_39 hR, ro_69_40 hR, ro_69_41 hR, ro_69_42 hR, ro_69_44 hR, ro_69_45 hR, ro_69_46 hR, ro_69_48 hR, ro_69_49 hR, ro_69_51 hR, ro_69_52 hR, ro_69_55 hR, ro_69_56 hR, ro_69_57 hR, ro_69_58 hR, ro_69_59 hR, ro_69_61 hR, ro_69_62 hR, ro_69_63 hR, ro_69_64 hR, ro_69_65 hR, ro_69_66 hR, sh_69, sh_70, sh_71, sh_72, sh_73, sh_74, sh_75, sh_76, sh_77, sh_78, sh_79, sh_80, sh_81, sh_82, sh_83, sh_84, sh_85, sh_86, sh_87, sh_88, sh_89, sh_90, sh_91, sh_92, sh_93, sh_94, sh_95, sh_96, sh_97, sh_98, sh_99, sh_100, sh_101, sh_102, sh_103, sh_104, sh_105, sh_106, sh_107, sh_108, sh_109, sh_110, sh_111, sh_112, sh_113, sh_114, sh_115, hl, hvw9, Nat.reduceLT, Nat.reduceAdd, Nat.reduceMul, ne_eq, Nat.reduceEqDiff, not_false_eq_true, or_true, true_or, or_false, false_or, and_true, true_and, and_self, Nat.reduceLeDiff, am_ci, am_cr, am_cn0, Option.toList_some, Option.toList_none, List.cons_append, List.nil_append, am_s0, am_s1, am_s1r, am_s2, am_s2r, am_s3r, nI_add, am_u_ne, am_u_at, am_u_n1, am_u_n2, am_w_ne, m1, c_tanglesNow hR hN HJ.1 HJ.2.1 HJ.2.2.1 HJ.2.2.2.1, rX13_leadsTo_28]
        rw [if_neg (by omega), if_neg (by omega), e1.tg P5] at hq
        have hle := tg_le (f := J 104) P5
        by_cases ht : tg (J 104) (p_P σ) = 0
        · have ht' : (nI (tg (J 104) (p_P σ)) = 0) = True := eq_true (by rw [ht]; rfl)
          rw [decide_eq_true ht] at hq
          simp only [am_lv_of, ht', not_true_eq_false, ↓reduceIte, rX13_leadsTo_31, rX13_leadsTo_45, rX13_leadsTo_46, rX13_leadsTo_50_1]
          exact hq
        · have ht' : ¬ nI (tg (J 104) (p_P σ)) = 0 := nI_ne0 (by omega) (by omega)
          rw [decide_eq_false ht] at hq
          simp only [am_lv_of, ht', not_false_eq_true, ↓reduceIte, rX13_leadsTo_49, rX13_leadsTo_50_0]
          exact hq
      · have pm : ¬ nI pp = -1 := fun z => by
          have h2 : ¬ nI pp < 0 := nI_pos (by omega)
          rw [z] at h2
          exact absurd h2 (by decide)
        have p68 : pp < 68 := by omega
        have ex : J 104 pp = nI (xw x pp) := (e1.2.1 pp (by omega)).1
        rw [if_neg (by omega), if_pos rfl] at hq
        simp only [am_lv_of, hv', not_true_eq_false, ↓reduceIte, rX13_leadsTo_19, rX13_leadsTo_20, rX13_leadsTo_21, rX13_leadsTo_34, rX13_leadsTo_35, rX13_leadsTo_38, rX13_leadsTo_39, rX13_leadsTo_40, ro_69_1 hR, ro_69_3 hR, ro_69_5 hR, ro_69_6 hR, ro_69_7 hR, ro_69_8 hR, ro_69_9 hR, ro_69_21 hR, ro_69_22 hR, ro_69_23 hR, ro_69_24 hR, ro_69_25 hR, ro_69_26 hR, ro_69_27 hR, ro_69_28 hR, ro_69_29 hR, ro_69_30 hR, ro_69_31 hR, ro_69_32 hR, ro_69_33 hR, ro_69_34 hR, ro_69_35 hR, ro_69_36 hR, ro_69_38 hR, ro_69_39 hR, ro_69_40 hR, ro_69_41 hR, ro_69_42 hR, ro_69_44 hR, ro_69_45 hR, ro_69_46 hR, ro_69_48 hR, ro_69_49 hR, ro_69_51 hR, ro_69_52 hR, ro_69_55 hR, ro_69_56 hR, ro_69_57 hR, ro_69_58 hR, ro_69_59 hR, ro_69_61 hR, ro_69_62 hR, ro_69_63 hR, ro_69_64 hR, ro_69_65 hR, ro_69_66 hR, sh_69, sh_70, sh_71, sh_72, sh_73, sh_74, sh_75, sh_76, sh_77, sh_78, sh_79, sh_80, sh_81, sh_82, sh_83, sh_84, sh_85, sh_86, sh_87, sh_88, sh_89, sh_90, sh_91, sh_92, sh_93, sh_94, sh_95, sh_96, sh_97, sh_98, sh_99, sh_100, sh_101, sh_102, sh_103, sh_104, sh_105, sh_106, sh_107, sh_108, sh_109, sh_110, sh_111, sh_112, sh_113, sh_114, sh_115, hl, hvw9, Nat.reduceLT, Nat.reduceAdd, Nat.reduceMul, ne_eq, Nat.reduceEqDiff, not_false_eq_true, or_true, true_or, or_false, false_or, and_true, true_and, and_self, Nat.reduceLeDiff, am_ci, am_cr, am_cn0, Option.toList_some, Option.toList_none, List.cons_append, List.nil_append, am_s0, am_s1, am_s1r, am_s2, am_s2r, am_s3r, nI_add, am_u_ne, am_u_at, am_u_n1, am_u_n2, am_w_ne, pm, not_false_eq_true, p68, ex, rX13_leadsTo_42]
        by_cases hc : nI (xw x pp) = wt
        · have hc' : (nI (xw x pp) = wt) = True := eq_true hc
          rw [decide_eq_true hc] at hq
          simp only [am_lv_of, hc', not_true_eq_false, ↓reduceIte, rX13_leadsTo_45, rX13_leadsTo_46, rX13_leadsTo_50_1]
          exact hq
        · rw [decide_eq_false hc] at hq
          simp only [am_lv_of, hc, not_false_eq_true, ↓reduceIte, rX13_leadsTo_49, rX13_leadsTo_50_0]
          exact hq
    · simp only [am_lv_of, hv, not_false_eq_true, ↓reduceIte, rX13_leadsTo_49, rX13_leadsTo_50_0]
      have : gB kind wt pp (p_P σ) x (vdL σ v0 pl ln x) = false := by
        unfold gB
        rw [if_neg hv, if_neg (by rcases hpk with ⟨z, -⟩ | ⟨z, -⟩ <;> omega)]
      rw [this] at hq
      exact hq
theorem l_fwSkip {ln w0 b kind pp : Nat} {pl v0 p wt : Int32} (hR : am_OR R) (hN : 116 ≤ n) (hn : n ≤ 1000) (ho : ok_S σ) (H : rf_S I σ) (hw : nowR I σ w0 b pl v0) (hln : ln ≤ 5) (hpk : pkR σ kind pp p) : ∀ (m t : Nat) (J : Nat → Nat → Int32), t + m ≤ 7 ^ ln → noG (okL σ b pl v0 w0 ln) (glV σ kind pp wt v0 pl ln) (t + m) → am_ag sc2 I J → (∀ I', am_ag sc2 I I' → am_E X (d + 9) mX13_fewest 10 [some (.ref 69), some (.int p), some (.int wt), some (.int (nI ln)), some (.int (nI (t + m)))] [] (n, I', L, R) Q) → am_E X (d + 9) mX13_fewest 10 [some (.ref 69), some (.int p), some (.int wt), some (.int (nI ln)), some (.int (nI t))] [] (n, J, L, R) Q := by
  have hl := am_lt hN
  have hvw9 := am_lw hN
  intro m
  induction m with
  | zero => intro t J _ _ hJ hQ; exact hQ J hJ
  | succ m ih =>
    intro t J ht hg hJ hQ
    have p7' := pow7 (k := ln) hln
    have h1 : ¬ nI (7 ^ ln) ≤ nI t := nI_ge (by omega) (by omega)
    rw [rX13_fewest_10]
    simp only [am_lv_of, rX13_fewest_12, rX13_fewest_13, rX13_fewest_16, rX13_fewest_19, rX13_fewest_20, rX13_fewest_22, rX13_fewest_23, rX13_fewest_24, rX13_fewest_25, ro_69_1 hR, ro_69_3 hR, ro_69_5 hR, ro_69_6 hR, ro_69_7 hR, ro_69_8 hR, ro_69_9 hR, ro_69_21 hR, ro_69_22 hR, ro_69_23 hR, ro_69_24 hR, ro_69_25 hR, ro_69_26 hR, ro_69_27 hR, ro_69_28 hR, ro_69_29 hR, ro_69_30 hR, ro_69_31 hR, ro_69_32 hR, ro_69_33 hR, ro_69_34 hR, ro_69_35 hR, ro_69_36 hR, ro_69_38 hR, ro_69_39 hR, ro_69_40 hR, ro_69_41 hR, ro_69_42 hR, ro_69_44 hR, ro_69_45 hR, ro_69_46 hR, ro_69_48 hR, ro_69_49 hR, ro_69_51 hR, ro_69_52 hR, ro_69_55 hR, ro_69_56 hR, ro_69_57 hR, ro_69_58 hR, ro_69_59 hR, ro_69_61 hR, ro_69_62 hR, ro_69_63 hR, ro_69_64 hR, ro_69_65 hR, ro_69_66 hR, sh_69, sh_70, sh_71, sh_72, sh_73, sh_74, sh_75, sh_76, sh_77, sh_78, sh_79, sh_80, sh_81, sh_82, sh_83, sh_84, sh_85, sh_86, sh_87, sh_88, sh_89, sh_90, sh_91, sh_92, sh_93, sh_94, sh_95, sh_96, sh_97, sh_98, sh_99, sh_100, sh_101, sh_102, sh_103, sh_104, sh_105, sh_106, sh_107, sh_108, sh_109, sh_110, sh_111, sh_112, sh_113, sh_114, sh_115, hl, hvw9, Nat.reduceLT, Nat.reduceAdd, Nat.reduceMul, ne_eq, Nat.reduceEqDiff, not_false_eq_true, or_true, true_or, or_false, false_or, and_true, true_and, and_self, Nat.reduceLeDiff, am_ci, am_cr, am_cn0, Option.toList_some, Option.toList_none, List.cons_append, List.nil_append, am_s0, am_s1, am_s1r, am_s2, am_s2r, am_s3r, nI_add, am_u_ne, am_u_at, am_u_n1, am_u_n2, am_w_ne, ↓reduceIte, h1, c_sevens (show ln < 2 ^ 30 by omega)]
    refine c_leadsTo (kind := kind) (pp := pp) (w0 := w0) (b := b) (pl := pl) (v0 := v0) hR hN hn ho (H.ag hJ) (hw.ag hJ) hln (p7_le hln (by omega)) hpk (fun J1 g1 => ?_)
    have hf : gA (okL σ b pl v0 w0 ln) (glV σ kind pp wt v0 pl ln) t = false := by
      unfold gA
      cases hok : okL σ b pl v0 w0 ln t with
      | none => rfl
      | some x => exact hg t (by omega) x hok
    simp only [am_lv_of, Option.toList_some, List.cons_append, List.nil_append, rX13_fewest_28, bI_ne, hf, ↓reduceIte, rX13_fewest_33, rX13_fewest_36, ro_69_1 hR, ro_69_3 hR, ro_69_5 hR, ro_69_6 hR, ro_69_7 hR, ro_69_8 hR, ro_69_9 hR, ro_69_21 hR, ro_69_22 hR, ro_69_23 hR, ro_69_24 hR, ro_69_25 hR, ro_69_26 hR, ro_69_27 hR, ro_69_28 hR, ro_69_29 hR, ro_69_30 hR, ro_69_31 hR, ro_69_32 hR, ro_69_33 hR, ro_69_34 hR, ro_69_35 hR, ro_69_36 hR, ro_69_38 hR, ro_69_39 hR, ro_69_40 hR, ro_69_41 hR, ro_69_42 hR, ro_69_44 hR, ro_69_45 hR, ro_69_46 hR, ro_69_48 hR, ro_69_49 hR, ro_69_51 hR, ro_69_52 hR, ro_69_55 hR, ro_69_56 hR, ro_69_57 hR, ro_69_58 hR, ro_69_59 hR, ro_69_61 hR, ro_69_62 hR, ro_69_63 hR, ro_69_64 hR, ro_69_65 hR, ro_69_66 hR, sh_69, sh_70, sh_71, sh_72, sh_73, sh_74, sh_75, sh_76, sh_77, sh_78, sh_79, sh_80, sh_81, sh_82, sh_83, sh_84, sh_85, sh_86, sh_87, sh_88, sh_89, sh_90, sh_91, sh_92, sh_93, sh_94, sh_95, sh_96, sh_97, sh_98, sh_99, sh_100, sh_101, sh_102, sh_103, sh_104, sh_105, sh_106, sh_107, sh_108, sh_109, sh_110, sh_111, sh_112, sh_113, sh_114, sh_115, hl, hvw9, Nat.reduceLT, Nat.reduceAdd, Nat.reduceMul, ne_eq, Nat.reduceEqDiff, not_false_eq_true, or_true, true_or, or_false, false_or, and_true, true_and, and_self, Nat.reduceLeDiff, am_ci, am_cr, am_cn0, Option.toList_some, Option.toList_none, List.cons_append, List.nil_append, am_s0, am_s1, am_s1r, am_s2, am_s2r, am_s3r, nI_add, am_u_ne, am_u_at, am_u_n1, am_u_n2, am_w_ne]
    exact ih (t + 1) J1 (by omega) (by rw [show t + 1 + m = t + (m + 1) by omega]; exact hg) (hJ.trans g1) (by rw [show t + 1 + m = t + (m + 1) by omega]; exact hQ)
theorem l_fwAt {ln w0 b kind pp t : Nat} {pl v0 p wt : Int32} (hR : am_OR R) (hN : 116 ≤ n) (hn : n ≤ 1000) (ho : ok_S σ) (H : rf_S I σ) (hw : nowR I σ w0 b pl v0) (hln : ln ≤ 5) (hpk : pkR σ kind pp p) (ht : t < 7 ^ ln) (hg : gA (okL σ b pl v0 w0 ln) (glV σ kind pp wt v0 pl ln) t = true) (hQ : ∀ I', am_ag sc2 I I' → Q (some (.int (nI ln))) (n, I', L, R)) : am_E X (d + 9) mX13_fewest 10 [some (.ref 69), some (.int p), some (.int wt), some (.int (nI ln)), some (.int (nI t))] [] (n, I, L, R) Q := by
  have hl := am_lt hN
  have hvw9 := am_lw hN
  have p7' := pow7 (k := ln) hln
  have h1 : ¬ nI (7 ^ ln) ≤ nI t := nI_ge (by omega) (by omega)
  simp only [am_lv_of, rX13_fewest_10, rX13_fewest_12, rX13_fewest_13, rX13_fewest_16, rX13_fewest_19, rX13_fewest_20, rX13_fewest_22, rX13_fewest_23, rX13_fewest_24, rX13_fewest_25, ro_69_1 hR, ro_69_3 hR, ro_69_5 hR, ro_69_6 hR, ro_69_7 hR, ro_69_8 hR, ro_69_9 hR, ro_69_21 hR, ro_69_22 hR, ro_69_23 hR, ro_69_24 hR, ro_69_25 hR, ro_69_26 hR, ro_69_27 hR, ro_69_28 hR, ro_69_29 hR, ro_69_30 hR, ro_69_31 hR, ro_69_32 hR, ro_69_33 hR, ro_69_34 hR, ro_69_35 hR, ro_69_36 hR, ro_69_38 hR, ro_69_39 hR, ro_69_40 hR, ro_69_41 hR, ro_69_42 hR, ro_69_44 hR, ro_69_45 hR, ro_69_46 hR, ro_69_48 hR, ro_69_49 hR, ro_69_51 hR, ro_69_52 hR, ro_69_55 hR, ro_69_56 hR, ro_69_57 hR, ro_69_58 hR, ro_69_59 hR, ro_69_61 hR, ro_69_62 hR, ro_69_63 hR, ro_69_64 hR, ro_69_65 hR, ro_69_66 hR, sh_69, sh_70, sh_71, sh_72, sh_73, sh_74, sh_75, sh_76, sh_77, sh_78, sh_79, sh_80, sh_81, sh_82, sh_83, sh_84, sh_85, sh_86, sh_87, sh_88, sh_89, sh_90, sh_91, sh_92, sh_93, sh_94, sh_95, sh_96, sh_97, sh_98, sh_99, sh_100, sh_101, sh_102, sh_103, sh_104, sh_105, sh_106, sh_107, sh_108, sh_109, sh_110, sh_111, sh_112, sh_113, sh_114, sh_115, hl, hvw9, Nat.reduceLT, Nat.reduceAdd, Nat.reduceMul, ne_eq, Nat.reduceEqDiff, not_false_eq_true, or_true, true_or, or_false, false_or, and_true, true_and, and_self, Nat.reduceLeDiff, am_ci, am_cr, am_cn0, Option.toList_some, Option.toList_none, List.cons_append, List.nil_append, am_s0, am_s1, am_s1r, am_s2, am_s2r, am_s3r, nI_add, am_u_ne, am_u_at, am_u_n1, am_u_n2, am_w_ne, ↓reduceIte, h1, c_sevens (show ln < 2 ^ 30 by omega)]
  refine c_leadsTo (kind := kind) (pp := pp) (w0 := w0) (b := b) (pl := pl) (v0 := v0) hR hN hn ho H hw hln (p7_le hln (by omega)) hpk (fun J1 g1 => ?_)
  simp only [am_lv_of, Option.toList_some, List.cons_append, List.nil_append, rX13_fewest_28, bI_ne, hg, Bool.true_eq_false, ↓reduceIte, rX13_fewest_31, rX13_fewest_32, ro_69_1 hR, ro_69_3 hR, ro_69_5 hR, ro_69_6 hR, ro_69_7 hR, ro_69_8 hR, ro_69_9 hR, ro_69_21 hR, ro_69_22 hR, ro_69_23 hR, ro_69_24 hR, ro_69_25 hR, ro_69_26 hR, ro_69_27 hR, ro_69_28 hR, ro_69_29 hR, ro_69_30 hR, ro_69_31 hR, ro_69_32 hR, ro_69_33 hR, ro_69_34 hR, ro_69_35 hR, ro_69_36 hR, ro_69_38 hR, ro_69_39 hR, ro_69_40 hR, ro_69_41 hR, ro_69_42 hR, ro_69_44 hR, ro_69_45 hR, ro_69_46 hR, ro_69_48 hR, ro_69_49 hR, ro_69_51 hR, ro_69_52 hR, ro_69_55 hR, ro_69_56 hR, ro_69_57 hR, ro_69_58 hR, ro_69_59 hR, ro_69_61 hR, ro_69_62 hR, ro_69_63 hR, ro_69_64 hR, ro_69_65 hR, ro_69_66 hR, sh_69, sh_70, sh_71, sh_72, sh_73, sh_74, sh_75, sh_76, sh_77, sh_78, sh_79, sh_80, sh_81, sh_82, sh_83, sh_84, sh_85, sh_86, sh_87, sh_88, sh_89, sh_90, sh_91, sh_92, sh_93, sh_94, sh_95, sh_96, sh_97, sh_98, sh_99, sh_100, sh_101, sh_102, sh_103, sh_104, sh_105, sh_106, sh_107, sh_108, sh_109, sh_110, sh_111, sh_112, sh_113, sh_114, sh_115, hl, hvw9, Nat.reduceLT, Nat.reduceAdd, Nat.reduceMul, ne_eq, Nat.reduceEqDiff, not_false_eq_true, or_true, true_or, or_false, false_or, and_true, true_and, and_self, Nat.reduceLeDiff, am_ci, am_cr, am_cn0, Option.toList_some, Option.toList_none, List.cons_append, List.nil_append, am_s0, am_s1, am_s1r, am_s2, am_s2r, am_s3r, nI_add, am_u_ne, am_u_at, am_u_n1, am_u_n2, am_w_ne]
  exact hQ J1 g1
theorem l_fwR {w0 b kind pp : Nat} {pl v0 p wt res fst : Int32} (hR : am_OR R) (hN : 116 ≤ n) (hn : n ≤ 1000) (ho : ok_S σ) (H : rf_S I σ) (hw : nowR I σ w0 b pl v0) (hpk : pkR σ kind pp p) (hf : (∃ m t x, m < 5 ∧ t < 7 ^ (m + 1) ∧ (∀ m', m' < m → noG (okL σ b pl v0 w0 (m' + 1)) (glV σ kind pp wt v0 pl (m' + 1)) (7 ^ (m' + 1))) ∧ noG (okL σ b pl v0 w0 (m + 1)) (glV σ kind pp wt v0 pl (m + 1)) t ∧ okL σ b pl v0 w0 (m + 1) t = some x ∧ glV σ kind pp wt v0 pl (m + 1) x = true ∧ res = nI (m + 1) ∧ fst = nI (t / 7 ^ m % 7)) ∨ ((∀ m', m' < 5 → noG (okL σ b pl v0 w0 (m' + 1)) (glV σ kind pp wt v0 pl (m' + 1)) (7 ^ (m' + 1))) ∧ res = -2))
    (hQ : ∀ I', am_ag sc2 I I' → Q (some (.int res)) (n, I', L, R)) : ∀ (k ln : Nat) (J : Nat → Nat → Int32) (l4 : Option Value), ln + k = 5 → (∀ m t x, m < 5 → t < 7 ^ (m + 1) → okL σ b pl v0 w0 (m + 1) t = some x → glV σ kind pp wt v0 pl (m + 1) x = true → ln ≤ m) → am_ag sc2 I J → am_nl l4 → am_E X (d + 9) mX13_fewest 2 [some (.ref 69), some (.int p), some (.int wt), some (.int (nI (ln + 1))), l4] [] (n, J, L, R) Q := by
  have hl := am_lt hN
  have hvw9 := am_lw hN
  intro k
  induction k with
  | zero =>
    intro ln J l4 hk hno hJ n4
    have hk : ln = 5 := by omega
    subst hk
    have h1 : nI 5 < nI (5 + 1) := by decide
    have := hQ J hJ
    rcases hf with ⟨m, t, x, m1, m2, m3, m4, m5, m6, -⟩ | ⟨-, rfl⟩
    · have := hno m t x m1 m2 m5 m6
      omega
    · simp only [am_lv_of, rX13_fewest_2, rX13_fewest_3, rX13_fewest_4, rX13_fewest_45, rX13_fewest_47, ro_69_1 hR, ro_69_3 hR, ro_69_5 hR, ro_69_6 hR, ro_69_7 hR, ro_69_8 hR, ro_69_9 hR, ro_69_21 hR, ro_69_22 hR, ro_69_23 hR, ro_69_24 hR, ro_69_25 hR, ro_69_26 hR, ro_69_27 hR, ro_69_28 hR, ro_69_29 hR, ro_69_30 hR, ro_69_31 hR, ro_69_32 hR, ro_69_33 hR, ro_69_34 hR, ro_69_35 hR, ro_69_36 hR, ro_69_38 hR, ro_69_39 hR, ro_69_40 hR, ro_69_41 hR, ro_69_42 hR, ro_69_44 hR, ro_69_45 hR, ro_69_46 hR, ro_69_48 hR, ro_69_49 hR, ro_69_51 hR, ro_69_52 hR, ro_69_55 hR, ro_69_56 hR, ro_69_57 hR, ro_69_58 hR, ro_69_59 hR, ro_69_61 hR, ro_69_62 hR, ro_69_63 hR, ro_69_64 hR, ro_69_65 hR, ro_69_66 hR, sh_69, sh_70, sh_71, sh_72, sh_73, sh_74, sh_75, sh_76, sh_77, sh_78, sh_79, sh_80, sh_81, sh_82, sh_83, sh_84, sh_85, sh_86, sh_87, sh_88, sh_89, sh_90, sh_91, sh_92, sh_93, sh_94, sh_95, sh_96, sh_97, sh_98, sh_99, sh_100, sh_101, sh_102, sh_103, sh_104, sh_105, sh_106, sh_107, sh_108, sh_109, sh_110, sh_111, sh_112, sh_113, sh_114, sh_115, hl, hvw9, Nat.reduceLT, Nat.reduceAdd, Nat.reduceMul, ne_eq, Nat.reduceEqDiff, not_false_eq_true, or_true, true_or, or_false, false_or, and_true, true_and, and_self, Nat.reduceLeDiff, am_ci, am_cr, am_cn0, Option.toList_some, Option.toList_none, List.cons_append, List.nil_append, am_s0, am_s1, am_s1r, am_s2, am_s2r, am_s3r, nI_add, am_u_ne, am_u_at, am_u_n1, am_u_n2, am_w_ne, ↓reduceIte, h1]
      exact this
  | succ k ih =>
    intro ln J l4 hk hno hJ n4
    have h1 : ¬ nI 5 < nI (ln + 1) := fun z => by
      have := (nI_ltI (by omega) (by omega)).mp z
      omega
    have p7' := pow7 (k := ln + 1) (by omega)
    rw [rX13_fewest_2]
    simp only [am_lv_of, rX13_fewest_3, rX13_fewest_4, rX13_fewest_7, rX13_fewest_8, ro_69_1 hR, ro_69_3 hR, ro_69_5 hR, ro_69_6 hR, ro_69_7 hR, ro_69_8 hR, ro_69_9 hR, ro_69_21 hR, ro_69_22 hR, ro_69_23 hR, ro_69_24 hR, ro_69_25 hR, ro_69_26 hR, ro_69_27 hR, ro_69_28 hR, ro_69_29 hR, ro_69_30 hR, ro_69_31 hR, ro_69_32 hR, ro_69_33 hR, ro_69_34 hR, ro_69_35 hR, ro_69_36 hR, ro_69_38 hR, ro_69_39 hR, ro_69_40 hR, ro_69_41 hR, ro_69_42 hR, ro_69_44 hR, ro_69_45 hR, ro_69_46 hR, ro_69_48 hR, ro_69_49 hR, ro_69_51 hR, ro_69_52 hR, ro_69_55 hR, ro_69_56 hR, ro_69_57 hR, ro_69_58 hR, ro_69_59 hR, ro_69_61 hR, ro_69_62 hR, ro_69_63 hR, ro_69_64 hR, ro_69_65 hR, ro_69_66 hR, sh_69, sh_70, sh_71, sh_72, sh_73, sh_74, sh_75, sh_76, sh_77, sh_78, sh_79, sh_80, sh_81, sh_82, sh_83, sh_84, sh_85, sh_86, sh_87, sh_88, sh_89, sh_90, sh_91, sh_92, sh_93, sh_94, sh_95, sh_96, sh_97, sh_98, sh_99, sh_100, sh_101, sh_102, sh_103, sh_104, sh_105, sh_106, sh_107, sh_108, sh_109, sh_110, sh_111, sh_112, sh_113, sh_114, sh_115, hl, hvw9, Nat.reduceLT, Nat.reduceAdd, Nat.reduceMul, ne_eq, Nat.reduceEqDiff, not_false_eq_true, or_true, true_or, or_false, false_or, and_true, true_and, and_self, Nat.reduceLeDiff, am_ci, am_cr, am_cn0, Option.toList_some, Option.toList_none, List.cons_append, List.nil_append, am_s0, am_s1, am_s1r, am_s2, am_s2r, am_s3r, nI_add, am_u_ne, am_u_at, am_u_n1, am_u_n2, am_w_ne, ↓reduceIte, h1, n4]
    by_cases hall : noG (okL σ b pl v0 w0 (ln + 1)) (glV σ kind pp wt v0 pl (ln + 1)) (7 ^ (ln + 1))
    · refine l_fwSkip (w0 := w0) (b := b) (pl := pl) (v0 := v0) (kind := kind) (pp := pp) hR hN hn ho H hw (by omega) hpk (7 ^ (ln + 1)) 0 J (by omega) (by rw [Nat.zero_add]; exact hall) hJ (fun J1 g1 => ?_)
      rw [Nat.zero_add]
      have h2 : nI (7 ^ (ln + 1)) ≤ nI (7 ^ (ln + 1)) := nI_le (Nat.le_refl _) (by omega)
      simp only [am_lv_of, rX13_fewest_10, rX13_fewest_12, rX13_fewest_13, rX13_fewest_16, rX13_fewest_39, rX13_fewest_42, ro_69_1 hR, ro_69_3 hR, ro_69_5 hR, ro_69_6 hR, ro_69_7 hR, ro_69_8 hR, ro_69_9 hR, ro_69_21 hR, ro_69_22 hR, ro_69_23 hR, ro_69_24 hR, ro_69_25 hR, ro_69_26 hR, ro_69_27 hR, ro_69_28 hR, ro_69_29 hR, ro_69_30 hR, ro_69_31 hR, ro_69_32 hR, ro_69_33 hR, ro_69_34 hR, ro_69_35 hR, ro_69_36 hR, ro_69_38 hR, ro_69_39 hR, ro_69_40 hR, ro_69_41 hR, ro_69_42 hR, ro_69_44 hR, ro_69_45 hR, ro_69_46 hR, ro_69_48 hR, ro_69_49 hR, ro_69_51 hR, ro_69_52 hR, ro_69_55 hR, ro_69_56 hR, ro_69_57 hR, ro_69_58 hR, ro_69_59 hR, ro_69_61 hR, ro_69_62 hR, ro_69_63 hR, ro_69_64 hR, ro_69_65 hR, ro_69_66 hR, sh_69, sh_70, sh_71, sh_72, sh_73, sh_74, sh_75, sh_76, sh_77, sh_78, sh_79, sh_80, sh_81, sh_82, sh_83, sh_84, sh_85, sh_86, sh_87, sh_88, sh_89, sh_90, sh_91, sh_92, sh_93, sh_94, sh_95, sh_96, sh_97, sh_98, sh_99, sh_100, sh_101, sh_102, sh_103, sh_104, sh_105, sh_106, sh_107, sh_108, sh_109, sh_110, sh_111, sh_112, sh_113, sh_114, sh_115, hl, hvw9, Nat.reduceLT, Nat.reduceAdd, Nat.reduceMul, ne_eq, Nat.reduceEqDiff, not_false_eq_true, or_true, true_or, or_false, false_or, and_true, true_and, and_self, Nat.reduceLeDiff, am_ci, am_cr, am_cn0, Option.toList_some, Option.toList_none, List.cons_append, List.nil_append, am_s0, am_s1, am_s1r, am_s2, am_s2r, am_s3r, nI_add, am_u_ne, am_u_at, am_u_n1, am_u_n2, am_w_ne, ↓reduceIte, c_sevens (show ln + 1 < 2 ^ 30 by omega), h2]
      refine ih (ln + 1) J1 _ (by omega) (fun m t x m1 m2 m3 m4 => ?_) g1 am_ci
      have h3 := hno m t x m1 m2 m3 m4
      by_cases e : m = ln
      · subst e
        have := hall t m2 x m3
        rw [m4] at this
        cases this
      · omega
    · rcases hf with ⟨m, t, x, m1, m2, m3, m4, m5, m6, e1, e2⟩ | ⟨h, -⟩
      · have hm : m = ln := by
          have := hno m t x m1 m2 m5 m6
          by_cases e : ln < m
          · exact absurd (m3 ln e) hall
          · omega
        subst hm
        refine l_fwSkip (w0 := w0) (b := b) (pl := pl) (v0 := v0) (kind := kind) (pp := pp) hR hN hn ho H hw (by omega) hpk t 0 J (by omega) (by rw [Nat.zero_add]; exact m4) hJ (fun J1 g1 => ?_)
        rw [Nat.zero_add]
        refine l_fwAt (w0 := w0) (b := b) (pl := pl) (v0 := v0) (kind := kind) (pp := pp) hR hN hn ho (H.ag g1) (hw.ag g1) (by omega) hpk m2 (by unfold gA; rw [m5]; exact m6) (fun I' g2 => ?_)
        rw [← e1]
        exact hQ I' (g1.trans g2)
      · exact absurd (h ln (by omega)) hall
theorem c_fewestR {w0 b kind pp : Nat} {pl v0 p wt res fst : Int32} (hR : am_OR R) (hN : 116 ≤ n) (hn : n ≤ 1000) (ho : ok_S σ) (H : rf_S I σ) (hw : nowR I σ w0 b pl v0) (hpk : pkR σ kind pp p) (hf : fnd (okL σ b pl v0 w0) (glV σ kind pp wt v0 pl) (decide (v0 = 0) && gB kind wt pp (p_P σ) w0 (nI 0)) res fst)
    (hQ : ∀ I', am_ag sc2 I I' → Q (some (.int res)) (n, I', L, R)) : am_E X (d + 9) mX13_fewest 0 [some (.ref 69), some (.int p), some (.int wt), none, none] [] (n, I, L, R) Q := by
  have hl := am_lt hN
  have hvw9 := am_lw hN
  have hg : gA (okL σ b pl v0 w0 0) (glV σ kind pp wt v0 pl 0) 0 = (decide (v0 = 0) && gB kind wt pp (p_P σ) w0 (nI 0)) := by
    show gB kind wt pp (p_P σ) w0 v0 = _
    by_cases hv : v0 = 0
    · rw [hv]; rfl
    · have : gB kind wt pp (p_P σ) w0 v0 = false := by
        unfold gB
        rw [if_neg hv, if_neg (by rcases hpk with ⟨z, -⟩ | ⟨z, -⟩ <;> omega)]
      rw [this, decide_eq_false hv, Bool.false_and]
  have h1 : ¬ nI 5 < nI 0 := by decide
  simp only [am_lv_of, rX13_fewest_0, rX13_fewest_1, rX13_fewest_2, rX13_fewest_3, rX13_fewest_4, rX13_fewest_7, rX13_fewest_8, ro_69_1 hR, ro_69_3 hR, ro_69_5 hR, ro_69_6 hR, ro_69_7 hR, ro_69_8 hR, ro_69_9 hR, ro_69_21 hR, ro_69_22 hR, ro_69_23 hR, ro_69_24 hR, ro_69_25 hR, ro_69_26 hR, ro_69_27 hR, ro_69_28 hR, ro_69_29 hR, ro_69_30 hR, ro_69_31 hR, ro_69_32 hR, ro_69_33 hR, ro_69_34 hR, ro_69_35 hR, ro_69_36 hR, ro_69_38 hR, ro_69_39 hR, ro_69_40 hR, ro_69_41 hR, ro_69_42 hR, ro_69_44 hR, ro_69_45 hR, ro_69_46 hR, ro_69_48 hR, ro_69_49 hR, ro_69_51 hR, ro_69_52 hR, ro_69_55 hR, ro_69_56 hR, ro_69_57 hR, ro_69_58 hR, ro_69_59 hR, ro_69_61 hR, ro_69_62 hR, ro_69_63 hR, ro_69_64 hR, ro_69_65 hR, ro_69_66 hR, sh_69, sh_70, sh_71, sh_72, sh_73, sh_74, sh_75, sh_76, sh_77, sh_78, sh_79, sh_80, sh_81, sh_82, sh_83, sh_84, sh_85, sh_86, sh_87, sh_88, sh_89, sh_90, sh_91, sh_92, sh_93, sh_94, sh_95, sh_96, sh_97, sh_98, sh_99, sh_100, sh_101, sh_102, sh_103, sh_104, sh_105, sh_106, sh_107, sh_108, sh_109, sh_110, sh_111, sh_112, sh_113, sh_114, sh_115, hl, hvw9, Nat.reduceLT, Nat.reduceAdd, Nat.reduceMul, ne_eq, Nat.reduceEqDiff, not_false_eq_true, or_true, true_or, or_false, false_or, and_true, true_and, and_self, Nat.reduceLeDiff, am_ci, am_cr, am_cn0, Option.toList_some, Option.toList_none, List.cons_append, List.nil_append, am_s0, am_s1, am_s1r, am_s2, am_s2r, am_s3r, nI_add, am_u_ne, am_u_at, am_u_n1, am_u_n2, am_w_ne, ↓reduceIte, h1]
  rcases hf with ⟨g0, rfl⟩ | hf
  · exact l_fwAt (ln := 0) (t := 0) (w0 := w0) (b := b) (pl := pl) (v0 := v0) (kind := kind) (pp := pp) hR hN hn ho H hw (by omega) hpk (by decide) (by rw [hg]; exact g0) hQ
  · have hf3 := Or.imp (fun z => z.2) (fun z => z.2) hf
    have g0 : (decide (v0 = 0) && gB kind wt pp (p_P σ) w0 (nI 0)) = false := hf.elim (fun z => z.1) (fun z => z.1)
    refine l_fwSkip (ln := 0) (w0 := w0) (b := b) (pl := pl) (v0 := v0) (kind := kind) (pp := pp) hR hN hn ho H hw (by omega) hpk 1 0 I (by decide) (fun y hy x hx => ?_) am_ag.refl (fun J1 g1 => ?_)
    · have hy : y = 0 := by omega
      subst hy
      rw [← hg] at g0
      unfold gA at g0
      rw [hx] at g0
      exact g0
    · have h2 : nI (7 ^ 0) ≤ nI (0 + 1) := by decide
      simp only [am_lv_of, rX13_fewest_10, rX13_fewest_12, rX13_fewest_13, rX13_fewest_16, rX13_fewest_39, rX13_fewest_42, ro_69_1 hR, ro_69_3 hR, ro_69_5 hR, ro_69_6 hR, ro_69_7 hR, ro_69_8 hR, ro_69_9 hR, ro_69_21 hR, ro_69_22 hR, ro_69_23 hR, ro_69_24 hR, ro_69_25 hR, ro_69_26 hR, ro_69_27 hR, ro_69_28 hR, ro_69_29 hR, ro_69_30 hR, ro_69_31 hR, ro_69_32 hR, ro_69_33 hR, ro_69_34 hR, ro_69_35 hR, ro_69_36 hR, ro_69_38 hR, ro_69_39 hR, ro_69_40 hR, ro_69_41 hR, ro_69_42 hR, ro_69_44 hR, ro_69_45 hR, ro_69_46 hR, ro_69_48 hR, ro_69_49 hR, ro_69_51 hR, ro_69_52 hR, ro_69_55 hR, ro_69_56 hR, ro_69_57 hR, ro_69_58 hR, ro_69_59 hR, ro_69_61 hR, ro_69_62 hR, ro_69_63 hR, ro_69_64 hR, ro_69_65 hR, ro_69_66 hR, sh_69, sh_70, sh_71, sh_72, sh_73, sh_74, sh_75, sh_76, sh_77, sh_78, sh_79, sh_80, sh_81, sh_82, sh_83, sh_84, sh_85, sh_86, sh_87, sh_88, sh_89, sh_90, sh_91, sh_92, sh_93, sh_94, sh_95, sh_96, sh_97, sh_98, sh_99, sh_100, sh_101, sh_102, sh_103, sh_104, sh_105, sh_106, sh_107, sh_108, sh_109, sh_110, sh_111, sh_112, sh_113, sh_114, sh_115, hl, hvw9, Nat.reduceLT, Nat.reduceAdd, Nat.reduceMul, ne_eq, Nat.reduceEqDiff, not_false_eq_true, or_true, true_or, or_false, false_or, and_true, true_and, and_self, Nat.reduceLeDiff, am_ci, am_cr, am_cn0, Option.toList_some, Option.toList_none, List.cons_append, List.nil_append, am_s0, am_s1, am_s1r, am_s2, am_s2r, am_s3r, nI_add, am_u_ne, am_u_at, am_u_n1, am_u_n2, am_w_ne, ↓reduceIte, c_sevens (show 0 < 2 ^ 30 by omega), h2]
      have l1 : nI 1 = nI (0 + 1) := rfl
      rw [l1]
      exact l_fwR (w0 := w0) (b := b) (pl := pl) (v0 := v0) (kind := kind) (pp := pp) (res := res) (fst := fst) hR hN hn ho H hw hpk hf3 hQ 5 0 J1 _ (by omega) (fun m t x _ _ _ _ => Nat.zero_le _) g1 am_ci
theorem side_b {x : Int32} (cs : x = nI 0 ∨ x = nI 1) : ∃ b, b < 2 ∧ x = nI b := by
  rcases cs with z | z
  · exact ⟨0, by omega, z⟩
  · exact ⟨1, by omega, z⟩
theorem s_straight (H : REL (n, I, L, R)) : sim X (d + 30) mX12_straight mX13_straight [some (.ref 0)] [some (.ref 69)] (n, I, L, R) := by
  obtain ⟨σ, H⟩ := H
  have hR := H.1.1
  have hN := H.1.N
  have hn := H.1.n
  have hl := am_lt hN
  have hvw9 := am_lw hN
  obtain ⟨S1, S2, S3, S4, S5, S6, S7, ws, S8, S9⟩ := id (show relS I σ from H.2.2.1)
  obtain ⟨o1, o2, o3, o4⟩ := id S3
  obtain ⟨b1, b2, b3, b4, bz, b5, b6, b7⟩ := id S2
  obtain ⟨f1, f2, f3, f4, f5, f6, f7, f8, f9, f10⟩ := id S1
  obtain ⟨w, K, cw, cp, c16, c15, c17, c18, c19, c20, c28, c29, cK, c30, cK12, cpl, cpr, cs, cv⟩ := id (show crs I 34 (p_P σ) (p_S σ) (I 103) from H.2.2.2.2.1)
  unfold sim
  obtain ⟨b, hb2, hb15⟩ := side_b cs
  have ga : am_ag (fun k j => k = 42 ∧ 8 ≤ j) I (am_u (am_u (am_u I 42 8 (nI 1)) 42 9 (nI 0)) 42 10 (-1)) := ((am_ag.refl.u ⟨rfl, by omega⟩).u ⟨rfl, by omega⟩).u ⟨rfl, by omega⟩
  have gas : am_ag scrP I (am_u (am_u (am_u I 42 8 (nI 1)) 42 9 (nI 0)) 42 10 (-1)) := ga.mono (fun k j z => by unfold scrP; omega)
  have n34 : ∀ j, (am_u (am_u (am_u I 42 8 (nI 1)) 42 9 (nI 0)) 42 10 (-1)) 34 j = I 34 j := fun j => ga 34 j (by omega)
  simp only [am_lv_of, rX12_straight_0, rX12_straight_1, rX12_straight_4, rX12_straight_5, rX12_straight_6, rX12_straight_7, rX12_straight_10, rX12_straight_11, rX12_straight_14, rX12_straight_15, rX12_straight_18, rX7_aimAt_0, rX7_aimAt_1, rX7_aimAt_2, rX7_aimAt_5, rX7_aimAt_6, rX7_aimAt_7, rX7_aimAt_10, rX7_aimAt_11, rX7_aimAt_12, rX7_aimAt_15, ro_0_0 hR, ro_0_3 hR, ro_0_4 hR, ro_0_5 hR, ro_0_6 hR, ro_0_7 hR, ro_0_8 hR, ro_0_9 hR, ro_0_10 hR, ro_0_11 hR, ro_2_6 hR, ro_2_7 hR, ro_2_8 hR, ro_2_9 hR, ro_2_10 hR, ro_2_11 hR, ro_2_12 hR, ro_2_13 hR, ro_9_0 hR, ro_9_1 hR, ro_9_2 hR, ro_14_0 hR, ro_14_1 hR, ro_14_2 hR, ro_14_7 hR, ro_15_0 hR, ro_15_1 hR, ro_15_2 hR, ro_15_3 hR, ro_20_6 hR, ro_20_7 hR, ro_20_8 hR, ro_20_9 hR, ro_20_10 hR, ro_20_11 hR, ro_20_12 hR, ro_20_13 hR, ro_27_0 hR, ro_27_1 hR, ro_27_2 hR, ro_32_0 hR, ro_32_1 hR, ro_34_10 hR, ro_34_11 hR, ro_34_12 hR, ro_34_13 hR, ro_39_0 hR, ro_39_1 hR, ro_42_0 hR, ro_42_1 hR, ro_47_0 hR, ro_47_1 hR, ro_47_2 hR, ro_47_3 hR, ro_55_0 hR, ro_55_1 hR, ro_55_2 hR, ro_57_0 hR, ro_57_1 hR, ro_57_2 hR, ro_57_3 hR, ro_57_4 hR, ro_57_5 hR, ro_57_8 hR, sh_0, sh_1, sh_2, sh_3, sh_4, sh_5, sh_6, sh_7, sh_8, sh_9, sh_10, sh_11, sh_12, sh_13, sh_14, sh_15, sh_16, sh_17, sh_18, sh_19, sh_20, sh_21, sh_22, sh_23, sh_24, sh_25, sh_26, sh_27, sh_28, sh_29, sh_30, sh_31, sh_32, sh_33, sh_34, sh_35, sh_36, sh_37, sh_38, sh_39, sh_40, sh_41, sh_42, sh_43, sh_44, sh_45, sh_46, sh_47, sh_48, sh_49, sh_50, sh_51, sh_52, sh_53, sh_54, sh_55, sh_56, sh_57, sh_58, sh_59, sh_60, sh_61, sh_62, sh_63, sh_64, sh_65, sh_66, sh_67, sh_68, hl, hvw9, Nat.reduceLT, Nat.reduceAdd, Nat.reduceMul, ne_eq, Nat.reduceEqDiff, not_false_eq_true, or_true, true_or, or_false, false_or, and_true, true_and, and_self, Nat.reduceLeDiff, am_ci, am_cr, am_cn0, Option.toList_some, Option.toList_none, List.cons_append, List.nil_append, am_s0, am_s1, am_s1r, am_s2, am_s2r, am_s3r, nI_add, am_u_ne, am_u_at, am_u_n1, am_u_n2, am_w_ne, ↓reduceIte, hn, Option.toList_none]
  refine c_fewestC (σ := σ) (w0 := w) (b := b) (kind := 1) (pp := 0) (pl := I 103 16) (v0 := I 103 17) (wt := nI 0) hN hn S3 (H.scr gas).cl cp.ok hR H.1.2.2.2.2.2.2.2.2 (by rw [n34]; exact cw) (by rw [n34]; exact c16) (by rw [n34, c15]; exact hb15) (by rw [n34]; exact c17) hb2 ?_ (by omega) ?_ (fun z => absurd z (by omega)) (fun res fst I1 R1 k1 k2 k3 k4 k5 => ?_)
  · rw [am_u_n2 (by omega), am_u_n2 (by omega), am_u_at]
  · rw [am_u_n2 (by omega), am_u_at]
  · have H1 := H.pl (gas.trans (pls_scr k1)) k2 k3
    have e103 : I1 103 = I 103 := funext fun j => by rw [k1 103 j (by unfold plS skc; omega), ga 103 j (by omega)]
    have hnow : nowR I1 σ w b (I 103 16) (I 103 17) := by
      unfold nowR
      rw [e103]
      exact ⟨cp, hb15, hb2, rfl, rfl⟩
    have hR1 := k2.OR hR
    simp only [am_lv_of, Option.toList_some, List.cons_append, List.nil_append, rX12_straight_21]
    simp only [am_lv_of, rX13_straight_0, rX13_straight_1, rX13_straight_2, rX13_straight_3, hl, hvw9, Nat.reduceLT, Nat.reduceAdd, Nat.reduceMul, ne_eq, Nat.reduceEqDiff, not_false_eq_true, or_true, true_or, or_false, false_or, and_true, true_and, and_self, Nat.reduceLeDiff, am_ci, am_cr, am_cn0, Option.toList_some, Option.toList_none, List.cons_append, List.nil_append, am_s0, am_s1, am_s1r, am_s2, am_s2r, am_s3r, nI_add, am_u_ne, am_u_at, am_u_n1, am_u_n2, am_w_ne, sh_69]
    refine c_fewestR (kind := 1) (pp := 0) (res := res) (fst := fst) hR1 hN hn S3 H1.rf hnow (Or.inl ⟨rfl, rfl⟩) k5 (fun I2 g2 => ?_)
    simp only [am_lv_of, Option.toList_some, List.cons_append, List.nil_append, rX13_straight_6]
    exact ⟨trivial, σ, H1.scr (sc2_scr g2)⟩
theorem s_reach {a c : Int32} (H : REL (n, I, L, R)) : sim X (d + 30) mX12_reach mX13_reach [some (.ref 0), some (.int a), some (.int c)] [some (.ref 69), some (.int a), some (.int c)] (n, I, L, R) := by
  obtain ⟨σ, H⟩ := H
  have hR := H.1.1
  have hN := H.1.N
  have hn := H.1.n
  have hl := am_lt hN
  have hvw9 := am_lw hN
  obtain ⟨S1, S2, S3, S4, S5, S6, S7, ws, S8, S9⟩ := id (show relS I σ from H.2.2.1)
  obtain ⟨o1, o2, o3, o4⟩ := id S3
  obtain ⟨b1, b2, b3, b4, bz, b5, b6, b7⟩ := id S2
  obtain ⟨f1, f2, f3, f4, f5, f6, f7, f8, f9, f10⟩ := id S1
  obtain ⟨w, K, cw, cp, c16, c15, c17, c18, c19, c20, c28, c29, cK, c30, cK12, cpl, cpr, cs, cv⟩ := id (show crs I 34 (p_P σ) (p_S σ) (I 103) from H.2.2.2.2.1)
  unfold sim
  by_cases hp : isN (p_P σ) a = true
  · obtain ⟨pp, hpp, rfl⟩ := (isN_iff (by omega)).mp hp
    by_cases hi : (decide (nI 0 ≤ c) && decide (c ≤ nI 9)) = true
    · obtain ⟨g1, g2⟩ := (in0_iff (by omega)).mp hi
      obtain ⟨b, hb2, hb15⟩ := side_b cs
      have ga : am_ag (fun k j => k = 42 ∧ 8 ≤ j) I (am_u (am_u (am_u I 42 8 (nI 2)) 42 9 c) 42 10 (nI pp)) := ((am_ag.refl.u ⟨rfl, by omega⟩).u ⟨rfl, by omega⟩).u ⟨rfl, by omega⟩
      have gas : am_ag scrP I (am_u (am_u (am_u I 42 8 (nI 2)) 42 9 c) 42 10 (nI pp)) := ga.mono (fun k j z => by unfold scrP; omega)
      have n34 : ∀ j, (am_u (am_u (am_u I 42 8 (nI 2)) 42 9 c) 42 10 (nI pp)) 34 j = I 34 j := fun j => ga 34 j (by omega)
      simp only [am_lv_of, rX12_reach_0, rX12_reach_1, rX12_reach_4, rX12_reach_5, rX12_reach_8, rX12_reach_11, rX12_reach_12, rX12_reach_15, rX12_reach_16, rX12_reach_18, rX12_reach_21, rX12_reach_22, rX12_reach_23, rX12_reach_24, rX12_reach_27, rX12_reach_28, rX12_reach_29, rX12_reach_30, rX12_reach_33, rX12_reach_34, rX12_reach_37, rX12_reach_38, rX12_reach_41, rX7_aimAt_0, rX7_aimAt_1, rX7_aimAt_2, rX7_aimAt_5, rX7_aimAt_6, rX7_aimAt_7, rX7_aimAt_10, rX7_aimAt_11, rX7_aimAt_12, rX7_aimAt_15, ro_0_0 hR, ro_0_3 hR, ro_0_4 hR, ro_0_5 hR, ro_0_6 hR, ro_0_7 hR, ro_0_8 hR, ro_0_9 hR, ro_0_10 hR, ro_0_11 hR, ro_2_6 hR, ro_2_7 hR, ro_2_8 hR, ro_2_9 hR, ro_2_10 hR, ro_2_11 hR, ro_2_12 hR, ro_2_13 hR, ro_9_0 hR, ro_9_1 hR, ro_9_2 hR, ro_14_0 hR, ro_14_1 hR, ro_14_2 hR, ro_14_7 hR, ro_15_0 hR, ro_15_1 hR, ro_15_2 hR, ro_15_3 hR, ro_20_6 hR, ro_20_7 hR, ro_20_8 hR, ro_20_9 hR, ro_20_10 hR, ro_20_11 hR, ro_20_12 hR, ro_20_13 hR, ro_27_0 hR, ro_27_1 hR, ro_27_2 hR, ro_32_0 hR, ro_32_1 hR, ro_34_10 hR, ro_34_11 hR, ro_34_12 hR, ro_34_13 hR, ro_39_0 hR, ro_39_1 hR, ro_42_0 hR, ro_42_1 hR, ro_47_0 hR, ro_47_1 hR, ro_47_2 hR, ro_47_3 hR, ro_55_0 hR, ro_55_1 hR, ro_55_2 hR, ro_57_0 hR, ro_57_1 hR, ro_57_2 hR, ro_57_3 hR, ro_57_4 hR, ro_57_5 hR, ro_57_8 hR, sh_0, sh_1, sh_2, sh_3, sh_4, sh_5, sh_6, sh_7, sh_8, sh_9, sh_10, sh_11, sh_12, sh_13, sh_14, sh_15, sh_16, sh_17, sh_18, sh_19, sh_20, sh_21, sh_22, sh_23, sh_24, sh_25, sh_26, sh_27, sh_28, sh_29, sh_30, sh_31, sh_32, sh_33, sh_34, sh_35, sh_36, sh_37, sh_38, sh_39, sh_40, sh_41, sh_42, sh_43, sh_44, sh_45, sh_46, sh_47, sh_48, sh_49, sh_50, sh_51, sh_52, sh_53, sh_54, sh_55, sh_56, sh_57, sh_58, sh_59, sh_60, sh_61, sh_62, sh_63, sh_64, sh_65, sh_66, sh_67, sh_68, hl, hvw9, Nat.reduceLT, Nat.reduceAdd, Nat.reduceMul, ne_eq, Nat.reduceEqDiff, not_false_eq_true, or_true, true_or, or_false, false_or, and_true, true_and, and_self, Nat.reduceLeDiff, am_ci, am_cr, am_cn0, Option.toList_some, Option.toList_none, List.cons_append, List.nil_append, am_s0, am_s1, am_s1r, am_s2, am_s2r, am_s3r, nI_add, am_u_ne, am_u_at, am_u_n1, am_u_n2, am_w_ne, ↓reduceIte, hn, c_hasPuppet hN b1 o1, hp, b_t, g1, g2, Option.toList_none]
      refine c_fewestC (σ := σ) (w0 := w) (b := b) (kind := 2) (pp := pp) (pl := I 103 16) (v0 := I 103 17) (wt := c) hN hn S3 (H.scr gas).cl cp.ok hR H.1.2.2.2.2.2.2.2.2 (by rw [n34]; exact cw) (by rw [n34]; exact c16) (by rw [n34, c15]; exact hb15) (by rw [n34]; exact c17) hb2 ?_ (by omega) ?_ (fun _ => ⟨am_u_at, by omega⟩) (fun res fst I1 R1 k1 k2 k3 k4 k5 => ?_)
      · rw [am_u_n2 (by omega), am_u_n2 (by omega), am_u_at]
      · rw [am_u_n2 (by omega), am_u_at]
      · have H1 := H.pl (gas.trans (pls_scr k1)) k2 k3
        have e103 : I1 103 = I 103 := funext fun j => by rw [k1 103 j (by unfold plS skc; omega), ga 103 j (by omega)]
        have hnow : nowR I1 σ w b (I 103 16) (I 103 17) := by
          unfold nowR
          rw [e103]
          exact ⟨cp, hb15, hb2, rfl, rfl⟩
        have hR1 := k2.OR hR
        simp only [am_lv_of, Option.toList_some, List.cons_append, List.nil_append, rX12_reach_44]
        simp only [am_lv_of, rX13_reach_0, rX13_reach_1, rX13_reach_2, rX13_reach_5, rX13_reach_8, rX13_reach_9, rX13_reach_10, rX13_reach_12, rX13_reach_15, rX13_reach_18, rX13_reach_19, rX13_reach_20, rX13_reach_21, hl, hvw9, Nat.reduceLT, Nat.reduceAdd, Nat.reduceMul, ne_eq, Nat.reduceEqDiff, not_false_eq_true, or_true, true_or, or_false, false_or, and_true, true_and, and_self, Nat.reduceLeDiff, am_ci, am_cr, am_cn0, Option.toList_some, Option.toList_none, List.cons_append, List.nil_append, am_s0, am_s1, am_s1r, am_s2, am_s2r, am_s3r, nI_add, am_u_ne, am_u_at, am_u_n1, am_u_n2, am_w_ne, ↓reduceIte, sh_69, c_isPuppet hR1 hN H1.rf, hp, b_t, c_in, hi]
        refine c_fewestR (kind := 2) (pp := pp) (res := res) (fst := fst) hR1 hN hn S3 H1.rf hnow (Or.inr ⟨rfl, rfl, hpp⟩) k5 (fun I2 g2 => ?_)
        simp only [am_lv_of, Option.toList_some, List.cons_append, List.nil_append, rX13_reach_24, rX13_reach_28]
        exact ⟨trivial, σ, H1.scr (sc2_scr g2)⟩
    · have hi : (decide (nI 0 ≤ c) && decide (c ≤ nI 9)) = false := by simpa using hi
      have ref : am_E X (d + 30) mX13_reach 0 [some (.ref 69), some (.int (nI pp)), some (.int c)] [] (n, I, L, R) (fun v' M2 => some (.int (-1)) = v' ∧ REL M2) := by
        simp only [am_lv_of, rX13_reach_0, rX13_reach_1, rX13_reach_2, rX13_reach_5, rX13_reach_8, rX13_reach_9, rX13_reach_10, rX13_reach_12, rX13_reach_15, rX13_reach_27, rX13_reach_28, hl, hvw9, Nat.reduceLT, Nat.reduceAdd, Nat.reduceMul, ne_eq, Nat.reduceEqDiff, not_false_eq_true, or_true, true_or, or_false, false_or, and_true, true_and, and_self, Nat.reduceLeDiff, am_ci, am_cr, am_cn0, Option.toList_some, Option.toList_none, List.cons_append, List.nil_append, am_s0, am_s1, am_s1r, am_s2, am_s2r, am_s3r, nI_add, am_u_ne, am_u_at, am_u_n1, am_u_n2, am_w_ne, ↓reduceIte, sh_69, c_isPuppet hR hN H.rf, hp, b_t, c_in, hi, b_f]
        exact ⟨σ, H⟩
      by_cases g1 : c < 0
      · simp only [am_lv_of, rX12_reach_0, rX12_reach_1, rX12_reach_4, rX12_reach_5, rX12_reach_8, rX12_reach_11, rX12_reach_12, rX12_reach_21, rX12_reach_22, ro_0_0 hR, ro_0_3 hR, ro_0_4 hR, ro_0_5 hR, ro_0_6 hR, ro_0_7 hR, ro_0_8 hR, ro_0_9 hR, ro_0_10 hR, ro_0_11 hR, ro_2_6 hR, ro_2_7 hR, ro_2_8 hR, ro_2_9 hR, ro_2_10 hR, ro_2_11 hR, ro_2_12 hR, ro_2_13 hR, ro_9_0 hR, ro_9_1 hR, ro_9_2 hR, ro_14_0 hR, ro_14_1 hR, ro_14_2 hR, ro_14_7 hR, ro_15_0 hR, ro_15_1 hR, ro_15_2 hR, ro_15_3 hR, ro_20_6 hR, ro_20_7 hR, ro_20_8 hR, ro_20_9 hR, ro_20_10 hR, ro_20_11 hR, ro_20_12 hR, ro_20_13 hR, ro_27_0 hR, ro_27_1 hR, ro_27_2 hR, ro_32_0 hR, ro_32_1 hR, ro_34_10 hR, ro_34_11 hR, ro_34_12 hR, ro_34_13 hR, ro_39_0 hR, ro_39_1 hR, ro_42_0 hR, ro_42_1 hR, ro_47_0 hR, ro_47_1 hR, ro_47_2 hR, ro_47_3 hR, ro_55_0 hR, ro_55_1 hR, ro_55_2 hR, ro_57_0 hR, ro_57_1 hR, ro_57_2 hR, ro_57_3 hR, ro_57_4 hR, ro_57_5 hR, ro_57_8 hR, sh_0, sh_1, sh_2, sh_3, sh_4, sh_5, sh_6, sh_7, sh_8, sh_9, sh_10, sh_11, sh_12, sh_13, sh_14, sh_15, sh_16, sh_17, sh_18, sh_19, sh_20, sh_21, sh_22, sh_23, sh_24, sh_25, sh_26, sh_27, sh_28, sh_29, sh_30, sh_31, sh_32, sh_33, sh_34, sh_35, sh_36, sh_37, sh_38, sh_39, sh_40, sh_41, sh_42, sh_43, sh_44, sh_45, sh_46, sh_47, sh_48, sh_49, sh_50, sh_51, sh_52, sh_53, sh_54, sh_55, sh_56, sh_57, sh_58, sh_59, sh_60, sh_61, sh_62, sh_63, sh_64, sh_65, sh_66, sh_67, sh_68, hl, hvw9, Nat.reduceLT, Nat.reduceAdd, Nat.reduceMul, ne_eq, Nat.reduceEqDiff, not_false_eq_true, or_true, true_or, or_false, false_or, and_true, true_and, and_self, Nat.reduceLeDiff, am_ci, am_cr, am_cn0, Option.toList_some, Option.toList_none, List.cons_append, List.nil_append, am_s0, am_s1, am_s1r, am_s2, am_s2r, am_s3r, nI_add, am_u_ne, am_u_at, am_u_n1, am_u_n2, am_w_ne, ↓reduceIte, c_hasPuppet hN b1 o1, hp, b_t, g1]
        exact ref
      · have g2 : ¬ c ≤ nI 9 := fun z => by
          have := (in0_iff (x := c) (b := 9) (by omega)).mpr ⟨g1, z⟩
          rw [hi] at this
          cases this
        simp only [am_lv_of, rX12_reach_0, rX12_reach_1, rX12_reach_4, rX12_reach_5, rX12_reach_8, rX12_reach_11, rX12_reach_12, rX12_reach_15, rX12_reach_16, rX12_reach_18, rX12_reach_21, rX12_reach_22, ro_0_0 hR, ro_0_3 hR, ro_0_4 hR, ro_0_5 hR, ro_0_6 hR, ro_0_7 hR, ro_0_8 hR, ro_0_9 hR, ro_0_10 hR, ro_0_11 hR, ro_2_6 hR, ro_2_7 hR, ro_2_8 hR, ro_2_9 hR, ro_2_10 hR, ro_2_11 hR, ro_2_12 hR, ro_2_13 hR, ro_9_0 hR, ro_9_1 hR, ro_9_2 hR, ro_14_0 hR, ro_14_1 hR, ro_14_2 hR, ro_14_7 hR, ro_15_0 hR, ro_15_1 hR, ro_15_2 hR, ro_15_3 hR, ro_20_6 hR, ro_20_7 hR, ro_20_8 hR, ro_20_9 hR, ro_20_10 hR, ro_20_11 hR, ro_20_12 hR, ro_20_13 hR, ro_27_0 hR, ro_27_1 hR, ro_27_2 hR, ro_32_0 hR, ro_32_1 hR, ro_34_10 hR, ro_34_11 hR, ro_34_12 hR, ro_34_13 hR, ro_39_0 hR, ro_39_1 hR, ro_42_0 hR, ro_42_1 hR, ro_47_0 hR, ro_47_1 hR, ro_47_2 hR, ro_47_3 hR, ro_55_0 hR, ro_55_1 hR, ro_55_2 hR, ro_57_0 hR, ro_57_1 hR, ro_57_2 hR, ro_57_3 hR, ro_57_4 hR, ro_57_5 hR, ro_57_8 hR, sh_0, sh_1, sh_2, sh_3, sh_4, sh_5, sh_6, sh_7, sh_8, sh_9, sh_10, sh_11, sh_12, sh_13, sh_14, sh_15, sh_16, sh_17, sh_18, sh_19, sh_20, sh_21, sh_22, sh_23, sh_24, sh_25, sh_26, sh_27, sh_28, sh_29, sh_30, sh_31, sh_32, sh_33, sh_34, sh_35, sh_36, sh_37, sh_38, sh_39, sh_40, sh_41, sh_42, sh_43, sh_44, sh_45, sh_46, sh_47, sh_48, sh_49, sh_50, sh_51, sh_52, sh_53, sh_54, sh_55, sh_56, sh_57, sh_58, sh_59, sh_60, sh_61, sh_62, sh_63, sh_64, sh_65, sh_66, sh_67, sh_68, hl, hvw9, Nat.reduceLT, Nat.reduceAdd, Nat.reduceMul, ne_eq, Nat.reduceEqDiff, not_false_eq_true, or_true, true_or, or_false, false_or, and_true, true_and, and_self, Nat.reduceLeDiff, am_ci, am_cr, am_cn0, Option.toList_some, Option.toList_none, List.cons_append, List.nil_append, am_s0, am_s1, am_s1r, am_s2, am_s2r, am_s3r, nI_add, am_u_ne, am_u_at, am_u_n1, am_u_n2, am_w_ne, ↓reduceIte, c_hasPuppet hN b1 o1, hp, b_t, g1, g2]
        exact ref
  · have hp : isN (p_P σ) a = false := by simpa using hp
    simp only [am_lv_of, rX12_reach_0, rX12_reach_1, rX12_reach_4, rX12_reach_5, rX12_reach_8, rX12_reach_21, rX12_reach_22, ro_0_0 hR, ro_0_3 hR, ro_0_4 hR, ro_0_5 hR, ro_0_6 hR, ro_0_7 hR, ro_0_8 hR, ro_0_9 hR, ro_0_10 hR, ro_0_11 hR, ro_2_6 hR, ro_2_7 hR, ro_2_8 hR, ro_2_9 hR, ro_2_10 hR, ro_2_11 hR, ro_2_12 hR, ro_2_13 hR, ro_9_0 hR, ro_9_1 hR, ro_9_2 hR, ro_14_0 hR, ro_14_1 hR, ro_14_2 hR, ro_14_7 hR, ro_15_0 hR, ro_15_1 hR, ro_15_2 hR, ro_15_3 hR, ro_20_6 hR, ro_20_7 hR, ro_20_8 hR, ro_20_9 hR, ro_20_10 hR, ro_20_11 hR, ro_20_12 hR, ro_20_13 hR, ro_27_0 hR, ro_27_1 hR, ro_27_2 hR, ro_32_0 hR, ro_32_1 hR, ro_34_10 hR, ro_34_11 hR, ro_34_12 hR, ro_34_13 hR, ro_39_0 hR, ro_39_1 hR, ro_42_0 hR, ro_42_1 hR, ro_47_0 hR, ro_47_1 hR, ro_47_2 hR, ro_47_3 hR, ro_55_0 hR, ro_55_1 hR, ro_55_2 hR, ro_57_0 hR, ro_57_1 hR, ro_57_2 hR, ro_57_3 hR, ro_57_4 hR, ro_57_5 hR, ro_57_8 hR, sh_0, sh_1, sh_2, sh_3, sh_4, sh_5, sh_6, sh_7, sh_8, sh_9, sh_10, sh_11, sh_12, sh_13, sh_14, sh_15, sh_16, sh_17, sh_18, sh_19, sh_20, sh_21, sh_22, sh_23, sh_24, sh_25, sh_26, sh_27, sh_28, sh_29, sh_30, sh_31, sh_32, sh_33, sh_34, sh_35, sh_36, sh_37, sh_38, sh_39, sh_40, sh_41, sh_42, sh_43, sh_44, sh_45, sh_46, sh_47, sh_48, sh_49, sh_50, sh_51, sh_52, sh_53, sh_54, sh_55, sh_56, sh_57, sh_58, sh_59, sh_60, sh_61, sh_62, sh_63, sh_64, sh_65, sh_66, sh_67, sh_68, hl, hvw9, Nat.reduceLT, Nat.reduceAdd, Nat.reduceMul, ne_eq, Nat.reduceEqDiff, not_false_eq_true, or_true, true_or, or_false, false_or, and_true, true_and, and_self, Nat.reduceLeDiff, am_ci, am_cr, am_cn0, Option.toList_some, Option.toList_none, List.cons_append, List.nil_append, am_s0, am_s1, am_s1r, am_s2, am_s2r, am_s3r, nI_add, am_u_ne, am_u_at, am_u_n1, am_u_n2, am_w_ne, ↓reduceIte, c_hasPuppet hN b1 o1, hp, b_f]
    simp only [am_lv_of, rX13_reach_0, rX13_reach_1, rX13_reach_2, rX13_reach_5, rX13_reach_27, rX13_reach_28, hl, hvw9, Nat.reduceLT, Nat.reduceAdd, Nat.reduceMul, ne_eq, Nat.reduceEqDiff, not_false_eq_true, or_true, true_or, or_false, false_or, and_true, true_and, and_self, Nat.reduceLeDiff, am_ci, am_cr, am_cn0, Option.toList_some, Option.toList_none, List.cons_append, List.nil_append, am_s0, am_s1, am_s1r, am_s2, am_s2r, am_s3r, nI_add, am_u_ne, am_u_at, am_u_n1, am_u_n2, am_w_ne, ↓reduceIte, sh_69, c_isPuppet hR hN H.rf, hp, b_f]
    exact ⟨σ, H⟩
end PF
