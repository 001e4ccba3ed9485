--! 98
/-! THE CONSTRUCTORS: Tokens, Reader -/
def chI (i : Nat) : Int32 := (am_byt.getD 0 []).getD i 0
def chN (i : Nat) : Nat := (chI i).toNatClampNeg
/-- the words told so far, and the code of the one under way -/
def wst : Nat → List Nat × Nat
  | 0 => ([], 0)
  | i + 1 => if chI i = nI 32 then ((wst i).1 ++ [(wst i).2], 0) else ((wst i).1, 32 * (wst i).2 + (chN i - 96))
theorem wst_ok : ∀ i, i < 113 → (wst i).1.length < 20 ∧ (chI i = nI 32 ∨ (97 ≤ chN i ∧ chN i ≤ 122 ∧ chI i = nI (chN i))) := by decide +kernel
theorem wst_end : (wst 113).1 = wds.map (cdW 32) := by decide +kernel
def ag16 (L K : Nat → Nat → Int64) : Prop := ∀ k j, k ≠ 16 → ¬ (k = 15 ∧ j = 10) → K k j = L k j
section WD
variable {X : am_X} {d n : Nat} {I : Nat → Nat → Int32} {L : Nat → Nat → Int64} {R : Nat → Nat → Option Nat} {Q : Option Value → am_M → Prop}
theorem l_tok (h0 : va_rf (R 15 0) = .ref 16) (hQ : ∀ L', ag16 L L' → relW L' → Q none (18, I, L', R)) : ∀ (m i : Nat) (K : Nat → Nat → Int64) (l5 : Option Value), i + m = 113 → ag16 L K → (∀ j, j < (wst i).1.length → K 16 j = lN ((wst i).1.getD j 0)) → am_E X (d + 4) mX11_init 84 [some (.ref 15), some (.int (nI (wst i).1.length)), some (.long (lN (wst i).2)), none, some (.int (nI i)), l5] [] (18, I, K, R) Q := by
  have hlen : am_len.getD 0 0 = 113 := rfl
  intro m
  induction m with
  | zero =>
    intro i K l5 hi hK hw
    have hi : i = 113 := by omega
    subst hi
    have c1 : nI 113 ≤ nI 113 := by decide
    simp only [am_lv_of, rX11_init_84, rX11_init_86, rX11_init_88, c_strlen (i := 0) (k := 1000000) (by omega) rfl, hlen, rX11_init_91, rX11_init_148, c1, ↓reduceIte, Nat.reduceLT, Nat.reduceAdd, Nat.reduceMul, ne_eq, Nat.reduceEqDiff, not_false_eq_true, or_true, true_or, or_false, false_or, and_true, true_and, and_self, Nat.reduceLeDiff, am_ci, am_cr, am_cn0, Option.toList_some, Option.toList_none, List.cons_append, List.nil_append, am_s0, am_s1, am_s1r, am_s2, am_s2r, am_s3r, am_sRR, nI_add, am_u_ne, am_u_at, am_u_n1, am_u_n2, am_w_ne]
    refine hQ K hK (fun k hk => ?_)
    have e := hw k (by rw [wst_end]; exact hk)
    rw [wst_end] at e
    rw [e]
    exact (by decide +kernel : ∀ k, k < 20 → lN ((wds.map (cdW 32)).getD k 0) = lN (cdW 32 (wds.getD k []))) k hk
  | succ m ih =>
    intro i K l5 hi hK hw
    obtain ⟨w20, hch⟩ := wst_ok i (by omega)
    have c1 : ¬ nI 113 ≤ nI i := nI_ge (by omega) (by omega)
    have c2 : ¬ nI 20 ≤ nI (wst i).1.length := nI_ge w20 (by omega)
    have i3 : i < am_len.getD 0 0 := by rw [hlen]; omega
    have ec : (am_byt.getD 0 []).getD i 0 = chI i := rfl
    rw [rX11_init_84]
    simp only [am_lv_of, rX11_init_86, rX11_init_88, c_strlen (i := 0) (k := 1000000) (by omega) rfl, hlen, rX11_init_91, rX11_init_94, rX11_init_95, rX11_init_97, rX11_init_100, rX11_init_102, rX11_init_104, c_charAt0 (i := 0) (k := 1000000) (by omega) rfl i3, ec, rX11_init_107, rX11_init_109, rX11_init_111, rX11_init_113, c1, c2, ↓reduceIte, Nat.reduceLT, Nat.reduceAdd, Nat.reduceMul, ne_eq, Nat.reduceEqDiff, not_false_eq_true, or_true, true_or, or_false, false_or, and_true, true_and, and_self, Nat.reduceLeDiff, am_ci, am_cr, am_cn0, Option.toList_some, Option.toList_none, List.cons_append, List.nil_append, am_s0, am_s1, am_s1r, am_s2, am_s2r, am_s3r, am_sRR, nI_add, am_u_ne, am_u_at, am_u_n1, am_u_n2, am_w_ne]
    by_cases h32 : chI i = nI 32
    · have h32' : (chI i = nI 32) = True := eq_true h32
      have e : wst (i + 1) = ((wst i).1 ++ [(wst i).2], 0) := by rw [wst, if_pos h32]
      simp only [am_lv_of, h32', not_true_eq_false, ↓reduceIte, rX11_init_116, rX11_init_117, rX11_init_120, rX11_init_121, rX11_init_122, rX11_init_123, rX11_init_126, rX11_init_127, rX11_init_128, rX11_init_142, rX11_init_145, h0, sh_15, sh_16, w20, Nat.reduceLT, Nat.reduceAdd, Nat.reduceMul, ne_eq, Nat.reduceEqDiff, not_false_eq_true, or_true, true_or, or_false, false_or, and_true, true_and, and_self, Nat.reduceLeDiff, am_ci, am_cr, am_cn0, Option.toList_some, Option.toList_none, List.cons_append, List.nil_append, am_s0, am_s1, am_s1r, am_s2, am_s2r, am_s3r, am_sRR, nI_add, am_u_ne, am_u_at, am_u_n1, am_u_n2, am_w_ne]
      have hlen1 : (wst (i + 1)).1.length = (wst i).1.length + 1 := by rw [e]; show ((wst i).1 ++ [(wst i).2]).length = _; rw [List.length_append, List.length_singleton]
      have h2 : (wst (i + 1)).2 = 0 := by rw [e]
      have q := ih (i + 1) (am_u K 16 (wst i).1.length (lN (wst i).2)) (some (.int (chI i))) (by omega) (fun k j k1 k2 => by rw [am_u_n1 k1]; exact hK k j k1 k2) (fun j hj => by
        rw [hlen1] at hj
        rw [e]
        show _ = lN (((wst i).1 ++ [(wst i).2]).getD j 0)
        by_cases ej : j = (wst i).1.length
        · subst ej
          rw [am_u_at]
          simp [List.getD]
        · rw [am_u_n2 ej, hw j (by omega)]
          simp [List.getD, List.getElem?_append_left (show j < (wst i).1.length by omega)])
      rw [hlen1, h2] at q
      exact q
    · have hl := hch.resolve_left h32
      have e : wst (i + 1) = ((wst i).1, 32 * (wst i).2 + (chN i - 96)) := by rw [wst, if_neg h32]
      have s1 : nI (chN i) - nI 96 = nI (chN i - 96) := pk_sub (by omega)
      have s2 : (nI (chN i - 96)).toInt64 = lN (chN i - 96) := nI_l (by omega)
      have h32' : (nI (chN i) = nI 32) = False := eq_false (by rw [← hl.2.2]; exact h32)
      rw [hl.2.2]
      simp only [am_lv_of, h32', not_false_eq_true, ↓reduceIte, rX11_init_131, rX11_init_132, rX11_init_133, rX11_init_134, rX11_init_136, rX11_init_138, rX11_init_139, rX11_init_140, rX11_init_141, rX11_init_142, rX11_init_145, lN_shl5, s1, s2, lN_add, Nat.reduceLT, Nat.reduceAdd, Nat.reduceMul, ne_eq, Nat.reduceEqDiff, not_false_eq_true, or_true, true_or, or_false, false_or, and_true, true_and, and_self, Nat.reduceLeDiff, am_ci, am_cr, am_cn0, Option.toList_some, Option.toList_none, List.cons_append, List.nil_append, am_s0, am_s1, am_s1r, am_s2, am_s2r, am_s3r, am_sRR, nI_add, am_u_ne, am_u_at, am_u_n1, am_u_n2, am_w_ne]
      have q := ih (i + 1) K (some (.int (nI (chN i)))) (by omega) hK (fun j hj => by rw [e] at hj ⊢; exact hw j hj)
      rw [e] at q
      exact q
def rdP0 (k _j : Nat) : Prop := 14 ≤ k ∧ k ≤ 31
/-- no link to a cell that is made later -/
def rLow (R : Nat → Nat → Option Nat) : Prop := ∀ a b v, R a b = some v → v < 17
theorem rLow_u {k j v : Nat} (hv : v < 17) (h : rLow R) : rLow (am_u R k j (some v)) := fun a b w hw => by
  unfold am_u at hw
  by_cases e1 : a = k
  · rw [if_pos e1] at hw
    by_cases e2 : b = j
    · rw [if_pos e2] at hw; injection hw with hw; omega
    · rw [if_neg e2] at hw; exact h a b w hw
  · rw [if_neg e1] at hw; exact h a b w hw
theorem io_lo {a : Nat} (h : a < 17) : am_io a = a := by unfold am_io; rw [if_pos h]
theorem io_hi {a : Nat} (h : ¬ a < 17) : 17 ≤ am_io a := by
  have e : am_pi (am_io a) = a := am_pi_io a
  by_cases h2 : am_io a < 17
  · have e2 : am_pi (am_io a) = am_io a := by unfold am_pi; rw [if_pos h2]
    omega
  · omega
theorem sw_I {α : Type} {f : Nat → Nat → α} {z : α} (h : ∀ k j, 16 ≤ k → f k j = z) : am_cI f = f := by
  funext a b
  show f (am_io a) b = f a b
  by_cases e : a < 17
  · rw [io_lo e]
  · rw [h a b (by omega), h _ b (by have := io_hi e; omega)]
theorem sw_R (h : zR 16 R) (hv : rLow R) : am_cR R = R := by
  funext a b
  show (R (am_io a) b).map am_pi = R a b
  by_cases e : a < 17
  · rw [io_lo e]
    cases hr : R a b with
    | none => rfl
    | some v =>
      have := hv a b v hr
      show some (am_pi v) = some v
      unfold am_pi
      rw [if_pos this]
  · rw [h a b (by omega), h _ b (by have := io_hi e; omega)]; rfl
theorem am_sw (hI : zI 16 I) (hL : zL 16 L) (hR : zR 16 R) (hV : rLow R) : (20, I, L, am_u (am_u (am_u (am_u (R) 15 0 (some 16)) 15 1 (some 17)) 15 2 (some 18)) 15 3 (some 19)) = am_mP (17, I, L, am_u (am_u (am_u (am_u (R) 15 0 (some 16)) 15 1 (some 2000)) 15 2 (some 2001)) 15 3 (some 2002)) := by
  have p15 : am_pi 15 = 15 := by decide
  have p16 : (some 16).map am_pi = some 16 := by decide
  have p17 : (some 2000).map am_pi = some 17 := by decide
  have p18 : (some 2001).map am_pi = some 18 := by decide
  have p19 : (some 2002).map am_pi = some 19 := by decide
  show _ = (17 + 3, am_cI I, am_cI L, am_cR _)
  rw [am_cR_u, am_cR_u, am_cR_u, am_cR_u, p15, p16, p17, p18, p19, sw_R hR hV, sw_I hI, sw_I hL]
set_option maxRecDepth 20000 in
theorem i_X11_15 (hI : zI 16 I) (hL : zL 16 L) (hR : zR 16 R) (hV : rLow R) (hQ : ∀ I' L', am_ag (fun k _ => k = 15) I I' → ag16 L L' → relW L' → Q none (am_mP (18, I', L', am_u (am_u (am_u (am_u (am_u (R) 15 0 (some 16)) 15 1 (some 2000)) 15 2 (some 2001)) 15 3 (some 2002)) 15 4 (some 17)))) : am_F X (d + 4) mX11_init 0 [some (.ref 15), none, none, none, none, none] [] (16, I, L, R) Q := by
  have hI' : ∀ m, 16 ≤ m → zI m I := fun m hm => hI.le hm
  have hL' : ∀ m, 16 ≤ m → zL m L := fun m hm => hL.le hm
  have hR' : ∀ m, 16 ≤ m → zR m R := fun m hm => hR.le hm
  simp only [fX11_init_0, fX11_init_1, fX11_init_4, fX11_init_5, fX11_init_7 (n := 16) (Nat.le_of_ble_eq_true rfl) shr_16 rfl, fX11_init_9, fX11_init_12, fX11_init_13, fX11_init_16 (n := 17) (Nat.le_of_ble_eq_true rfl) shr_17 rfl, fX11_init_18, fX11_init_21, fX11_init_22, fX11_init_25 (n := 18) (Nat.le_of_ble_eq_true rfl) shr_18 rfl, fX11_init_27, fX11_init_30, fX11_init_31, fX11_init_34 (n := 19) (Nat.le_of_ble_eq_true rfl) shr_19 rfl, fX11_init_36, am_mk, am_mny, zI_u, zL_u, zR_u, zR_w, hI', hL', hR', shr_15, shr_16, shr_17, shr_18, shr_19, Nat.reduceLT, Nat.reduceAdd, Nat.reduceMul, ne_eq, Nat.reduceEqDiff, not_false_eq_true, or_true, true_or, or_false, false_or, and_true, true_and, and_self, Nat.reduceLeDiff, am_ci, am_cr, am_cn0, Option.toList_some, Option.toList_none, List.cons_append, List.nil_append, am_s0, am_s1, am_s1r, am_s2, am_s2r, am_s3r, am_sRR, nI_add, am_u_ne, am_u_at, am_u_n1, am_u_n2, am_w_ne]
  rw [am_sw hI hL hR hV]
  refine am_F_E (ls := [some (.ref 15), none, none, none, none, none]) (st := []) ?_
  have hRz : ∀ m, 17 ≤ m → zR m (am_u (am_u (am_u (am_u (R) 15 0 (some 16)) 15 1 (some 2000)) 15 2 (some 2001)) 15 3 (some 2002)) := fun m hm => by
    simp only [zR_u, show 15 < m by omega]
    exact hR.le (by omega)
  simp only [am_lv_of, rX11_init_39, rX11_init_40, rX11_init_41 (n := 17) (Nat.le_of_ble_eq_true rfl) (Nat.le_of_ble_eq_true rfl) sh_17 rfl, rX11_init_43, rX11_init_46, rX11_init_47, rX11_init_48, rX11_init_51, rX11_init_52, rX11_init_53, rX11_init_56, rX11_init_57, rX11_init_58, rX11_init_61, rX11_init_62, rX11_init_64, rX11_init_67, rX11_init_68, rX11_init_69, rX11_init_72, rX11_init_73, rX11_init_74, rX11_init_77, rX11_init_78, rX11_init_79, rX11_init_80, rX11_init_81, rX11_init_82, am_mk, am_mny, zI_u, zL_u, zR_u, zR_w, hI', hL', hR', hRz, sh_15, sh_17, Nat.reduceLT, Nat.reduceAdd, Nat.reduceMul, ne_eq, Nat.reduceEqDiff, not_false_eq_true, or_true, true_or, or_false, false_or, and_true, true_and, and_self, Nat.reduceLeDiff, am_ci, am_cr, am_cn0, Option.toList_some, Option.toList_none, List.cons_append, List.nil_append, am_s0, am_s1, am_s1r, am_s2, am_s2r, am_s3r, am_sRR, nI_add, am_u_ne, am_u_at, am_u_n1, am_u_n2, am_w_ne]
  refine l_tok (L := am_u L 15 10 0) (by simp [am_u, va_rf]) (fun L' g w => hQ _ L' ?_ (fun k j k1 k2 => ?_) w) 113 0 _ none (by omega) (fun _ _ _ _ => rfl) (fun j hj => absurd hj (Nat.not_lt_zero j))
  · repeat (first | exact am_ag.refl | (refine am_ag.u ?_ rfl))
  · rw [g k j k1 k2]
    by_cases e : k = 15
    · rw [am_u_n2 (fun z => k2 ⟨e, z⟩)]
    · rw [am_u_n1 e]
set_option maxRecDepth 20000 in
theorem i_X9_14 (hI : zI 15 I) (hL : zL 15 L) (hR : zR 15 R) (hV : rLow R) (hQ : ∀ I' L', am_ag rdP0 I I' → ag16 L L' → relW L' → Q none (am_mP (32, I', L', am_u (am_u (am_u (am_u (am_u (am_u (am_u (am_u (am_u (am_u (am_u (am_u (am_u (am_u (am_u (am_u (am_u (am_u (am_u (am_u (R) 15 0 (some 16)) 15 1 (some 2000)) 15 2 (some 2001)) 15 3 (some 2002)) 15 4 (some 17)) 14 0 (some 15)) 14 1 (some 18)) 14 2 (some 19)) 20 6 (some 21)) 20 7 (some 22)) 20 8 (some 23)) 20 9 (some 24)) 20 10 (some 25)) 20 11 (some 26)) 27 0 (some 28)) 27 1 (some 29)) 27 2 (some 30)) 20 12 (some 27)) 20 13 (some 31)) 14 7 (some 20)))) : am_F X (d + 5) mX9_init 0 [some (.ref 14)] [] (15, I, L, R) Q := by
  have hI' : ∀ m, 15 ≤ m → zI m I := fun m hm => hI.le hm
  have hL' : ∀ m, 15 ≤ m → zL m L := fun m hm => hL.le hm
  have hR' : ∀ m, 15 ≤ m → zR m R := fun m hm => hR.le hm
  simp only [fX9_init_0, fX9_init_1, fX9_init_4, fX9_init_5, fX9_init_8, fX9_init_9, am_mk, am_mny, zI_u, zL_u, zR_u, zR_w, hI', hL', hR', shr_14, shr_15, Nat.reduceLT, Nat.reduceAdd, Nat.reduceMul, ne_eq, Nat.reduceEqDiff, not_false_eq_true, or_true, true_or, or_false, false_or, and_true, true_and, and_self, Nat.reduceLeDiff, am_ci, am_cr, am_cn0, Option.toList_some, Option.toList_none, List.cons_append, List.nil_append, am_s0, am_s1, am_s1r, am_s2, am_s2r, am_s3r, am_sRR, nI_add, am_u_ne, am_u_at, am_u_n1, am_u_n2, am_w_ne]
  refine i_X11_15 (d := d) ?_ ?_ ?_ hV (fun I1 L1 g1 l1 w1 => ?_)
  · simp only [am_mk, am_mny, zI_u, zL_u, zR_u, zR_w, hI', Nat.reduceLT, Nat.reduceAdd, Nat.reduceMul, ne_eq, Nat.reduceEqDiff, not_false_eq_true, or_true, true_or, or_false, false_or, and_true, true_and, and_self, Nat.reduceLeDiff, am_ci, am_cr, am_cn0, Option.toList_some, Option.toList_none, List.cons_append, List.nil_append, am_s0, am_s1, am_s1r, am_s2, am_s2r, am_s3r, am_sRR, nI_add, am_u_ne, am_u_at, am_u_n1, am_u_n2, am_w_ne]
  · simp only [am_mk, am_mny, zI_u, zL_u, zR_u, zR_w, hL', Nat.reduceLT, Nat.reduceAdd, Nat.reduceMul, ne_eq, Nat.reduceEqDiff, not_false_eq_true, or_true, true_or, or_false, false_or, and_true, true_and, and_self, Nat.reduceLeDiff, am_ci, am_cr, am_cn0, Option.toList_some, Option.toList_none, List.cons_append, List.nil_append, am_s0, am_s1, am_s1r, am_s2, am_s2r, am_s3r, am_sRR, nI_add, am_u_ne, am_u_at, am_u_n1, am_u_n2, am_w_ne]
  · simp only [am_mk, am_mny, zI_u, zL_u, zR_u, zR_w, hR', Nat.reduceLT, Nat.reduceAdd, Nat.reduceMul, ne_eq, Nat.reduceEqDiff, not_false_eq_true, or_true, true_or, or_false, false_or, and_true, true_and, and_self, Nat.reduceLeDiff, am_ci, am_cr, am_cn0, Option.toList_some, Option.toList_none, List.cons_append, List.nil_append, am_s0, am_s1, am_s1r, am_s2, am_s2r, am_s3r, am_sRR, nI_add, am_u_ne, am_u_at, am_u_n1, am_u_n2, am_w_ne]
  have hI1 : ∀ m, 18 ≤ m → zI m I1 := fun m hm k j hk => by rw [g1 k j (by omega)]; exact hI k j (by omega)
  have hL1 : ∀ m, 18 ≤ m → zL m L1 := fun m hm k j hk => by rw [l1 k j (by omega) (by omega)]; exact hL k j (by omega)
  simp only [Option.toList_none, List.nil_append]
  refine am_F_E (ls := [some (.ref 14)]) (st := [.ref 15, .ref 14]) ?_
  simp only [am_lv_of, rX9_init_12, rX9_init_15, rX9_init_16, rX9_init_18 (n := 18) (Nat.le_of_ble_eq_true rfl) (Nat.le_of_ble_eq_true rfl) sh_18 rfl, rX9_init_20, rX9_init_23, rX9_init_24, rX9_init_26 (n := 19) (Nat.le_of_ble_eq_true rfl) (Nat.le_of_ble_eq_true rfl) sh_19 rfl, rX9_init_28, rX9_init_31, rX9_init_32, rX9_init_33, rX9_init_36, rX9_init_37, rX9_init_38, rX9_init_41, rX9_init_42, rX9_init_43, rX9_init_46, rX9_init_47, rX9_init_48, rX9_init_51, rX9_init_52, rX9_init_55, rX9_init_56, am_mk, am_mny, zI_u, zL_u, zR_u, zR_w, hI1, hL1, hR', sh_14, sh_15, sh_18, sh_19, sh_20, Nat.reduceLT, Nat.reduceAdd, Nat.reduceMul, ne_eq, Nat.reduceEqDiff, not_false_eq_true, or_true, true_or, or_false, false_or, and_true, true_and, and_self, Nat.reduceLeDiff, am_ci, am_cr, am_cn0, Option.toList_some, Option.toList_none, List.cons_append, List.nil_append, am_s0, am_s1, am_s1r, am_s2, am_s2r, am_s3r, am_sRR, nI_add, am_u_ne, am_u_at, am_u_n1, am_u_n2, am_w_ne]
  refine i_X10_20 (d := d + 1) ?_ ?_ ?_ (fun I2 g2 z2 b2 => ?_)
  · simp only [am_mk, am_mny, zI_u, zL_u, zR_u, zR_w, hI1, Nat.reduceLT, Nat.reduceAdd, Nat.reduceMul, ne_eq, Nat.reduceEqDiff, not_false_eq_true, or_true, true_or, or_false, false_or, and_true, true_and, and_self, Nat.reduceLeDiff, am_ci, am_cr, am_cn0, Option.toList_some, Option.toList_none, List.cons_append, List.nil_append, am_s0, am_s1, am_s1r, am_s2, am_s2r, am_s3r, am_sRR, nI_add, am_u_ne, am_u_at, am_u_n1, am_u_n2, am_w_ne]
  · simp only [am_mk, am_mny, zI_u, zL_u, zR_u, zR_w, hL1, Nat.reduceLT, Nat.reduceAdd, Nat.reduceMul, ne_eq, Nat.reduceEqDiff, not_false_eq_true, or_true, true_or, or_false, false_or, and_true, true_and, and_self, Nat.reduceLeDiff, am_ci, am_cr, am_cn0, Option.toList_some, Option.toList_none, List.cons_append, List.nil_append, am_s0, am_s1, am_s1r, am_s2, am_s2r, am_s3r, am_sRR, nI_add, am_u_ne, am_u_at, am_u_n1, am_u_n2, am_w_ne]
  · simp only [am_mk, am_mny, zI_u, zL_u, zR_u, zR_w, hR', Nat.reduceLT, Nat.reduceAdd, Nat.reduceMul, ne_eq, Nat.reduceEqDiff, not_false_eq_true, or_true, true_or, or_false, false_or, and_true, true_and, and_self, Nat.reduceLeDiff, am_ci, am_cr, am_cn0, Option.toList_some, Option.toList_none, List.cons_append, List.nil_append, am_s0, am_s1, am_s1r, am_s2, am_s2r, am_s3r, am_sRR, nI_add, am_u_ne, am_u_at, am_u_n1, am_u_n2, am_w_ne]
  simp only [am_lv_of, Option.toList_none, List.nil_append, rX9_init_59, rX9_init_62, rX9_init_63, rX9_init_64, rX9_init_67, sh_14, Nat.reduceLT, Nat.reduceAdd, Nat.reduceMul, ne_eq, Nat.reduceEqDiff, not_false_eq_true, or_true, true_or, or_false, false_or, and_true, true_and, and_self, Nat.reduceLeDiff, am_ci, am_cr, am_cn0, Option.toList_some, Option.toList_none, List.cons_append, List.nil_append, am_s0, am_s1, am_s1r, am_s2, am_s2r, am_s3r, am_sRR, nI_add, am_u_ne, am_u_at, am_u_n1, am_u_n2, am_w_ne]
  refine hQ _ L1 (am_ag.u (am_ag.trans ?_ (g2.mono (fun k j z => by unfold rdP0; omega))) (by unfold rdP0; omega)) l1 w1
  repeat (first | exact g1.mono (fun k j z => by unfold rdP0; omega) | (refine am_ag.u ?_ (by unfold rdP0; omega)))
end WD
