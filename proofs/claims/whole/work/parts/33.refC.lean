--! 31 32
/-! POSTFIX LISTS: what both sides make of an E. An entry: (0, int), (1, variable), (2 .. 5, 0): + - * / -/
abbrev pfx : Type := List (Nat × Nat)
def opv (k : Nat) (a b : Int32) : Int32 := if k = 2 then a + b else if k = 3 then a - b else if k = 4 then a * b else a / b
/-- the stack behind it; none: divided by 0 -/
def pfR (vars : Nat → Int32) : pfx → List Int32 → Option (List Int32)
  | [], stk => some stk
  | (k, v) :: p, stk => if k = 0 then pfR vars p (nI v :: stk) else if k = 1 then pfR vars p (vars v :: stk) else (match stk with
    | b :: a :: r => if k = 5 ∧ b = 0 then none else pfR vars p (opv k a b :: r)
    | _ => some [])
/-- how deep the stack is behind it, if it never fails and never is deeper than cap -/
def pfW (cap : Nat) : pfx → Nat → Option Nat
  | [], d => some d
  | (k, v) :: p, d => if k = 0 then (if v ≤ 9999 ∧ d < cap then pfW cap p (d + 1) else none) else if k = 1 then (if v < 9 ∧ d < cap then pfW cap p (d + 1) else none) else if k ≤ 5 ∧ 2 ≤ d ∧ v = 0 then pfW cap p (d - 1) else none
/-- broken or not, and the value -/
def pfV (vars : Nat → Int32) (p : pfx) (stk : List Int32) : Bool × Int32 := match pfR vars p stk with
  | some (x :: _) => (false, x)
  | some [] => (false, nI 0)
  | none => (true, nI 0)
/-- a postfix list stands in the reference's code from a on -/
def rf_seg (I : Nat → Nat → Int32) (a : Nat) (p : pfx) : Prop := ∀ (i : Nat) (q : Nat × Nat), p[i]? = some q → I 98 (a + i) = nI q.1 ∧ I 99 (a + i) = nI q.2
theorem rf_seg.tail {I : Nat → Nat → Int32} {a : Nat} {q : Nat × Nat} {p : pfx} (h : rf_seg I a (q :: p)) : (I 98 a = nI q.1 ∧ I 99 a = nI q.2) ∧ rf_seg I (a + 1) p := by
  refine ⟨by have := h 0 q rfl; rwa [Nat.add_zero] at this, fun i x hx => ?_⟩
  have := h (i + 1) x (by simpa using hx)
  rwa [show a + (i + 1) = a + 1 + i by omega] at this
def sc0 (k j : Nat) : Prop := k = 102 ∨ (k = 69 ∧ j = 50)
def pil (I : Nat → Nat → Int32) (c : Nat) (stk : List Int32) : Prop := ∀ (j : Nat) (x : Int32), stk[j]? = some x → I c (stk.length - 1 - j) = x
theorem pil.push {I : Nat → Nat → Int32} {c : Nat} {stk : List Int32} {x : Int32} (h : pil I c stk) : pil (am_u I c stk.length x) c (x :: stk) := by
  intro j y hy
  cases j with
  | zero =>
    simp at hy
    subst hy
    simp [am_u]
  | succ j =>
    have hj : j < stk.length := by
      have := (List.getElem?_eq_some_iff.mp hy).1
      simpa using this
    rw [am_u_n2 (by simp; omega)]
    have := h j y (by simpa using hy)
    rw [← this]
    congr 1
    first | (simp; done) | (simp; omega)
theorem pil.op {I : Nat → Nat → Int32} {c : Nat} {a b y : Int32} {r : List Int32} (h : pil I c (b :: a :: r)) : pil (am_u I c r.length y) c (y :: r) := by
  intro j z hz
  cases j with
  | zero =>
    simp at hz
    subst hz
    simp [am_u]
  | succ j =>
    have hj : j < r.length := by
      have := (List.getElem?_eq_some_iff.mp hz).1
      simpa using this
    rw [am_u_n2 (by simp; omega)]
    have := h (j + 2) z (by simpa using hz)
    rw [← this]
    congr 1
    first | (simp; done) | (simp; omega)
section RFC
variable {X : am_X} {d n : Nat} {I : Nat → Nat → Int32} {L : Nat → Nat → Int64} {R : Nat → Nat → Option Nat} {Q : Option Value → am_M → Prop}
set_option maxHeartbeats 1000000 in
theorem l_termOf (hR : am_OR R) (hN : 116 ≤ n) (hn : n ≤ 1000) (vars : Nat → Int32) {l1 : Option Value} : ∀ (p : pfx) (a b : Nat) (stk : List Int32) (I : Nat → Nat → Int32) (l5 l6 l7 : Option Value), am_nl l5 → am_nl l6 → b = a + p.length → b ≤ 840 → stk.length ≤ 400 → pfW 400 p stk.length = some 1 → rf_seg I a p → (∀ v, v < 9 → I 101 v = vars v) → pil I 102 stk →
    (∀ I'', am_ag sc0 I I'' → I'' 69 50 = (if (pfV vars p stk).1 = true then nI 1 else I 69 50) → Q (some (.int (pfV vars p stk).2)) (n, I'', L, R)) →
    am_E X d mX13_termOf 5 [some (.ref 69), l1, some (.int (nI b)), some (.int (nI stk.length)), some (.int (nI a)), l5, l6, l7] [] (n, I, L, R) Q := by
  have hl := am_lt hN
  have hvw9 := am_lw hN
  intro p
  induction p with
  | nil =>
    intro a b stk I l5 l6 l7 n5 n6 hb' hb8 hs hw hseg hv hp hQ
    have hb : b = a := by simpa using hb'
    subst hb
    have h1 : nI b ≤ nI b := nI_le (Nat.le_refl _) (by omega)
    simp only [am_lv_of, rX13_termOf_5, rX13_termOf_7, rX13_termOf_8, if_pos h1]
    simp only [am_lv_of, rX13_termOf_165, rX13_termOf_166, rX13_termOf_169, rX13_termOf_170, rX13_termOf_171, ro_69_1 hR, ro_69_3 hR, ro_69_5 hR, ro_69_6 hR, ro_69_7 hR, ro_69_8 hR, ro_69_9 hR, ro_69_21 hR, ro_69_22 hR, ro_69_23 hR, ro_69_24 hR, ro_69_25 hR, ro_69_26 hR, ro_69_27 hR, ro_69_28 hR, ro_69_29 hR, ro_69_30 hR, ro_69_31 hR, ro_69_32 hR, ro_69_33 hR, ro_69_34 hR, ro_69_35 hR, ro_69_36 hR, ro_69_38 hR, ro_69_39 hR, ro_69_40 hR, ro_69_41 hR, ro_69_42 hR, ro_69_44 hR, ro_69_45 hR, ro_69_46 hR, ro_69_48 hR, ro_69_49 hR, ro_69_51 hR, ro_69_52 hR, ro_69_55 hR, ro_69_56 hR, ro_69_57 hR, ro_69_58 hR, ro_69_59 hR, ro_69_61 hR, ro_69_62 hR, ro_69_63 hR, ro_69_64 hR, ro_69_65 hR, ro_69_66 hR, sh_69, sh_102, hl, hvw9, Nat.reduceLT, Nat.reduceAdd, Nat.reduceMul, ne_eq, Nat.reduceEqDiff, not_false_eq_true, or_true, true_or, or_false, false_or, and_true, true_and, and_self, Nat.reduceLeDiff, am_ci, am_cr, am_cn0, Option.toList_some, Option.toList_none, List.cons_append, List.nil_append, am_s0, am_s1, am_s1r, am_s2, am_s2r, am_s3r, nI_add, am_u_ne, am_u_at, am_u_n1, am_u_n2, am_w_ne]
    have hw : stk.length = 1 := by simpa [pfW] using hw
    match stk, hw with
    | [x], _ =>
      have hx := hp 0 x rfl
      simp at hx
      rw [hx]
      exact hQ I am_ag.refl (by simp [pfV, pfR])
  | cons q p ih =>
    intro a b stk I l5 l6 l7 n5 n6 hb hb8 hs hw hseg hv hp hQ
    obtain ⟨k, v⟩ := q
    obtain ⟨⟨hk, hvv⟩, hseg'⟩ := hseg.tail
    have hb' : b = a + 1 + p.length := by simp at hb; omega
    have h1 : ¬ nI b ≤ nI a := nI_ge (by omega) (by omega)
    have ha : a < 840 := by omega
    rw [rX13_termOf_5]
    simp only [am_lv_of, rX13_termOf_7, rX13_termOf_8, rX13_termOf_11, rX13_termOf_12, rX13_termOf_15, rX13_termOf_17, rX13_termOf_18, rX13_termOf_20, rX13_termOf_22, rX13_termOf_23, ro_69_1 hR, ro_69_3 hR, ro_69_5 hR, ro_69_6 hR, ro_69_7 hR, ro_69_8 hR, ro_69_9 hR, ro_69_21 hR, ro_69_22 hR, ro_69_23 hR, ro_69_24 hR, ro_69_25 hR, ro_69_26 hR, ro_69_27 hR, ro_69_28 hR, ro_69_29 hR, ro_69_30 hR, ro_69_31 hR, ro_69_32 hR, ro_69_33 hR, ro_69_34 hR, ro_69_35 hR, ro_69_36 hR, ro_69_38 hR, ro_69_39 hR, ro_69_40 hR, ro_69_41 hR, ro_69_42 hR, ro_69_44 hR, ro_69_45 hR, ro_69_46 hR, ro_69_48 hR, ro_69_49 hR, ro_69_51 hR, ro_69_52 hR, ro_69_55 hR, ro_69_56 hR, ro_69_57 hR, ro_69_58 hR, ro_69_59 hR, ro_69_61 hR, ro_69_62 hR, ro_69_63 hR, ro_69_64 hR, ro_69_65 hR, ro_69_66 hR, sh_69, sh_98, hl, hvw9, Nat.reduceLT, Nat.reduceAdd, Nat.reduceMul, ne_eq, Nat.reduceEqDiff, not_false_eq_true, or_true, true_or, or_false, false_or, and_true, true_and, and_self, Nat.reduceLeDiff, am_ci, am_cr, am_cn0, Option.toList_some, Option.toList_none, List.cons_append, List.nil_append, am_s0, am_s1, am_s1r, am_s2, am_s2r, am_s3r, nI_add, am_u_ne, am_u_at, am_u_n1, am_u_n2, am_w_ne, if_neg h1, ha, hk]
    by_cases hk0 : k = 0
    · subst hk0
      have hw : v ≤ 9999 ∧ stk.length < 400 ∧ pfW 400 p (stk.length + 1) = some 1 := by
        rw [pfW, if_pos rfl] at hw
        split at hw
        · next h => exact ⟨h.1, h.2, hw⟩
        · cases hw
      have h2 : ¬ nI 2 ≤ nI 0 := by decide
      have h3 : nI 0 = 0 := rfl
      have hlt := hw.2.1
      simp only [am_lv_of, if_neg h2, rX13_termOf_26, rX13_termOf_27, rX13_termOf_30, rX13_termOf_31, rX13_termOf_33, rX13_termOf_36, rX13_termOf_37, rX13_termOf_40, rX13_termOf_42, rX13_termOf_43, rX13_termOf_46, rX13_termOf_47, rX13_termOf_50, rX13_termOf_51, rX13_termOf_54, rX13_termOf_56, rX13_termOf_57, rX13_termOf_58, rX13_termOf_59, rX13_termOf_62, ro_69_1 hR, ro_69_3 hR, ro_69_5 hR, ro_69_6 hR, ro_69_7 hR, ro_69_8 hR, ro_69_9 hR, ro_69_21 hR, ro_69_22 hR, ro_69_23 hR, ro_69_24 hR, ro_69_25 hR, ro_69_26 hR, ro_69_27 hR, ro_69_28 hR, ro_69_29 hR, ro_69_30 hR, ro_69_31 hR, ro_69_32 hR, ro_69_33 hR, ro_69_34 hR, ro_69_35 hR, ro_69_36 hR, ro_69_38 hR, ro_69_39 hR, ro_69_40 hR, ro_69_41 hR, ro_69_42 hR, ro_69_44 hR, ro_69_45 hR, ro_69_46 hR, ro_69_48 hR, ro_69_49 hR, ro_69_51 hR, ro_69_52 hR, ro_69_55 hR, ro_69_56 hR, ro_69_57 hR, ro_69_58 hR, ro_69_59 hR, ro_69_61 hR, ro_69_62 hR, ro_69_63 hR, ro_69_64 hR, ro_69_65 hR, ro_69_66 hR, sh_69, sh_99, sh_102, hl, hvw9, Nat.reduceLT, Nat.reduceAdd, Nat.reduceMul, ne_eq, Nat.reduceEqDiff, not_false_eq_true, or_true, true_or, or_false, false_or, and_true, true_and, and_self, Nat.reduceLeDiff, am_ci, am_cr, am_cn0, Option.toList_some, Option.toList_none, List.cons_append, List.nil_append, am_s0, am_s1, am_s1r, am_s2, am_s2r, am_s3r, nI_add, am_u_ne, am_u_at, am_u_n1, am_u_n2, am_w_ne, ha, h3, not_true_eq_false, if_false, hvv, hlt, hn, n5, n6]
      simp only [am_lv_of, rX13_termOf_159, rX13_termOf_162, hl, hvw9, Nat.reduceLT, Nat.reduceAdd, Nat.reduceMul, ne_eq, Nat.reduceEqDiff, not_false_eq_true, or_true, true_or, or_false, false_or, and_true, true_and, and_self, Nat.reduceLeDiff, am_ci, am_cr, am_cn0, Option.toList_some, Option.toList_none, List.cons_append, List.nil_append, am_s0, am_s1, am_s1r, am_s2, am_s2r, am_s3r, nI_add, am_u_ne, am_u_at, am_u_n1, am_u_n2, am_w_ne, n5, n6]
      have e1 : pfV vars ((0, v) :: p) stk = pfV vars p (nI v :: stk) := rfl
      rw [e1] at hQ
      refine ih (a + 1) b (nI v :: stk) _ _ l6 l7 am_ci n6 hb' hb8 (by simp; omega) hw.2.2 (fun i x hx => ?_) (fun z hz => ?_) hp.push (fun I'' g1 g2 => hQ I'' ((am_ag.refl.u (Or.inl rfl)).trans g1) ?_)
      · rw [am_u_n1 (by omega), am_u_n1 (by omega)]; exact hseg' i x hx
      · rw [am_u_n1 (by omega)]; exact hv z hz
      · rw [g2, am_u_n1 (by omega)]
    · by_cases hk1 : k = 1
      · subst hk1
        have hw : v < 9 ∧ stk.length < 400 ∧ pfW 400 p (stk.length + 1) = some 1 := by
          rw [pfW, if_neg (by decide), if_pos rfl] at hw
          split at hw
          · next h => exact ⟨h.1, h.2, hw⟩
          · cases hw
        have h2 : ¬ nI 2 ≤ nI 1 := by decide
        have h3 : ¬ nI 1 = 0 := by decide
        have hlt := hw.2.1
        have hv9 := hw.1
        simp only [am_lv_of, if_neg h2, rX13_termOf_26, rX13_termOf_27, rX13_termOf_30, rX13_termOf_31, rX13_termOf_33, rX13_termOf_36, rX13_termOf_37, rX13_termOf_40, rX13_termOf_42, rX13_termOf_43, rX13_termOf_46, rX13_termOf_47, rX13_termOf_50, rX13_termOf_51, rX13_termOf_54, rX13_termOf_56, rX13_termOf_57, rX13_termOf_58, rX13_termOf_59, rX13_termOf_62, ro_69_1 hR, ro_69_3 hR, ro_69_5 hR, ro_69_6 hR, ro_69_7 hR, ro_69_8 hR, ro_69_9 hR, ro_69_21 hR, ro_69_22 hR, ro_69_23 hR, ro_69_24 hR, ro_69_25 hR, ro_69_26 hR, ro_69_27 hR, ro_69_28 hR, ro_69_29 hR, ro_69_30 hR, ro_69_31 hR, ro_69_32 hR, ro_69_33 hR, ro_69_34 hR, ro_69_35 hR, ro_69_36 hR, ro_69_38 hR, ro_69_39 hR, ro_69_40 hR, ro_69_41 hR, ro_69_42 hR, ro_69_44 hR, ro_69_45 hR, ro_69_46 hR, ro_69_48 hR, ro_69_49 hR, ro_69_51 hR, ro_69_52 hR, ro_69_55 hR, ro_69_56 hR, ro_69_57 hR, ro_69_58 hR, ro_69_59 hR, ro_69_61 hR, ro_69_62 hR, ro_69_63 hR, ro_69_64 hR, ro_69_65 hR, ro_69_66 hR, sh_69, sh_99, sh_101, sh_102, hl, hvw9, Nat.reduceLT, Nat.reduceAdd, Nat.reduceMul, ne_eq, Nat.reduceEqDiff, not_false_eq_true, or_true, true_or, or_false, false_or, and_true, true_and, and_self, Nat.reduceLeDiff, am_ci, am_cr, am_cn0, Option.toList_some, Option.toList_none, List.cons_append, List.nil_append, am_s0, am_s1, am_s1r, am_s2, am_s2r, am_s3r, nI_add, am_u_ne, am_u_at, am_u_n1, am_u_n2, am_w_ne, ha, if_pos h3, hvv, hlt, hn, n5, n6, hv9, hv v hv9]
        simp only [am_lv_of, rX13_termOf_159, rX13_termOf_162, hl, hvw9, Nat.reduceLT, Nat.reduceAdd, Nat.reduceMul, ne_eq, Nat.reduceEqDiff, not_false_eq_true, or_true, true_or, or_false, false_or, and_true, true_and, and_self, Nat.reduceLeDiff, am_ci, am_cr, am_cn0, Option.toList_some, Option.toList_none, List.cons_append, List.nil_append, am_s0, am_s1, am_s1r, am_s2, am_s2r, am_s3r, nI_add, am_u_ne, am_u_at, am_u_n1, am_u_n2, am_w_ne, n5, n6]
        have e1 : pfV vars ((1, v) :: p) stk = pfV vars p (vars v :: stk) := rfl
        rw [e1] at hQ
        refine ih (a + 1) b (vars v :: stk) _ _ l6 l7 am_ci n6 hb' hb8 (by simp; omega) hw.2.2 (fun i x hx => ?_) (fun z hz => ?_) hp.push (fun I'' g1 g2 => hQ I'' ((am_ag.refl.u (Or.inl rfl)).trans g1) ?_)
        · rw [am_u_n1 (by omega), am_u_n1 (by omega)]; exact hseg' i x hx
        · rw [am_u_n1 (by omega)]; exact hv z hz
        · rw [g2, am_u_n1 (by omega)]
      · have hw : k ≤ 5 ∧ 2 ≤ stk.length ∧ pfW 400 p (stk.length - 1) = some 1 := by
          rw [pfW, if_neg hk0, if_neg hk1] at hw
          split at hw
          · next h => exact ⟨h.1, h.2.1, hw⟩
          · cases hw
        obtain ⟨hk5, hl2, hw⟩ := hw
        match stk, hl2, hp, hs, hw, hQ with
        | y :: x :: r, _, hp, hs, hw, hQ =>
          have hy : I 102 (r.length + 1) = y := by have := hp 0 y rfl; simpa using this
          have hx : I 102 r.length = x := by have := hp 1 x rfl; simpa using this
          have hr4 : r.length + 1 < 400 := by simp at hs; omega
          have hr3 : r.length < 400 := by omega
          have h2 : nI 2 ≤ nI k := nI_le (by omega) (by omega)
          have elen : (y :: x :: r).length = r.length + 1 + 1 := by simp
          have hw' : pfW 400 p (r.length + 1) = some 1 := by
            rw [elen] at hw
            simpa using hw
          simp only [am_lv_of, if_pos h2, elen, rX13_termOf_65, rX13_termOf_68, rX13_termOf_69, rX13_termOf_72, rX13_termOf_73, rX13_termOf_74, rX13_termOf_75, rX13_termOf_76, rX13_termOf_78, rX13_termOf_79, rX13_termOf_82, rX13_termOf_83, rX13_termOf_84, rX13_termOf_86, rX13_termOf_88, rX13_termOf_89, ro_69_1 hR, ro_69_3 hR, ro_69_5 hR, ro_69_6 hR, ro_69_7 hR, ro_69_8 hR, ro_69_9 hR, ro_69_21 hR, ro_69_22 hR, ro_69_23 hR, ro_69_24 hR, ro_69_25 hR, ro_69_26 hR, ro_69_27 hR, ro_69_28 hR, ro_69_29 hR, ro_69_30 hR, ro_69_31 hR, ro_69_32 hR, ro_69_33 hR, ro_69_34 hR, ro_69_35 hR, ro_69_36 hR, ro_69_38 hR, ro_69_39 hR, ro_69_40 hR, ro_69_41 hR, ro_69_42 hR, ro_69_44 hR, ro_69_45 hR, ro_69_46 hR, ro_69_48 hR, ro_69_49 hR, ro_69_51 hR, ro_69_52 hR, ro_69_55 hR, ro_69_56 hR, ro_69_57 hR, ro_69_58 hR, ro_69_59 hR, ro_69_61 hR, ro_69_62 hR, ro_69_63 hR, ro_69_64 hR, ro_69_65 hR, ro_69_66 hR, sh_69, sh_102, hl, hvw9, Nat.reduceLT, Nat.reduceAdd, Nat.reduceMul, ne_eq, Nat.reduceEqDiff, not_false_eq_true, or_true, true_or, or_false, false_or, and_true, true_and, and_self, Nat.reduceLeDiff, am_ci, am_cr, am_cn0, Option.toList_some, Option.toList_none, List.cons_append, List.nil_append, am_s0, am_s1, am_s1r, am_s2, am_s2r, am_s3r, nI_add, am_u_ne, am_u_at, am_u_n1, am_u_n2, am_w_ne, pk_m1, pk_sub (show 1 ≤ r.length + 1 by omega), Nat.add_sub_cancel, hr3, hr4, hx, hy, n5, n6]
          have fin : ∀ z : Int32, pfV vars ((k, v) :: p) (y :: x :: r) = pfV vars p (z :: r) → am_E X d mX13_termOf 158 [some (.ref 69), l1, some (.int (nI b)), some (.int (nI (r.length + 1))), some (.int (nI a)), some (.int (nI k)), some (.int x), some (.int y)] [.int z, .int (nI r.length), .ref 102] (n, I, L, R) Q := by
            intro z hz
            rw [hz] at hQ
            simp only [am_lv_of, rX13_termOf_158, rX13_termOf_159, rX13_termOf_162, sh_102, hl, hvw9, Nat.reduceLT, Nat.reduceAdd, Nat.reduceMul, ne_eq, Nat.reduceEqDiff, not_false_eq_true, or_true, true_or, or_false, false_or, and_true, true_and, and_self, Nat.reduceLeDiff, am_ci, am_cr, am_cn0, Option.toList_some, Option.toList_none, List.cons_append, List.nil_append, am_s0, am_s1, am_s1r, am_s2, am_s2r, am_s3r, nI_add, am_u_ne, am_u_at, am_u_n1, am_u_n2, am_w_ne, hr3, hn]
            refine ih (a + 1) b (z :: r) _ _ _ _ am_ci am_ci hb' hb8 (by simp; omega) hw' (fun i q hq => ?_) (fun w hw9 => ?_) hp.op (fun I'' g1 g2 => hQ I'' ((am_ag.refl.u (Or.inl rfl)).trans g1) ?_)
            · rw [am_u_n1 (by omega), am_u_n1 (by omega)]; exact hseg' i q hq
            · rw [am_u_n1 (by omega)]; exact hv w hw9
            · rw [g2, am_u_n1 (by omega)]
          have hk4 : k = 2 ∨ k = 3 ∨ k = 4 ∨ k = 5 := by omega
          have d25 : ¬ nI 2 = nI 5 := by decide
          have d35 : ¬ nI 3 = nI 5 := by decide
          have d45 : ¬ nI 4 = nI 5 := by decide
          have d32 : ¬ nI 3 = nI 2 := by decide
          have d42 : ¬ nI 4 = nI 2 := by decide
          have d43 : ¬ nI 4 = nI 3 := by decide
          have d52 : ¬ nI 5 = nI 2 := by decide
          have d53 : ¬ nI 5 = nI 3 := by decide
          have d54 : ¬ nI 5 = nI 4 := by decide
          rcases hk4 with rfl | rfl | rfl | rfl
          · simp only [am_lv_of, if_pos d25, rX13_termOf_104, rX13_termOf_105, rX13_termOf_108, rX13_termOf_109, rX13_termOf_110, rX13_termOf_111, rX13_termOf_113, rX13_termOf_114, rX13_termOf_117, rX13_termOf_119, rX13_termOf_121, rX13_termOf_122, rX13_termOf_125, rX13_termOf_127, rX13_termOf_128, rX13_termOf_131, rX13_termOf_133, rX13_termOf_135, rX13_termOf_136, rX13_termOf_139, rX13_termOf_141, rX13_termOf_142, rX13_termOf_145, rX13_termOf_147, rX13_termOf_149, rX13_termOf_150, rX13_termOf_153, rX13_termOf_155, rX13_termOf_157, ro_69_1 hR, ro_69_3 hR, ro_69_5 hR, ro_69_6 hR, ro_69_7 hR, ro_69_8 hR, ro_69_9 hR, ro_69_21 hR, ro_69_22 hR, ro_69_23 hR, ro_69_24 hR, ro_69_25 hR, ro_69_26 hR, ro_69_27 hR, ro_69_28 hR, ro_69_29 hR, ro_69_30 hR, ro_69_31 hR, ro_69_32 hR, ro_69_33 hR, ro_69_34 hR, ro_69_35 hR, ro_69_36 hR, ro_69_38 hR, ro_69_39 hR, ro_69_40 hR, ro_69_41 hR, ro_69_42 hR, ro_69_44 hR, ro_69_45 hR, ro_69_46 hR, ro_69_48 hR, ro_69_49 hR, ro_69_51 hR, ro_69_52 hR, ro_69_55 hR, ro_69_56 hR, ro_69_57 hR, ro_69_58 hR, ro_69_59 hR, ro_69_61 hR, ro_69_62 hR, ro_69_63 hR, ro_69_64 hR, ro_69_65 hR, ro_69_66 hR, sh_69, sh_102, hl, hvw9, Nat.reduceLT, Nat.reduceAdd, Nat.reduceMul, ne_eq, Nat.reduceEqDiff, not_false_eq_true, or_true, true_or, or_false, false_or, and_true, true_and, and_self, Nat.reduceLeDiff, am_ci, am_cr, am_cn0, Option.toList_some, Option.toList_none, List.cons_append, List.nil_append, am_s0, am_s1, am_s1r, am_s2, am_s2r, am_s3r, nI_add, am_u_ne, am_u_at, am_u_n1, am_u_n2, am_w_ne, pk_sub (show 1 ≤ r.length + 1 by omega), Nat.add_sub_cancel, not_true_eq_false, if_false]
            exact fin _ (by simp [pfV, pfR, opv])
          · simp only [am_lv_of, if_pos d35, if_pos d32, rX13_termOf_104, rX13_termOf_105, rX13_termOf_108, rX13_termOf_109, rX13_termOf_110, rX13_termOf_111, rX13_termOf_113, rX13_termOf_114, rX13_termOf_117, rX13_termOf_119, rX13_termOf_121, rX13_termOf_122, rX13_termOf_125, rX13_termOf_127, rX13_termOf_128, rX13_termOf_131, rX13_termOf_133, rX13_termOf_135, rX13_termOf_136, rX13_termOf_139, rX13_termOf_141, rX13_termOf_142, rX13_termOf_145, rX13_termOf_147, rX13_termOf_149, rX13_termOf_150, rX13_termOf_153, rX13_termOf_155, rX13_termOf_157, ro_69_1 hR, ro_69_3 hR, ro_69_5 hR, ro_69_6 hR, ro_69_7 hR, ro_69_8 hR, ro_69_9 hR, ro_69_21 hR, ro_69_22 hR, ro_69_23 hR, ro_69_24 hR, ro_69_25 hR, ro_69_26 hR, ro_69_27 hR, ro_69_28 hR, ro_69_29 hR, ro_69_30 hR, ro_69_31 hR, ro_69_32 hR, ro_69_33 hR, ro_69_34 hR, ro_69_35 hR, ro_69_36 hR, ro_69_38 hR, ro_69_39 hR, ro_69_40 hR, ro_69_41 hR, ro_69_42 hR, ro_69_44 hR, ro_69_45 hR, ro_69_46 hR, ro_69_48 hR, ro_69_49 hR, ro_69_51 hR, ro_69_52 hR, ro_69_55 hR, ro_69_56 hR, ro_69_57 hR, ro_69_58 hR, ro_69_59 hR, ro_69_61 hR, ro_69_62 hR, ro_69_63 hR, ro_69_64 hR, ro_69_65 hR, ro_69_66 hR, sh_69, sh_102, hl, hvw9, Nat.reduceLT, Nat.reduceAdd, Nat.reduceMul, ne_eq, Nat.reduceEqDiff, not_false_eq_true, or_true, true_or, or_false, false_or, and_true, true_and, and_self, Nat.reduceLeDiff, am_ci, am_cr, am_cn0, Option.toList_some, Option.toList_none, List.cons_append, List.nil_append, am_s0, am_s1, am_s1r, am_s2, am_s2r, am_s3r, nI_add, am_u_ne, am_u_at, am_u_n1, am_u_n2, am_w_ne, pk_sub (show 1 ≤ r.length + 1 by omega), Nat.add_sub_cancel, not_true_eq_false, if_false]
            exact fin _ (by simp [pfV, pfR, opv])
          · simp only [am_lv_of, if_pos d45, if_pos d42, if_pos d43, rX13_termOf_104, rX13_termOf_105, rX13_termOf_108, rX13_termOf_109, rX13_termOf_110, rX13_termOf_111, rX13_termOf_113, rX13_termOf_114, rX13_termOf_117, rX13_termOf_119, rX13_termOf_121, rX13_termOf_122, rX13_termOf_125, rX13_termOf_127, rX13_termOf_128, rX13_termOf_131, rX13_termOf_133, rX13_termOf_135, rX13_termOf_136, rX13_termOf_139, rX13_termOf_141, rX13_termOf_142, rX13_termOf_145, rX13_termOf_147, rX13_termOf_149, rX13_termOf_150, rX13_termOf_153, rX13_termOf_155, rX13_termOf_157, ro_69_1 hR, ro_69_3 hR, ro_69_5 hR, ro_69_6 hR, ro_69_7 hR, ro_69_8 hR, ro_69_9 hR, ro_69_21 hR, ro_69_22 hR, ro_69_23 hR, ro_69_24 hR, ro_69_25 hR, ro_69_26 hR, ro_69_27 hR, ro_69_28 hR, ro_69_29 hR, ro_69_30 hR, ro_69_31 hR, ro_69_32 hR, ro_69_33 hR, ro_69_34 hR, ro_69_35 hR, ro_69_36 hR, ro_69_38 hR, ro_69_39 hR, ro_69_40 hR, ro_69_41 hR, ro_69_42 hR, ro_69_44 hR, ro_69_45 hR, ro_69_46 hR, ro_69_48 hR, ro_69_49 hR, ro_69_51 hR, ro_69_52 hR, ro_69_55 hR, ro_69_56 hR, ro_69_57 hR, ro_69_58 hR, ro_69_59 hR, ro_69_61 hR, ro_69_62 hR, ro_69_63 hR, ro_69_64 hR, ro_69_65 hR, ro_69_66 hR, sh_69, sh_102, hl, hvw9, Nat.reduceLT, Nat.reduceAdd, Nat.reduceMul, ne_eq, Nat.reduceEqDiff, not_false_eq_true, or_true, true_or, or_false, false_or, and_true, true_and, and_self, Nat.reduceLeDiff, am_ci, am_cr, am_cn0, Option.toList_some, Option.toList_none, List.cons_append, List.nil_append, am_s0, am_s1, am_s1r, am_s2, am_s2r, am_s3r, nI_add, am_u_ne, am_u_at, am_u_n1, am_u_n2, am_w_ne, pk_sub (show 1 ≤ r.length + 1 by omega), Nat.add_sub_cancel, not_true_eq_false, if_false]
            exact fin _ (by simp [pfV, pfR, opv])
          · simp only [am_lv_of, not_true_eq_false, if_false, rX13_termOf_92, rX13_termOf_94, hl, hvw9, Nat.reduceLT, Nat.reduceAdd, Nat.reduceMul, ne_eq, Nat.reduceEqDiff, not_false_eq_true, or_true, true_or, or_false, false_or, and_true, true_and, and_self, Nat.reduceLeDiff, am_ci, am_cr, am_cn0, Option.toList_some, Option.toList_none, List.cons_append, List.nil_append, am_s0, am_s1, am_s1r, am_s2, am_s2r, am_s3r, nI_add, am_u_ne, am_u_at, am_u_n1, am_u_n2, am_w_ne]
            by_cases hy0 : y = 0
            · simp only [am_lv_of, hy0, not_true_eq_false, if_false, rX13_termOf_97, rX13_termOf_98, rX13_termOf_99_0, rX13_termOf_99_1, rX13_termOf_102, rX13_termOf_103, sh_69, hl, hvw9, Nat.reduceLT, Nat.reduceAdd, Nat.reduceMul, ne_eq, Nat.reduceEqDiff, not_false_eq_true, or_true, true_or, or_false, false_or, and_true, true_and, and_self, Nat.reduceLeDiff, am_ci, am_cr, am_cn0, Option.toList_some, Option.toList_none, List.cons_append, List.nil_append, am_s0, am_s1, am_s1r, am_s2, am_s2r, am_s3r, nI_add, am_u_ne, am_u_at, am_u_n1, am_u_n2, am_w_ne, hn]
              have h := hQ (am_u I 69 50 (nI 1)) (am_ag.refl.u (Or.inr ⟨rfl, rfl⟩)) (by simp [pfV, pfR, hy0, am_u])
              simpa [pfV, pfR, hy0] using h
            · simp only [am_lv_of, if_pos hy0, if_pos d52, if_pos d53, if_pos d54, rX13_termOf_104, rX13_termOf_105, rX13_termOf_108, rX13_termOf_109, rX13_termOf_110, rX13_termOf_111, rX13_termOf_113, rX13_termOf_114, rX13_termOf_117, rX13_termOf_119, rX13_termOf_121, rX13_termOf_122, rX13_termOf_125, rX13_termOf_127, rX13_termOf_128, rX13_termOf_131, rX13_termOf_133, rX13_termOf_135, rX13_termOf_136, rX13_termOf_139, rX13_termOf_141, rX13_termOf_142, rX13_termOf_145, rX13_termOf_147, rX13_termOf_149, rX13_termOf_150, rX13_termOf_153, rX13_termOf_155, rX13_termOf_157, ro_69_1 hR, ro_69_3 hR, ro_69_5 hR, ro_69_6 hR, ro_69_7 hR, ro_69_8 hR, ro_69_9 hR, ro_69_21 hR, ro_69_22 hR, ro_69_23 hR, ro_69_24 hR, ro_69_25 hR, ro_69_26 hR, ro_69_27 hR, ro_69_28 hR, ro_69_29 hR, ro_69_30 hR, ro_69_31 hR, ro_69_32 hR, ro_69_33 hR, ro_69_34 hR, ro_69_35 hR, ro_69_36 hR, ro_69_38 hR, ro_69_39 hR, ro_69_40 hR, ro_69_41 hR, ro_69_42 hR, ro_69_44 hR, ro_69_45 hR, ro_69_46 hR, ro_69_48 hR, ro_69_49 hR, ro_69_51 hR, ro_69_52 hR, ro_69_55 hR, ro_69_56 hR, ro_69_57 hR, ro_69_58 hR, ro_69_59 hR, ro_69_61 hR, ro_69_62 hR, ro_69_63 hR, ro_69_64 hR, ro_69_65 hR, ro_69_66 hR, sh_69, sh_102, hl, hvw9, Nat.reduceLT, Nat.reduceAdd, Nat.reduceMul, ne_eq, Nat.reduceEqDiff, not_false_eq_true, or_true, true_or, or_false, false_or, and_true, true_and, and_self, Nat.reduceLeDiff, am_ci, am_cr, am_cn0, Option.toList_some, Option.toList_none, List.cons_append, List.nil_append, am_s0, am_s1, am_s1r, am_s2, am_s2r, am_s3r, nI_add, am_u_ne, am_u_at, am_u_n1, am_u_n2, am_w_ne, pk_sub (show 1 ≤ r.length + 1 by omega), Nat.add_sub_cancel, hy0]
              exact fin _ (by simp [pfV, pfR, opv, hy0])
theorem c_termOf {a b : Nat} {p : pfx} {vars : Nat → Int32} (hR : am_OR R) (hN : 116 ≤ n) (hn : n ≤ 1000) (hb : b = a + p.length) (hb8 : b ≤ 840) (hw : pfW 400 p 0 = some 1) (hseg : rf_seg I a p) (hv : ∀ v, v < 9 → I 101 v = vars v)
    (hQ : ∀ I'', am_ag sc0 I I'' → I'' 69 50 = (if (pfV vars p []).1 = true then nI 1 else I 69 50) → Q (some (.int (pfV vars p []).2)) (n, I'', L, R)) : am_E X d mX13_termOf 0 [some (.ref 69), some (.int (nI a)), some (.int (nI b)), none, none, none, none, none] [] (n, I, L, R) Q := by
  have hl := am_lt hN
  have hvw9 := am_lw hN
  simp only [am_lv_of, rX13_termOf_0, rX13_termOf_1, rX13_termOf_2, rX13_termOf_3, hl, hvw9, Nat.reduceLT, Nat.reduceAdd, Nat.reduceMul, ne_eq, Nat.reduceEqDiff, not_false_eq_true, or_true, true_or, or_false, false_or, and_true, true_and, and_self, Nat.reduceLeDiff, am_ci, am_cr, am_cn0, Option.toList_some, Option.toList_none, List.cons_append, List.nil_append, am_s0, am_s1, am_s1r, am_s2, am_s2r, am_s3r, nI_add, am_u_ne, am_u_at, am_u_n1, am_u_n2, am_w_ne]
  exact l_termOf hR hN hn vars p a b [] I none none none am_cn0 am_cn0 hb hb8 (by simp) hw hseg hv (fun j x hx => by simp at hx) hQ
end RFC
