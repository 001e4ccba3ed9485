--! 40
/-! THE CLASS: laws as steps -/
def cl_seg (I : Nat → Nat → Int32) (a : Nat) (p : pfx) : Prop := ∀ (i : Nat) (q : Nat × Nat), p[i]? = some q → I 10 (a + i) = nI (q.1 + 8 * q.2)
theorem cl_seg.tail {I : Nat → Nat → Int32} {a : Nat} {q : Nat × Nat} {p : pfx} (h : cl_seg I a (q :: p)) : I 10 a = nI (q.1 + 8 * q.2) ∧ cl_seg I (a + 1) p := by
  refine ⟨by have := h 0 q rfl; rwa [Nat.add_zero] at this, fun i x hx => ?_⟩
  have := h (i + 1) x (by simpa using hx)
  rwa [show a + (i + 1) = a + 1 + i by omega] at this
def ag12 (k _j : Nat) : Prop := k = 12
theorem ag12_u {I : Nat → Nat → Int32} {j : Nat} {x : Int32} : am_ag ag12 I (am_u I 12 j x) := am_ag.refl.u rfl
theorem cl_seg.mv {I I' : Nat → Nat → Int32} {a : Nat} {p : pfx} (h : cl_seg I a p) (g : am_ag ag12 I I') : cl_seg I' a p := fun i q hq => by
  rw [g 10 _ (by unfold ag12; omega)]; exact h i q hq
/-- the steps of branches from f on; the whole book has 'sz' steps -/
def cl_brs (I : Nat → Nat → Int32) (sz : Nat) (e : pfx) : Nat → lawB → Prop
  | f, [] => cl_seg I f e ∧ I 10 (f + e.length) = nI 7 ∧ f + e.length < sz ∧ pfW 32 e 0 = some 1
  | f, (t1, t2, e1) :: r => cl_seg I f t1 ∧ pfW 32 t1 0 = some 1 ∧ cl_seg I (f + t1.length) t2 ∧ pfW 31 t2 0 = some 1 ∧ I 10 (f + t1.length + t2.length) = nI (6 + 8 * (f + t1.length + t2.length + 1 + e1.length + 1)) ∧ cl_seg I (f + t1.length + t2.length + 1) e1 ∧ pfW 32 e1 0 = some 1 ∧ I 10 (f + t1.length + t2.length + 1 + e1.length) = nI 7 ∧ f + t1.length + t2.length + 1 + e1.length < sz ∧ cl_brs I sz e (f + t1.length + t2.length + 1 + e1.length + 1) r
theorem cl_brs_mv {I I' : Nat → Nat → Int32} {sz : Nat} {e : pfx} (g : am_ag ag12 I I') : ∀ {r : lawB} {f : Nat}, cl_brs I sz e f r → cl_brs I' sz e f r := by
  intro r
  induction r with
  | nil =>
    rintro f ⟨h1, h2, h3, h4⟩
    exact ⟨h1.mv g, by rw [g 10 _ (by unfold ag12; omega)]; exact h2, h3, h4⟩
  | cons q r ih =>
    obtain ⟨t1, t2, e1⟩ := q
    rintro f ⟨h1, h2, h3, h4, h5, h6, h7, h8, h9, h10⟩
    exact ⟨h1.mv g, h2, h3.mv g, h4, by rw [g 10 _ (by unfold ag12; omega)]; exact h5, h6.mv g, h7, by rw [g 10 _ (by unfold ag12; omega)]; exact h8, h9, ih h10⟩
theorem op_and {k v : Nat} (hk : k < 8) (hv : v ≤ 100000) : nI (k + 8 * v) &&& nI 7 = nI k := by
  rw [pk_andN (show k + 8 * v < 2 ^ 32 by omega) 3 (show (nI 7).toBitVec.toNat = 2 ^ 3 - 1 by decide)]
  congr 1
  omega
theorem op_shr {k v : Nat} (hk : k < 8) (hv : v ≤ 100000) : ((nI (k + 8 * v)).toUInt32 >>> ((nI 3).toUInt32 &&& Int32.toUInt32 31)).toInt32 = nI v := by
  rw [pk_ushrN (show k + 8 * v < 2 ^ 32 by omega) (nI 3) 3 (by decide)]
  congr 1
  omega
theorem pfW_up {c : Nat} : ∀ {p : pfx} {d d' : Nat}, pfW c p d = some d' → pfW (c + 1) p (d + 1) = some (d' + 1) := by
  intro p
  induction p with
  | nil => intro d d' h; simp [pfW] at h ⊢; exact h
  | cons q p ih =>
    intro d d' h
    obtain ⟨k, v⟩ := q
    rw [pfW] at h ⊢
    by_cases h0 : k = 0
    · rw [if_pos h0] at h ⊢
      split at h
      · next hh => rw [if_pos ⟨hh.1, by omega⟩]; exact ih h
      · cases h
    · rw [if_neg h0] at h ⊢
      by_cases h1 : k = 1
      · rw [if_pos h1] at h ⊢
        split at h
        · next hh => rw [if_pos ⟨hh.1, by omega⟩]; exact ih h
        · cases h
      · rw [if_neg h1] at h ⊢
        split at h
        · next hh =>
          rw [if_pos ⟨hh.1, by omega, hh.2.2⟩]
          have := ih h
          rwa [show d - 1 + 1 = d + 1 - 1 by omega] at this
        · cases h
theorem pfR_up {vars : Nat → Int32} {c : Nat} {base : List Int32} : ∀ {p : pfx} {s : List Int32} {d' : Nat}, pfW c p s.length = some d' → pfR vars p (s ++ base) = (pfR vars p s).map (· ++ base) := by
  intro p
  induction p with
  | nil => intro s d' h; rfl
  | cons q p ih =>
    intro s d' h
    obtain ⟨k, v⟩ := q
    rw [pfW] at h
    by_cases h0 : k = 0
    · rw [if_pos h0] at h
      subst h0
      split at h
      · exact ih (s := nI v :: s) h
      · cases h
    · rw [if_neg h0] at h
      by_cases h1 : k = 1
      · rw [if_pos h1] at h
        subst h1
        split at h
        · exact ih (s := vars v :: s) h
        · cases h
      · rw [if_neg h1] at h
        split at h
        · next hh =>
          match s, hh.2.1, h with
          | y :: x :: r, _, h =>
            rw [List.cons_append, List.cons_append, pfR, pfR, if_neg h0, if_neg h1, if_neg h0, if_neg h1]
            by_cases hz : k = 5 ∧ y = 0
            · simp [hz]
            · simp only [if_neg hz]
              exact ih (s := opv k x y :: r) (by simpa using h)
        · cases h
section CLC
variable {X : am_X} {d n : Nat} {I : Nat → Nat → Int32} {L : Nat → Nat → Int64} {R : Nat → Nat → Option Nat} {Q : Option Value → am_M → Prop}
theorem c_joined {k : Nat} {a b : Int32} (hk : k = 2 ∨ k = 3 ∨ k = 4 ∨ k = 5) (hb : ¬ (k = 5 ∧ b = 0)) : am_E X d mX1_joined 0 [some (.int (nI k)), some (.int a), some (.int b)] [] (n, I, L, R) Q ↔ Q (some (.int (opv k a b))) (n, I, L, R) := by
  rcases hk with rfl | rfl | rfl | rfl
  · simp only [am_lv_of, rX1_joined_0, rX1_joined_1_c2, rX1_joined_28, rX1_joined_29, rX1_joined_30, rX1_joined_31, opv, if_true]
  · simp only [am_lv_of, rX1_joined_0, rX1_joined_1_c3, rX1_joined_32, rX1_joined_33, rX1_joined_34, rX1_joined_35, opv, if_true, Nat.reduceEqDiff, if_false]
  · simp only [am_lv_of, rX1_joined_0, rX1_joined_1_c4, rX1_joined_36, rX1_joined_37, rX1_joined_38, rX1_joined_39, opv, if_true, Nat.reduceEqDiff, if_false]
  · have hb0 : ¬ b = 0 := fun z => hb ⟨rfl, z⟩
    simp only [am_lv_of, rX1_joined_0, rX1_joined_1 (show (nI 5).toInt < 2 ∨ 4 < (nI 5).toInt by decide), rX1_joined_40, rX1_joined_41, rX1_joined_44, rX1_joined_45, rX1_joined_48, rX1_joined_49, rX1_joined_50, rX1_joined_51, opv, Nat.reduceEqDiff, if_false, hb0, not_false_eq_true, if_true]
set_option maxHeartbeats 1000000 in
/-- one stretch of steps -/
theorem l_val_seg {sz : Nat} {vars : Nat → Int32} {l1 : Option Value} (hR : am_OR R) (hN : 116 ≤ n) (hn : n ≤ 1000) (hsz : sz ≤ 406) : ∀ (p : pfx) (f dn : Nat) (stk : List Int32) (I : Nat → Nat → Int32) (l6 l7 : Option Value) (dp : Nat), am_nl l6 → dn ≤ f → f + p.length < sz → stk.length ≤ 32 → pfW 32 p stk.length = some dp → I 9 3 = nI sz → cl_seg I f p → (∀ v, v < 9 → I 33 v = vars v) → pil I 12 stk →
    (∀ stk' I' dn' l6' l7', pfR vars p stk = some stk' → am_nl l6' → stk'.length = dp → am_ag ag12 I I' → pil I' 12 stk' → dn' ≤ f + p.length → am_E X (d + 1) mX1_valueOf 28 [some (.ref 9), l1, some (.ref 33), some (.int (nI (f + p.length))), some (.int (nI stk'.length)), some (.int (nI dn')), l6', l7'] [] (n, I', L, R) Q) →
    (∀ I', pfR vars p stk = none → am_ag ag12 I I' → Q (some (.int (nI 0))) (n, I', L, R)) →
    am_E X (d + 1) mX1_valueOf 28 [some (.ref 9), l1, some (.ref 33), some (.int (nI f)), some (.int (nI stk.length)), some (.int (nI dn)), l6, l7] [] (n, I, L, R) Q := by
  have hl := am_lt hN
  have hvw9 := am_lw hN
  intro p
  induction p with
  | nil =>
    intro f dn stk I l6 l7 dp n6 hdn hf hs hw hz hseg hv hp hQ hZ
    have hdp : stk.length = dp := by simpa [pfW] using hw
    exact hQ stk I dn l6 l7 rfl n6 hdp am_ag.refl hp (by simpa using hdn)
  | cons q p ih =>
    intro f dn stk I l6 l7 dp n6 hdn hf hs hw hz hseg hv hp hQ hZ
    obtain ⟨k, v⟩ := q
    obtain ⟨hk, hseg'⟩ := hseg.tail
    have hk : I 10 f = nI (k + 8 * v) := hk
    have hf' : f + 1 + p.length < sz := by simp at hf; omega
    have elen : f + ((k, v) :: p).length = f + 1 + p.length := by simp; omega
    rw [elen] at hQ
    have c1 : ¬ nI sz ≤ nI dn := nI_ge (by omega) (by omega)
    have c2 : ¬ nI f < 0 := nI_pos (by omega)
    have c3 : ¬ nI sz ≤ nI f := nI_ge (by omega) (by omega)
    have hf4 : f < 406 := by omega
    have hkv : k ≤ 5 ∧ v ≤ 100000 := by
      rw [pfW] at hw
      split at hw
      · next h =>
        split at hw
        · next h2 => omega
        · cases hw
      · split at hw
        · next h =>
          split at hw
          · next h2 => omega
          · cases hw
        · split at hw
          · next h => omega
          · cases hw
    rw [rX1_valueOf_28]
    simp only [am_lv_of, rX1_valueOf_30, rX1_valueOf_31, rX1_valueOf_34, rX1_valueOf_37, rX1_valueOf_38, rX1_valueOf_41, rX1_valueOf_42, rX1_valueOf_43, rX1_valueOf_46, rX1_valueOf_49, rX1_valueOf_50, rX1_valueOf_53, rX1_valueOf_54, rX1_valueOf_55, rX1_valueOf_57, rX1_valueOf_58, rX1_valueOf_60, rX1_valueOf_61, rX1_valueOf_64, rX1_valueOf_65, rX1_valueOf_66, rX1_valueOf_67, rX1_valueOf_68, rX1_valueOf_70, ro_9_0 hR, ro_9_1 hR, ro_9_2 hR, sh_9, sh_10, hl, hvw9, Nat.reduceLT, Nat.reduceAdd, Nat.reduceMul, ne_eq, Nat.reduceEqDiff, not_false_eq_true, or_true, true_or, or_false, false_or, and_true, true_and, and_self, Nat.reduceLeDiff, am_ci, am_cr, am_cn0, Option.toList_some, Option.toList_none, List.cons_append, List.nil_append, am_s0, am_s1, am_s1r, am_s2, am_s2r, am_s3r, nI_add, am_u_ne, am_u_at, am_u_n1, am_u_n2, am_w_ne, hz, if_neg c1, if_neg c2, if_neg c3, hf4, hk, op_and (show k < 8 by omega) hkv.2, op_shr (show k < 8 by omega) hkv.2, n6]
    have hz' : ∀ x, (am_u I 12 stk.length x) 9 3 = nI sz := fun x => by rw [am_u_n1 (by omega)]; exact hz
    by_cases hk0 : k = 0
    · subst hk0
      have hw : stk.length < 32 ∧ pfW 32 p (stk.length + 1) = some dp := by
        rw [pfW, if_pos rfl] at hw
        split at hw
        · next h => exact ⟨h.2, hw⟩
        · cases hw
      have e0 : nI 0 = 0 := rfl
      have e1 : ¬ nI 0 = nI 1 := by decide
      have e2 : ¬ nI 32 ≤ nI stk.length := nI_ge hw.1 (by omega)
      have hlt := hw.1
      simp only [am_lv_of, rX1_valueOf_73, rX1_valueOf_75, rX1_valueOf_78, rX1_valueOf_80, rX1_valueOf_81, rX1_valueOf_84, rX1_valueOf_86, rX1_valueOf_87, rX1_valueOf_90, rX1_valueOf_91, rX1_valueOf_94, rX1_valueOf_96, rX1_valueOf_97, rX1_valueOf_100, rX1_valueOf_102, rX1_valueOf_103, rX1_valueOf_104, rX1_valueOf_107, rX1_valueOf_108, rX1_valueOf_109, rX1_valueOf_110, rX1_valueOf_113, rX1_valueOf_115, rX1_valueOf_117, rX1_valueOf_118, rX1_valueOf_121, rX1_valueOf_122, rX1_valueOf_124, rX1_valueOf_125, rX1_valueOf_128, rX1_valueOf_130, rX1_valueOf_131, rX1_valueOf_134, ro_9_0 hR, ro_9_1 hR, ro_9_2 hR, sh_9, sh_12, hl, hvw9, Nat.reduceLT, Nat.reduceAdd, Nat.reduceMul, ne_eq, Nat.reduceEqDiff, not_false_eq_true, or_true, true_or, or_false, false_or, and_true, true_and, and_self, Nat.reduceLeDiff, am_ci, am_cr, am_cn0, Option.toList_some, Option.toList_none, List.cons_append, List.nil_append, am_s0, am_s1, am_s1r, am_s2, am_s2r, am_s3r, nI_add, am_u_ne, am_u_at, am_u_n1, am_u_n2, am_w_ne, if_pos e0, if_neg e2, if_pos e1, hlt, hn]
      simp only [am_lv_of, rX1_valueOf_259, rX1_valueOf_262, hl, hvw9, Nat.reduceLT, Nat.reduceAdd, Nat.reduceMul, ne_eq, Nat.reduceEqDiff, not_false_eq_true, or_true, true_or, or_false, false_or, and_true, true_and, and_self, Nat.reduceLeDiff, am_ci, am_cr, am_cn0, Option.toList_some, Option.toList_none, List.cons_append, List.nil_append, am_s0, am_s1, am_s1r, am_s2, am_s2r, am_s3r, nI_add, am_u_ne, am_u_at, am_u_n1, am_u_n2, am_w_ne]
      refine ih (f + 1) (dn + 1) (nI v :: stk) _ _ _ dp am_ci (by omega) hf' (by simp; omega) hw.2 (hz' _) (hseg'.mv ag12_u) (fun z hzz => by rw [am_u_n1 (by omega)]; exact hv z hzz) hp.push (fun stk' I' dn' a6 a7 g1 g2 g3 g4 g5 g6 => hQ stk' I' dn' a6 a7 g1 g2 g3 (ag12_u.trans g4) g5 g6) (fun I' g1 g2 => hZ I' g1 (ag12_u.trans g2))
    · by_cases hk1 : k = 1
      · subst hk1
        have hw : v < 9 ∧ stk.length < 32 ∧ pfW 32 p (stk.length + 1) = some dp := by
          rw [pfW, if_neg (by decide), if_pos rfl] at hw
          split at hw
          · next h => exact ⟨h.1, h.2, hw⟩
          · cases hw
        have e0 : ¬ nI 1 = 0 := by decide
        have e2 : ¬ nI 32 ≤ nI stk.length := nI_ge hw.2.1 (by omega)
        have e3 : nI v < nI 9 := nI_lt hw.1 (by omega)
        have hlt := hw.2.1
        have hv9 := hw.1
        simp only [am_lv_of, rX1_valueOf_73, rX1_valueOf_75, rX1_valueOf_78, rX1_valueOf_80, rX1_valueOf_81, rX1_valueOf_84, rX1_valueOf_86, rX1_valueOf_87, rX1_valueOf_90, rX1_valueOf_91, rX1_valueOf_94, rX1_valueOf_96, rX1_valueOf_97, rX1_valueOf_100, rX1_valueOf_102, rX1_valueOf_103, rX1_valueOf_104, rX1_valueOf_107, rX1_valueOf_108, rX1_valueOf_109, rX1_valueOf_110, rX1_valueOf_113, rX1_valueOf_115, rX1_valueOf_117, rX1_valueOf_118, rX1_valueOf_121, rX1_valueOf_122, rX1_valueOf_124, rX1_valueOf_125, rX1_valueOf_128, rX1_valueOf_130, rX1_valueOf_131, rX1_valueOf_134, ro_9_0 hR, ro_9_1 hR, ro_9_2 hR, sh_9, sh_12, sh_33, hl, hvw9, Nat.reduceLT, Nat.reduceAdd, Nat.reduceMul, ne_eq, Nat.reduceEqDiff, not_false_eq_true, or_true, true_or, or_false, false_or, and_true, true_and, and_self, Nat.reduceLeDiff, am_ci, am_cr, am_cn0, Option.toList_some, Option.toList_none, List.cons_append, List.nil_append, am_s0, am_s1, am_s1r, am_s2, am_s2r, am_s3r, nI_add, am_u_ne, am_u_at, am_u_n1, am_u_n2, am_w_ne, if_neg e0, if_neg e2, not_true_eq_false, if_false, if_pos e3, hlt, hn, hv9, hv v hv9]
        simp only [am_lv_of, rX1_valueOf_259, rX1_valueOf_262, hl, hvw9, Nat.reduceLT, Nat.reduceAdd, Nat.reduceMul, ne_eq, Nat.reduceEqDiff, not_false_eq_true, or_true, true_or, or_false, false_or, and_true, true_and, and_self, Nat.reduceLeDiff, am_ci, am_cr, am_cn0, Option.toList_some, Option.toList_none, List.cons_append, List.nil_append, am_s0, am_s1, am_s1r, am_s2, am_s2r, am_s3r, nI_add, am_u_ne, am_u_at, am_u_n1, am_u_n2, am_w_ne]
        refine ih (f + 1) (dn + 1) (vars v :: stk) _ _ _ dp am_ci (by omega) hf' (by simp; omega) hw.2.2 (hz' _) (hseg'.mv ag12_u) (fun z hzz => by rw [am_u_n1 (by omega)]; exact hv z hzz) hp.push (fun stk' I' dn' a6 a7 g1 g2 g3 g4 g5 g6 => hQ stk' I' dn' a6 a7 g1 g2 g3 (ag12_u.trans g4) g5 g6) (fun I' g1 g2 => hZ I' g1 (ag12_u.trans g2))
      · have hw : 2 ≤ stk.length ∧ pfW 32 p (stk.length - 1) = some dp := by
          rw [pfW, if_neg hk0, if_neg hk1] at hw
          split at hw
          · next h => exact ⟨h.2.1, hw⟩
          · cases hw
        obtain ⟨hl2, hw⟩ := hw
        match stk, hl2, hp, hs, hw, hQ, hZ, hz' with
        | y :: x :: r, _, hp, hs, hw, hQ, hZ, hz' =>
          have hy : I 12 (r.length + 1) = y := by have := hp 0 y rfl; simpa using this
          have hx : I 12 r.length = x := by have := hp 1 x rfl; simpa using this
          have elen2 : (y :: x :: r).length = r.length + 1 + 1 := by simp
          have hr4 : r.length + 1 < 32 := by simp at hs; omega
          have hr3 : r.length < 32 := by omega
          have hw' : pfW 32 p (r.length + 1) = some dp := by
            rw [elen2] at hw
            simpa using hw
          have hk4 : k = 2 ∨ k = 3 ∨ k = 4 ∨ k = 5 := by omega
          have e0 : ¬ nI k = 0 := fun z => by have : nI k = nI 0 := z; have := (nI_eq (by omega) (by omega)).mp this; omega
          have e1 : ¬ nI k = nI 1 := fun z => by have := (nI_eq (by omega) (by omega)).mp z; omega
          have e7 : ¬ nI k = nI 7 := fun z => by have := (nI_eq (by omega) (by omega)).mp z; omega
          have e6 : ¬ nI k = nI 6 := fun z => by have := (nI_eq (by omega) (by omega)).mp z; omega
          have e2 : nI 2 ≤ nI (r.length + 1 + 1) := nI_le (by omega) (by omega)
          simp only [am_lv_of, elen2, rX1_valueOf_73, rX1_valueOf_75, rX1_valueOf_78, rX1_valueOf_80, rX1_valueOf_81, rX1_valueOf_137, rX1_valueOf_139, rX1_valueOf_141, rX1_valueOf_161, rX1_valueOf_163, rX1_valueOf_164, rX1_valueOf_169, rX1_valueOf_171, rX1_valueOf_173, rX1_valueOf_208, rX1_valueOf_211, rX1_valueOf_213, rX1_valueOf_214, hl, hvw9, Nat.reduceLT, Nat.reduceAdd, Nat.reduceMul, ne_eq, Nat.reduceEqDiff, not_false_eq_true, or_true, true_or, or_false, false_or, and_true, true_and, and_self, Nat.reduceLeDiff, am_ci, am_cr, am_cn0, Option.toList_some, Option.toList_none, List.cons_append, List.nil_append, am_s0, am_s1, am_s1r, am_s2, am_s2r, am_s3r, nI_add, am_u_ne, am_u_at, am_u_n1, am_u_n2, am_w_ne, if_neg e0, if_pos e1, if_pos e7, if_pos e2, if_pos e6, pk_m1]
          have go : ¬ (k = 5 ∧ y = 0) → am_E X (d + 1) mX1_valueOf 229 [some (.ref 9), l1, some (.ref 33), some (.int (nI (f + 1))), some (.int (nI (r.length + 1))), some (.int (nI dn)), some (.int (nI k)), some (.int (nI v))] [] (n, I, L, R) Q := by
            intro hb
            simp only [am_lv_of, rX1_valueOf_229, rX1_valueOf_230, rX1_valueOf_233, rX1_valueOf_235, rX1_valueOf_236, rX1_valueOf_237, rX1_valueOf_239, rX1_valueOf_240, rX1_valueOf_243, rX1_valueOf_245, rX1_valueOf_246, rX1_valueOf_247, rX1_valueOf_248, rX1_valueOf_249, rX1_valueOf_252, rX1_valueOf_254, rX1_valueOf_255, ro_9_0 hR, ro_9_1 hR, ro_9_2 hR, sh_9, sh_12, hl, hvw9, Nat.reduceLT, Nat.reduceAdd, Nat.reduceMul, ne_eq, Nat.reduceEqDiff, not_false_eq_true, or_true, true_or, or_false, false_or, and_true, true_and, and_self, Nat.reduceLeDiff, am_ci, am_cr, am_cn0, Option.toList_some, Option.toList_none, List.cons_append, List.nil_append, am_s0, am_s1, am_s1r, am_s2, am_s2r, am_s3r, nI_add, am_u_ne, am_u_at, am_u_n1, am_u_n2, am_w_ne, pk_sub (show 1 ≤ r.length + 1 by omega), Nat.add_sub_cancel, hr3, hr4, hx, hy, c_joined hk4 hb]
            simp only [am_lv_of, rX1_valueOf_258, rX1_valueOf_259, rX1_valueOf_262, sh_12, hl, hvw9, Nat.reduceLT, Nat.reduceAdd, Nat.reduceMul, ne_eq, Nat.reduceEqDiff, not_false_eq_true, or_true, true_or, or_false, false_or, and_true, true_and, and_self, Nat.reduceLeDiff, am_ci, am_cr, am_cn0, Option.toList_some, Option.toList_none, List.cons_append, List.nil_append, am_s0, am_s1, am_s1r, am_s2, am_s2r, am_s3r, nI_add, am_u_ne, am_u_at, am_u_n1, am_u_n2, am_w_ne, hr3, hn]
            have e : pfR vars ((k, v) :: p) (y :: x :: r) = pfR vars p (opv k x y :: r) := by
              rw [pfR, if_neg hk0, if_neg hk1]
              simp only [if_neg hb]
            rw [e] at hQ hZ
            refine ih (f + 1) (dn + 1) (opv k x y :: r) _ _ _ dp am_ci (by omega) hf' (by simp; omega) hw' (by rw [am_u_n1 (by omega)]; exact hz) (hseg'.mv ag12_u) (fun z hzz => by rw [am_u_n1 (by omega)]; exact hv z hzz) hp.op (fun stk' I' dn' a6 a7 g1 g2 g3 g4 g5 g6 => hQ stk' I' dn' a6 a7 g1 g2 g3 (ag12_u.trans g4) g5 g6) (fun I' g1 g2 => hZ I' g1 (ag12_u.trans g2))
          by_cases hk5 : k = 5
          · have e5 : nI k = nI 5 := by rw [hk5]
            simp only [am_lv_of, e5, not_true_eq_false, if_false, rX1_valueOf_217, rX1_valueOf_218, rX1_valueOf_221, rX1_valueOf_223, rX1_valueOf_224, ro_9_0 hR, ro_9_1 hR, ro_9_2 hR, sh_9, sh_12, hl, hvw9, Nat.reduceLT, Nat.reduceAdd, Nat.reduceMul, ne_eq, Nat.reduceEqDiff, not_false_eq_true, or_true, true_or, or_false, false_or, and_true, true_and, and_self, Nat.reduceLeDiff, am_ci, am_cr, am_cn0, Option.toList_some, Option.toList_none, List.cons_append, List.nil_append, am_s0, am_s1, am_s1r, am_s2, am_s2r, am_s3r, nI_add, am_u_ne, am_u_at, am_u_n1, am_u_n2, am_w_ne, hr4, hy]
            rw [← e5]
            by_cases hy0 : y = 0
            · simp only [am_lv_of, hy0, not_true_eq_false, if_false, rX1_valueOf_227, rX1_valueOf_228, hl, hvw9, Nat.reduceLT, Nat.reduceAdd, Nat.reduceMul, ne_eq, Nat.reduceEqDiff, not_false_eq_true, or_true, true_or, or_false, false_or, and_true, true_and, and_self, Nat.reduceLeDiff, am_ci, am_cr, am_cn0, Option.toList_some, Option.toList_none, List.cons_append, List.nil_append, am_s0, am_s1, am_s1r, am_s2, am_s2r, am_s3r, nI_add, am_u_ne, am_u_at, am_u_n1, am_u_n2, am_w_ne]
              exact hZ I (by rw [pfR, if_neg hk0, if_neg hk1]; simp [hk5, hy0]) am_ag.refl
            · simp only [if_pos hy0]
              exact go (fun z => hy0 z.2)
          · have e5 : ¬ nI k = nI 5 := fun z => by have := (nI_eq (by omega) (by omega)).mp z; omega
            simp only [if_pos e5]
            exact go (fun z => hk5 z.1)
/-- a term and its answer -/
theorem l_val_ans {sz f dn : Nat} {e : pfx} {vars : Nat → Int32} {l1 l6 l7 : Option Value} (hR : am_OR R) (hN : 116 ≤ n) (hn : n ≤ 1000) (hsz : sz ≤ 406) (n6 : am_nl l6) (hdn : dn ≤ f) (hf : f + e.length < sz) (hw : pfW 32 e 0 = some 1) (hz : I 9 3 = nI sz) (hseg : cl_seg I f e) (h7 : I 10 (f + e.length) = nI 7) (hv : ∀ v, v < 9 → I 33 v = vars v) (hQ : ∀ I', am_ag ag12 I I' → Q (some (.int (pfV vars e []).2)) (n, I', L, R)) : am_E X (d + 1) mX1_valueOf 28 [some (.ref 9), l1, some (.ref 33), some (.int (nI f)), some (.int (nI 0)), some (.int (nI dn)), l6, l7] [] (n, I, L, R) Q := by
  have hl := am_lt hN
  have hvw9 := am_lw hN
  refine l_val_seg hR hN hn hsz e f dn [] I l6 l7 1 n6 hdn hf (by simp) hw hz hseg hv (fun j x hx => by simp at hx) (fun stk' I' dn' a6 a7 g1 g2 g3 g4 g5 g6 => ?_) (fun I' g1 g2 => ?_)
  · match stk', g3, g1, g5 with
    | [x], _, g1, g5 =>
      have hx : I' 12 0 = x := by have := g5 0 x rfl; simpa using this
      have hz' : I' 9 3 = nI sz := by rw [g4 9 3 (by unfold ag12; omega)]; exact hz
      have h7' : I' 10 (f + e.length) = nI (7 + 8 * 0) := by rw [g4 10 _ (by unfold ag12; omega)]; exact h7
      have c1 : ¬ nI sz ≤ nI dn' := nI_ge (by omega) (by omega)
      have c2 : ¬ nI (f + e.length) < 0 := nI_pos (by omega)
      have c3 : ¬ nI sz ≤ nI (f + e.length) := nI_ge (by omega) (by omega)
      have hf4 : f + e.length < 406 := by omega
      have e0 : ¬ nI 7 = 0 := by decide
      have e1 : ¬ nI 7 = nI 1 := by decide
      have elen : [x].length = 1 := rfl
      simp only [am_lv_of, elen, rX1_valueOf_28, rX1_valueOf_30, rX1_valueOf_31, rX1_valueOf_34, rX1_valueOf_37, rX1_valueOf_38, rX1_valueOf_41, rX1_valueOf_42, rX1_valueOf_43, rX1_valueOf_46, rX1_valueOf_49, rX1_valueOf_50, rX1_valueOf_53, rX1_valueOf_54, rX1_valueOf_55, rX1_valueOf_57, rX1_valueOf_58, rX1_valueOf_60, rX1_valueOf_61, rX1_valueOf_64, rX1_valueOf_65, rX1_valueOf_66, rX1_valueOf_67, rX1_valueOf_68, rX1_valueOf_70, rX1_valueOf_73, rX1_valueOf_75, rX1_valueOf_78, rX1_valueOf_80, rX1_valueOf_81, ro_9_0 hR, ro_9_1 hR, ro_9_2 hR, sh_9, sh_10, hl, hvw9, Nat.reduceLT, Nat.reduceAdd, Nat.reduceMul, ne_eq, Nat.reduceEqDiff, not_false_eq_true, or_true, true_or, or_false, false_or, and_true, true_and, and_self, Nat.reduceLeDiff, am_ci, am_cr, am_cn0, Option.toList_some, Option.toList_none, List.cons_append, List.nil_append, am_s0, am_s1, am_s1r, am_s2, am_s2r, am_s3r, nI_add, am_u_ne, am_u_at, am_u_n1, am_u_n2, am_w_ne, hz', if_neg c1, if_neg c2, if_neg c3, hf4, h7', op_and (show 7 < 8 by omega) (show 0 ≤ 100000 by omega), op_shr (show 7 < 8 by omega) (show 0 ≤ 100000 by omega), g2, if_neg e0, if_pos e1]
      simp only [am_lv_of, rX1_valueOf_137, rX1_valueOf_139, rX1_valueOf_141, rX1_valueOf_144, rX1_valueOf_146, rX1_valueOf_147, rX1_valueOf_150, rX1_valueOf_151, rX1_valueOf_154, rX1_valueOf_155, rX1_valueOf_156, rX1_valueOf_159, rX1_valueOf_160, ro_9_0 hR, ro_9_1 hR, ro_9_2 hR, sh_9, sh_12, hl, hvw9, Nat.reduceLT, Nat.reduceAdd, Nat.reduceMul, ne_eq, Nat.reduceEqDiff, not_false_eq_true, or_true, true_or, or_false, false_or, and_true, true_and, and_self, Nat.reduceLeDiff, am_ci, am_cr, am_cn0, Option.toList_some, Option.toList_none, List.cons_append, List.nil_append, am_s0, am_s1, am_s1r, am_s2, am_s2r, am_s3r, nI_add, am_u_ne, am_u_at, am_u_n1, am_u_n2, am_w_ne, not_true_eq_false, if_false, hx]
      have := hQ I' g4
      unfold pfV at this
      rw [g1] at this
      exact this
  · have := hQ I' g2
    unfold pfV at this
    rw [g1] at this
    exact this
set_option maxHeartbeats 1000000 in
theorem l_val_brs {sz : Nat} {e : pfx} {vars : Nat → Int32} {l1 : Option Value} (hR : am_OR R) (hN : 116 ≤ n) (hn : n ≤ 1000) (hsz : sz ≤ 406) : ∀ (r : lawB) (f dn : Nat) (I : Nat → Nat → Int32) (l6 l7 : Option Value), am_nl l6 → dn ≤ f → cl_brs I sz e f r → I 9 3 = nI sz → (∀ v, v < 9 → I 33 v = vars v) → (∀ I', am_ag ag12 I I' → Q (some (.int (lawV vars e r))) (n, I', L, R)) → am_E X (d + 1) mX1_valueOf 28 [some (.ref 9), l1, some (.ref 33), some (.int (nI f)), some (.int (nI 0)), some (.int (nI dn)), l6, l7] [] (n, I, L, R) Q := by
  have hl := am_lt hN
  have hvw9 := am_lw hN
  intro r
  induction r with
  | nil =>
    intro f dn I l6 l7 n6 hdn hb hz hv hQ
    obtain ⟨h1, h2, h3, h4⟩ := hb
    exact l_val_ans hR hN hn hsz n6 hdn h3 h4 hz h1 h2 hv hQ
  | cons q r ih =>
    intro f dn I l6 l7 n6 hdn hb hz hv hQ
    obtain ⟨t1, t2, e1⟩ := q
    obtain ⟨h1, h2, h3, h4, h5, h6, h7, h8, h9, h10⟩ := hb
    have brk : ((pfV vars t1 []).1 = true ∨ (pfV vars t2 []).1 = true) → ∀ I', am_ag ag12 I I' → Q (some (.int (nI 0))) (n, I', L, R) := by
      intro hbk I' g
      have := hQ I' g
      rwa [lawV, if_pos hbk] at this
    refine l_val_seg hR hN hn hsz t1 f dn [] I l6 l7 1 n6 hdn (by omega) (by simp) h2 hz h1 hv (fun j x hx => by simp at hx) (fun stk1 I1 dn1 a6 a7 g1 g2 g3 g4 g5 g6 => ?_) (fun I' g1 g2 => brk (Or.inl (by unfold pfV; rw [g1])) I' g2)
    match stk1, g3, g1, g5 with
    | [x], _, g1, g5 =>
      have z1 : I1 9 3 = nI sz := by rw [g4 9 3 (by unfold ag12; omega)]; exact hz
      have v1 : ∀ v, v < 9 → I1 33 v = vars v := fun v h => by rw [g4 33 v (by unfold ag12; omega)]; exact hv v h
      have up := pfR_up (vars := vars) (base := [x]) (s := []) h4
      rw [List.nil_append] at up
      refine l_val_seg hR hN hn hsz t2 (f + t1.length) dn1 [x] I1 a6 a7 2 g2 g6 (by omega) (by simp) (pfW_up h4) z1 (h3.mv g4) v1 g5 (fun stk2 I2 dn2 b6 b7 k1 k2 k3 k4 k5 k6 => ?_) (fun I' k1 k2 => ?_)
      · rw [up] at k1
        have g42 := g4.trans k4
        cases hr2 : pfR vars t2 [] with
        | none => rw [hr2] at k1; cases k1
        | some s2 =>
          rw [hr2] at k1
          have ks : s2 ++ [x] = stk2 := Option.some.inj k1
          have ls : s2.length = 1 := by
            have := congrArg List.length ks
            simp at this
            omega
          match s2, ls, ks, hr2 with
          | [y], _, ks, hr2 =>
            have ks : stk2 = [y, x] := ks.symm
            subst ks
            have hy : I2 12 1 = y := by have := k5 0 y rfl; simpa using this
            have hx : I2 12 0 = x := by have := k5 1 x rfl; simpa using this
            have z2 : I2 9 3 = nI sz := by rw [g42 9 3 (by unfold ag12; omega)]; exact hz
            have v2 : ∀ v, v < 9 → I2 33 v = vars v := fun v h => by rw [g42 33 v (by unfold ag12; omega)]; exact hv v h
            have s5 : I2 10 (f + t1.length + t2.length) = nI (6 + 8 * (f + t1.length + t2.length + 1 + e1.length + 1)) := by rw [g42 10 _ (by unfold ag12; omega)]; exact h5
            have c1 : ¬ nI sz ≤ nI dn2 := nI_ge (by omega) (by omega)
            have c2 : ¬ nI (f + t1.length + t2.length) < 0 := nI_pos (by omega)
            have c3 : ¬ nI sz ≤ nI (f + t1.length + t2.length) := nI_ge (by omega) (by omega)
            have hf4 : f + t1.length + t2.length < 406 := by omega
            have e0 : ¬ nI 6 = 0 := by decide
            have e1' : ¬ nI 6 = nI 1 := by decide
            have e7 : ¬ nI 6 = nI 7 := by decide
            have e2 : nI 2 ≤ nI 2 := by decide
            have em : nI 2 + (-2) = nI 0 := by decide
            have elen : [y, x].length = 2 := rfl
            have p1 : (pfV vars t1 []) = (false, x) := by unfold pfV; rw [g1]
            have p2 : (pfV vars t2 []) = (false, y) := by unfold pfV; rw [hr2]
            rw [lawV, if_neg (by rw [p1, p2]; simp), p1, p2] at hQ
            simp only [am_lv_of, elen, rX1_valueOf_28, rX1_valueOf_30, rX1_valueOf_31, rX1_valueOf_34, rX1_valueOf_37, rX1_valueOf_38, rX1_valueOf_41, rX1_valueOf_42, rX1_valueOf_43, rX1_valueOf_46, rX1_valueOf_49, rX1_valueOf_50, rX1_valueOf_53, rX1_valueOf_54, rX1_valueOf_55, rX1_valueOf_57, rX1_valueOf_58, rX1_valueOf_60, rX1_valueOf_61, rX1_valueOf_64, rX1_valueOf_65, rX1_valueOf_66, rX1_valueOf_67, rX1_valueOf_68, rX1_valueOf_70, rX1_valueOf_73, rX1_valueOf_75, rX1_valueOf_78, rX1_valueOf_80, rX1_valueOf_81, ro_9_0 hR, ro_9_1 hR, ro_9_2 hR, sh_9, sh_10, hl, hvw9, Nat.reduceLT, Nat.reduceAdd, Nat.reduceMul, ne_eq, Nat.reduceEqDiff, not_false_eq_true, or_true, true_or, or_false, false_or, and_true, true_and, and_self, Nat.reduceLeDiff, am_ci, am_cr, am_cn0, Option.toList_some, Option.toList_none, List.cons_append, List.nil_append, am_s0, am_s1, am_s1r, am_s2, am_s2r, am_s3r, nI_add, am_u_ne, am_u_at, am_u_n1, am_u_n2, am_w_ne, z2, if_neg c1, if_neg c2, if_neg c3, hf4, s5, op_and (show 6 < 8 by omega) (show f + t1.length + t2.length + 1 + e1.length + 1 ≤ 100000 by omega), op_shr (show 6 < 8 by omega) (show f + t1.length + t2.length + 1 + e1.length + 1 ≤ 100000 by omega), k2, if_neg e0, if_pos e1']
            simp only [am_lv_of, rX1_valueOf_137, rX1_valueOf_139, rX1_valueOf_141, rX1_valueOf_161, rX1_valueOf_163, rX1_valueOf_164, rX1_valueOf_169, rX1_valueOf_171, rX1_valueOf_173, rX1_valueOf_176, rX1_valueOf_179, rX1_valueOf_180, rX1_valueOf_183, rX1_valueOf_185, rX1_valueOf_186, rX1_valueOf_187, rX1_valueOf_190, rX1_valueOf_192, rX1_valueOf_193, rX1_valueOf_194, rX1_valueOf_195, ro_9_0 hR, ro_9_1 hR, ro_9_2 hR, sh_9, sh_12, hl, hvw9, Nat.reduceLT, Nat.reduceAdd, Nat.reduceMul, ne_eq, Nat.reduceEqDiff, not_false_eq_true, or_true, true_or, or_false, false_or, and_true, true_and, and_self, Nat.reduceLeDiff, am_ci, am_cr, am_cn0, Option.toList_some, Option.toList_none, List.cons_append, List.nil_append, am_s0, am_s1, am_s1r, am_s2, am_s2r, am_s3r, nI_add, am_u_ne, am_u_at, am_u_n1, am_u_n2, am_w_ne, if_pos e7, if_pos e2, not_true_eq_false, if_false, em, hx, hy]
            by_cases hxy : x < y
            · have hn2 : ¬ y ≤ x := Int32.not_le.mpr hxy
              rw [if_pos hxy] at hQ
              simp only [am_lv_of, if_neg hn2, rX1_valueOf_198, rX1_valueOf_199, rX1_valueOf_202, rX1_valueOf_204, rX1_valueOf_205, rX1_valueOf_259, rX1_valueOf_262, hl, hvw9, Nat.reduceLT, Nat.reduceAdd, Nat.reduceMul, ne_eq, Nat.reduceEqDiff, not_false_eq_true, or_true, true_or, or_false, false_or, and_true, true_and, and_self, Nat.reduceLeDiff, am_ci, am_cr, am_cn0, Option.toList_some, Option.toList_none, List.cons_append, List.nil_append, am_s0, am_s1, am_s1r, am_s2, am_s2r, am_s3r, nI_add, am_u_ne, am_u_at, am_u_n1, am_u_n2, am_w_ne]
              exact l_val_ans hR hN hn hsz am_ci (by omega) h9 h7 z2 (h6.mv g42) (by rw [g42 10 _ (by unfold ag12; omega)]; exact h8) v2 (fun I' g => hQ I' (g42.trans g))
            · have hn2 : y ≤ x := Int32.not_lt.mp hxy
              rw [if_neg hxy] at hQ
              simp only [am_lv_of, if_pos hn2, rX1_valueOf_202, rX1_valueOf_204, rX1_valueOf_205, rX1_valueOf_259, rX1_valueOf_262, hl, hvw9, Nat.reduceLT, Nat.reduceAdd, Nat.reduceMul, ne_eq, Nat.reduceEqDiff, not_false_eq_true, or_true, true_or, or_false, false_or, and_true, true_and, and_self, Nat.reduceLeDiff, am_ci, am_cr, am_cn0, Option.toList_some, Option.toList_none, List.cons_append, List.nil_append, am_s0, am_s1, am_s1r, am_s2, am_s2r, am_s3r, nI_add, am_u_ne, am_u_at, am_u_n1, am_u_n2, am_w_ne]
              exact ih _ _ I2 _ _ am_ci (by omega) (cl_brs_mv g42 h10) z2 v2 (fun I' g => hQ I' (g42.trans g))
      · refine brk (Or.inr ?_) I' (g4.trans k2)
        rw [up] at k1
        cases hr2 : pfR vars t2 [] with
        | none => unfold pfV; rw [hr2]
        | some s2 => rw [hr2] at k1; cases k1
end CLC
