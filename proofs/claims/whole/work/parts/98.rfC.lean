--! 98
/-! TEXTS: the reference reads an E, level by level -/
def sft (W : List Nat) : Prop := W = [] ∨ ∃ w W1, W = w :: W1 ∧ (w = 6 ∨ w = 8 ∨ w = 9)
def hrd (W : List Nat) : Prop := W = [] ∨ ∃ W1, W = 6 :: W1
def lsE : am_LS := [some (.ref 69), some (.int (nI 0)), some (.int (nI 1))]
/-- what reading a unit, a product, a sum keeps to: from A (23) to B (96); S waits above W -/
def uRC (X : am_X) (n : Nat) (L : Nat → Nat → Int64) (R : Nat → Nat → Option Nat) (x : txt) (pt D room : Nat) (f : Nat → ER (Nat × pfx)) (okW0 : List Nat → Prop) (op : Nat → Prop) (mx lv : Nat) : Prop := ∀ (t c : Nat) (W : List Nat) (J : Nat → Nat → Int32) (Q : Option Value → am_M → Prop), stR J L x pt t W c → okW0 W → nopn W = 6 - lv → W.length + room ≤ 60 →
  (∀ e, f t = .inl e → ∀ J', am_ag (erP pt) J J' → ddR J' x e → Q none (n, J', L, R)) →
  (∀ t' p, f t = .inr (t', p) → ∀ J' S e, p = e ++ pops S → (∀ w, w ∈ S → op w) → S.length ≤ mx → am_ag (erP pt) J J' → stR J' L x pt t' (S ++ W) (c + e.length) → rf_seg J' c e → (∀ k j, k = 98 ∨ k = 99 → j < c → J' k j = J k j) → am_E X D mX13_expression 96 lsE [] (n, J', L, R) Q) →
  am_E X D mX13_expression 23 lsE [] (n, J, L, R) Q
section FC
variable {X : am_X} {d n : Nat} {I : Nat → Nat → Int32} {L : Nat → Nat → Int64} {R : Nat → Nat → Option Nat} {Q : Option Value → am_M → Prop} {x : txt}
theorem pops_app {S T : List Nat} : pops (S ++ T) = pops S ++ pops T := by unfold pops; simp
theorem l_prR {pt c lv : Nat} {W : List Nat} {u : Nat → ER (Nat × pfx)} {r0 : ER (Nat × pfx)} (hR : am_OR R) (hN : 116 ≤ n) (hn : n ≤ 1000) (hU : uRC X n L R x pt (d + 3) (3 * lv) u (fun _ => True) (fun _ => False) 0 lv) (hW : sft W) (hop : nopn W = 6 - lv) (hlen : W.length + (3 * lv + 1) ≤ 60)
    (hE : ∀ e, r0 = .inl e → ∀ J', am_ag (erP pt) I J' → ddR J' x e → Q none (n, J', L, R))
    (hS : ∀ t' p, r0 = .inr (t', p) → ∀ J' S e, p = e ++ pops S → (∀ w, w ∈ S → w = 10 ∨ w = 15) → S.length ≤ 1 → am_ag (erP pt) I J' → stR J' L x pt t' (S ++ W) (c + e.length) → rf_seg J' c e → (∀ k j, k = 98 ∨ k = 99 → j < c → J' k j = I k j) → am_E X (d + 3) mX13_expression 96 lsE [] (n, J', L, R) Q) :
    ∀ (f t : Nat) (S : List Nat) (e : pfx) (J : Nat → Nat → Int32), (∀ w, w ∈ S → w = 10 ∨ w = 15) → S.length ≤ 1 → am_ag (erP pt) I J → stR J L x pt t (S ++ W) (c + e.length) → rf_seg J c e → (∀ k j, k = 98 ∨ k = 99 → j < c → J k j = I k j) → opL x u mulOp f t (e ++ pops S) = r0 → am_E X (d + 3) mX13_expression 96 lsE [] (n, J, L, R) Q := by
  intro f
  induction f with
  | zero =>
    intro t S e J hSo hS1 hJ T hs ho he
    exact hS t _ he.symm J S e rfl hSo hS1 hJ T hs ho
  | succ f ih =>
    intro t S e J hSo hS1 hJ T hs ho he
    rw [opL] at he
    cases hm : mulOp (kK x t) with
    | none =>
      rw [hm] at he
      exact hS t _ he.symm J S e rfl hSo hS1 hJ T hs ho
    | some o =>
      have he : (erB (stE t) fun t1 => erB (u t1) fun a => opL x u mulOp f a.1 (e ++ pops S ++ (a.2 ++ [(o, 0)]))) = r0 := by rw [hm] at he; exact he
      have hk : (kK x t = 42 ∧ o = 4) ∨ (kK x t = 47 ∧ o = 5) := by
        unfold mulOp at hm
        split at hm
        · next h => cases hm; exact Or.inl ⟨h, rfl⟩
        · split at hm
          · next h => cases hm; exact Or.inr ⟨h, rfl⟩
          · cases hm
      have hst : decide (kK x t = 42 ∨ kK x t = 47) = true := decide_eq_true (by omega)
      have hrk : rK (kK x t) = 10 ∨ rK (kK x t) = 15 := by
        rcases hk with ⟨h, -⟩ | ⟨h, -⟩
        · rw [h]; exact Or.inl rfl
        · rw [h]; exact Or.inr rfl
      have hopc : opc (rK (kK x t)) = o := by
        rcases hk with ⟨h, h'⟩ | ⟨h, h'⟩
        · rw [h, h']; rfl
        · rw [h, h']; rfl
      refine lB_op hR hN hn T (by omega) (by rw [List.length_append]; omega) (fun w hw => ?_) ?_ (fun e' he' J' g D => ?_) (fun hst' J' g T' qs qo => ?_)
      · have := hSo w hw
        refine ⟨by unfold okS; omega, by omega, fun _ => by omega⟩
      · rcases hW with rfl | ⟨w, W1, rfl, hw⟩
        · exact Or.inl rfl
        · refine Or.inr ⟨w, W1, rfl, ?_⟩
          rcases hw with h | h
          · exact Or.inl h
          · exact Or.inr ⟨hst, h⟩
      · rw [he'] at he
        exact hE e' he.symm J' (hJ.trans g) D
      · rw [hst', erB_inr] at he
        have hlp : (e ++ pops S).length = e.length + S.length := by rw [List.length_append, pops_len]
        refine hU (t + 1) (c + e.length + S.length) (rK (kK x t) :: W) J' _ T' trivial (by rw [nopn, if_neg (by omega)]; omega) (by rw [List.length_cons]; omega) (fun e' he' J2 g2 D => ?_) (fun t2 q hq J2 S2 e2 h1 h2 h3 g2 T2 qs2 qo2 => ?_)
        · rw [he'] at he
          exact hE e' he.symm J2 ((hJ.trans g).trans g2) D
        · have hS2 : S2 = [] := List.length_eq_zero_iff.mp (by omega)
          subst hS2
          have hqe : q = e2 := by rw [h1]; simp [pops]
          subst hqe
          rw [hq, erB_inr] at he
          have heq : e ++ pops S ++ (q ++ [(o, 0)]) = (e ++ pops S ++ q) ++ pops [rK (kK x t)] := by
            rw [← List.append_assoc]
            show _ = _ ++ [(opc (rK (kK x t)), 0)]
            rw [hopc]
          have he : opL x u mulOp f t2 (e ++ pops S ++ (q ++ [(o, 0)])) = r0 := he
          rw [heq] at he
          have hln : c + (e ++ pops S ++ q).length = c + e.length + S.length + q.length := by rw [List.length_append, hlp]; omega
          refine ih t2 [rK (kK x t)] (e ++ pops S ++ q) J2 (fun w hw => ?_) (by simp) ((hJ.trans g).trans g2) (by rw [hln]; exact T2) ?_ (fun k j hk hj => ?_) he
          · have : w = rK (kK x t) := by simpa using hw
            rw [this]; exact hrk
          · refine rf_seg_app (rf_seg_app (rf_seg_g hs (fun k j hk h1 h2 => ?_)) (rf_seg_g qs (fun k j hk h1 h2 => ?_))) (by rw [hlp, ← Nat.add_assoc]; exact qs2)
            · rw [qo2 k j hk (by omega), qo k j hk (by omega)]
            · rw [pops_len] at h2
              exact qo2 k j hk (by omega)
          · rw [qo2 k j hk (by omega), qo k j hk (by omega), ho k j hk hj]
theorem c_prR {pt lv : Nat} {u : Nat → ER (Nat × pfx)} (hR : am_OR R) (hN : 116 ≤ n) (hn : n ≤ 1000) (hU : uRC X n L R x pt (d + 3) (3 * lv) u (fun _ => True) (fun _ => False) 0 lv) : uRC X n L R x pt (d + 3) (3 * lv + 1) (prodP x u) sft (fun w => w = 10 ∨ w = 15) 1 lv := by
  intro t c W J Q T hW hop hlen hE hS
  refine hU t c W J _ T trivial hop (by omega) (fun e he J' g D => ?_) (fun t' p hp J' S e h1 h2 h3 g T' qs qo => ?_)
  · exact hE e (by unfold prodP; rw [he]; rfl) J' g D
  · have hS2 : S = [] := List.length_eq_zero_iff.mp (by omega)
    subst hS2
    have hpe : p = e := by rw [h1]; simp [pops]
    subst hpe
    refine l_prR (u := u) (c := c) (W := W) (r0 := prodP x u t) hR hN hn hU hW hop hlen hE hS 400 t' [] p J' (fun w hw => by cases hw) (by simp) g T' qs qo ?_
    unfold prodP
    rw [hp, erB_inr]
    simp [pops]
theorem l_smR {pt c lv : Nat} {W : List Nat} {u : Nat → ER (Nat × pfx)} {r0 : ER (Nat × pfx)} (hR : am_OR R) (hN : 116 ≤ n) (hn : n ≤ 1000) (hU : uRC X n L R x pt (d + 3) (3 * lv + 1) u sft (fun w => w = 10 ∨ w = 15) 1 lv) (hW : hrd W) (hop : nopn W = 6 - lv) (hlen : W.length + (3 * lv + 2) ≤ 60)
    (hE : ∀ e, r0 = .inl e → ∀ J', am_ag (erP pt) I J' → ddR J' x e → Q none (n, J', L, R))
    (hS : ∀ t' p, r0 = .inr (t', p) → ∀ J' S e, p = e ++ pops S → (∀ w, w ∈ S → okS w ∧ w ≠ 6) → S.length ≤ 2 → am_ag (erP pt) I J' → stR J' L x pt t' (S ++ W) (c + e.length) → rf_seg J' c e → (∀ k j, k = 98 ∨ k = 99 → j < c → J' k j = I k j) → am_E X (d + 3) mX13_expression 96 lsE [] (n, J', L, R) Q) :
    ∀ (f t : Nat) (S : List Nat) (e : pfx) (J : Nat → Nat → Int32), (∀ w, w ∈ S → okS w ∧ w ≠ 6) → S.length ≤ 2 → mulOp (kK x t) = none → (∀ t t' p, u t = .inr (t', p) → mulOp (kK x t') = none) → am_ag (erP pt) I J → stR J L x pt t (S ++ W) (c + e.length) → rf_seg J c e → (∀ k j, k = 98 ∨ k = 99 → j < c → J k j = I k j) → opL x u addOp f t (e ++ pops S) = r0 → am_E X (d + 3) mX13_expression 96 lsE [] (n, J, L, R) Q := by
  intro f
  induction f with
  | zero =>
    intro t S e J hSo hS1 _ _ hJ T hs ho he
    exact hS t _ he.symm J S e rfl hSo hS1 hJ T hs ho
  | succ f ih =>
    intro t S e J hSo hS1 hmul humul hJ T hs ho he
    rw [opL] at he
    cases hm : addOp (kK x t) with
    | none =>
      rw [hm] at he
      exact hS t _ he.symm J S e rfl hSo hS1 hJ T hs ho
    | some o =>
      have he : (erB (stE t) fun t1 => erB (u t1) fun a => opL x u addOp f a.1 (e ++ pops S ++ (a.2 ++ [(o, 0)]))) = r0 := by rw [hm] at he; exact he
      have hk : (kK x t = 43 ∧ o = 2) ∨ (kK x t = 45 ∧ o = 3) := by
        unfold addOp at hm
        split at hm
        · next h => cases hm; exact Or.inl ⟨h, rfl⟩
        · split at hm
          · next h => cases hm; exact Or.inr ⟨h, rfl⟩
          · cases hm
      have hst : decide (kK x t = 42 ∨ kK x t = 47) = false := decide_eq_false (by omega)
      have hrk : rK (kK x t) = 8 ∨ rK (kK x t) = 9 := by
        rcases hk with ⟨h, -⟩ | ⟨h, -⟩
        · rw [h]; exact Or.inl rfl
        · rw [h]; exact Or.inr rfl
      have hopc : opc (rK (kK x t)) = o := by
        rcases hk with ⟨h, h'⟩ | ⟨h, h'⟩
        · rw [h, h']; rfl
        · rw [h, h']; rfl
      refine lB_op hR hN hn T (by omega) (by rw [List.length_append]; omega) (fun w hw => ?_) ?_ (fun e' he' J' g D => ?_) (fun hst' J' g T' qs qo => ?_)
      · exact ⟨(hSo w hw).1, (hSo w hw).2, fun z => by rw [hst] at z; cases z⟩
      · rcases hW with rfl | ⟨W1, rfl⟩
        · exact Or.inl rfl
        · exact Or.inr ⟨6, W1, rfl, Or.inl rfl⟩
      · rw [he'] at he
        exact hE e' he.symm J' (hJ.trans g) D
      · rw [hst', erB_inr] at he
        have hlp : (e ++ pops S).length = e.length + S.length := by rw [List.length_append, pops_len]
        refine hU (t + 1) (c + e.length + S.length) (rK (kK x t) :: W) J' _ T' (Or.inr ⟨_, W, rfl, Or.inr hrk⟩) (by rw [nopn, if_neg (by omega)]; omega) (by rw [List.length_cons]; omega) (fun e' he' J2 g2 D => ?_) (fun t2 q hq J2 S2 e2 h1 h2 h3 g2 T2 qs2 qo2 => ?_)
        · rw [he'] at he
          exact hE e' he.symm J2 ((hJ.trans g).trans g2) D
        · subst h1
          have hmt := humul _ _ _ hq
          rw [hq, erB_inr] at he
          have heq : e ++ pops S ++ ((e2 ++ pops S2) ++ [(o, 0)]) = (e ++ pops S ++ e2) ++ pops (S2 ++ [rK (kK x t)]) := by
            rw [pops_app]
            show _ = _ ++ (pops S2 ++ [(opc (rK (kK x t)), 0)])
            rw [hopc]
            simp only [List.append_assoc]
          have he : opL x u addOp f t2 (e ++ pops S ++ ((e2 ++ pops S2) ++ [(o, 0)])) = r0 := he
          rw [heq] at he
          have hln : c + (e ++ pops S ++ e2).length = c + e.length + S.length + e2.length := by rw [List.length_append, hlp]; omega
          have hSW : (S2 ++ [rK (kK x t)]) ++ W = S2 ++ rK (kK x t) :: W := by simp
          refine ih t2 (S2 ++ [rK (kK x t)]) (e ++ pops S ++ e2) J2 (fun w hw => ?_) (by rw [List.length_append, List.length_singleton]; omega) hmt humul ((hJ.trans g).trans g2) (by rw [hln, hSW]; exact T2) ?_ (fun k j hk hj => ?_) he
          · rcases List.mem_append.mp hw with hw | hw
            · have := h2 w hw
              exact ⟨by unfold okS; omega, by omega⟩
            · have : w = rK (kK x t) := by simpa using hw
              rw [this]
              exact ⟨by unfold okS; omega, by omega⟩
          · refine rf_seg_app (rf_seg_app (rf_seg_g hs (fun k j hk h1 h2 => ?_)) (rf_seg_g qs (fun k j hk h1 h2 => ?_))) (by rw [hlp, ← Nat.add_assoc]; exact qs2)
            · rw [qo2 k j hk (by omega), qo k j hk (by omega)]
            · rw [pops_len] at h2
              exact qo2 k j hk (by omega)
          · rw [qo2 k j hk (by omega), qo k j hk (by omega), ho k j hk hj]
theorem c_smR {pt lv need : Nat} {u : Nat → ER (Nat × pfx)} (hR : am_OR R) (hN : 116 ≤ n) (hn : n ≤ 1000) (hg : goodP x need u) (hU : uRC X n L R x pt (d + 3) (3 * lv + 1) (prodP x u) sft (fun w => w = 10 ∨ w = 15) 1 lv) : uRC X n L R x pt (d + 3) (3 * lv + 2) (sumP x u) hrd (fun w => okS w ∧ w ≠ 6) 2 lv := by
  intro t c W J Q T hW hop hlen hE hS
  have hsf : sft W := by
    rcases hW with rfl | ⟨W1, rfl⟩
    · exact Or.inl rfl
    · exact Or.inr ⟨6, W1, rfl, Or.inl rfl⟩
  refine hU t c W J _ T hsf hop (by omega) (fun e he J' g D => ?_) (fun t' p hp J' S e h1 h2 h3 g T' qs qo => ?_)
  · exact hE e (by unfold sumP; rw [he]; rfl) J' g D
  · refine l_smR (u := prodP x u) (c := c) (W := W) (r0 := sumP x u t) hR hN hn hU hW hop hlen hE hS 400 t' S e J' (fun w hw => ?_) (by omega) (prodP_ok hg _ _ _ hp).2 (fun t t' p h => (prodP_ok hg _ _ _ h).2) g T' qs qo ?_
    · have := h2 w hw
      exact ⟨by unfold okS; omega, by omega⟩
    · unfold sumP
      rw [hp, erB_inr, ← h1]
end FC
