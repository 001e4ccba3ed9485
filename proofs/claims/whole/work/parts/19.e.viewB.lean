/-! THE CELLS BY OTHER NUMBERS: rules for the rest -/
theorem am_pi_far {k : Nat} (h : 2003 ≤ k) : am_pi k = k := by
  have e1 : ¬ k < 17 := by omega
  have e2 : ¬ k < 2000 := by omega
  have e3 : ¬ k < 2003 := by omega
  unfold am_pi
  rw [if_neg e1, if_neg e2, if_neg e3]
section AMY
variable {X : am_X} {d : Nat} {μ ν : am_MM} {pc : Nat} {ls : am_LS} {st as : List Value} {M : am_M} {Q : Option Value → am_M → Prop} {n : Nat} {I : Nat → Nat → Int32} {L : Nat → Nat → Int64} {R : Nat → Nat → Option Nat} {k i j ix a N : Nat}
theorem am_q_spec (hd : decode μ.2.2.1 pc = .ok (.invokespecial ix, 3)) (hl : am_lk μ.1 ix = some (3, as.length, ν)) (hmx : ¬ ν.2.2.2.1 < (am_args (.ref a :: as)).length) (hst : am_sum st ≤ 8) : am_E X (d + 1) μ pc ls (as.reverse ++ .ref a :: st) (n, I, L, R) Q ↔ am_E X d ν 0 (am_en (.ref a :: as) ν.2.2.2.1) [] (n, I, L, R) (fun v M' => am_E X (d + 1) μ (pc + 3) ls (v.toList ++ st) M' Q) := by
  refine am_q_call (as := .ref a :: as) (fun Q' => ?_)
  rw [am_rev_P]
  exact am_r_spec (X := X) (ls := am_lP ls) (st := am_sP st) (n := n + 3) (I := am_cI I) (L := am_cI L) (R := am_cR R) (Q := Q') (a := am_pi a) (as := as.map am_vP) hd (by rw [List.length_map]; exact hl) (by have := am_argsP_len (.ref a :: as); rw [← this] at hmx; exact hmx) (by rw [am_sum_P]; exact hst)
theorem am_q_sp2 (hd : decode μ.2.2.1 pc = .ok (.invokespecial ix, 3)) (hl : am_lk μ.1 ix = some (2, as.length, ν)) (hmx : ¬ ν.2.2.2.1 < (am_args (.ref a :: as)).length) (hst : am_sum st ≤ 8) : am_E X (d + 1) μ pc ls (as.reverse ++ .ref a :: st) (n, I, L, R) Q ↔ am_E X d ν 0 (am_en (.ref a :: as) ν.2.2.2.1) [] (n, I, L, R) (fun v M' => am_E X (d + 1) μ (pc + 3) ls (v.toList ++ st) M' Q) := by
  refine am_q_call (as := .ref a :: as) (fun Q' => ?_)
  rw [am_rev_P]
  exact am_r_sp2 (X := X) (ls := am_lP ls) (st := am_sP st) (n := n + 3) (I := am_cI I) (L := am_cI L) (R := am_cR R) (Q := Q') (a := am_pi a) (as := as.map am_vP) hd (by rw [List.length_map]; exact hl) (by have := am_argsP_len (.ref a :: as); rw [← this] at hmx; exact hmx) (by rw [am_sum_P]; exact hst)
theorem am_str_far (h : am_str k = some i) : 2003 ≤ k ∧ 2003 ≤ k + 1 := by
  have := (am_str_some h).2
  have : k = 1000000 + 2 * i := this
  omega
theorem am_val_far (h : am_val k = some i) : 2003 ≤ k := by
  have := (am_val_some h).2
  have : k = 1000001 + 2 * i := this
  omega
theorem sr_gets (hd : decode μ.2.2.1 pc = .ok (.getstatic 38, 3)) (hc : μ.1 = 20) : am_E X d μ pc ls st M Q ↔ am_E X d μ (pc + 3) ls (.int 1 :: st) M Q := srF_gets (st := am_sP st) hd hc
theorem sr_getf (hd : decode μ.2.2.1 pc = .ok (.getstatic 1053, 3)) (hc : μ.1 = 20) : am_E X d μ pc ls st M Q ↔ am_E X d μ (pc + 3) ls ((if X.2 5000 = 0 then .null else .ref 3000000) :: st) M Q := by
  have h := srF_getf (X := X) (d := d) (ls := am_lP ls) (st := am_sP st) (M := am_mP M) (Q := am_qP Q) hd hc
  have e : am_vP (if X.2 5000 = 0 then .null else .ref 3000000) = (if X.2 5000 = 0 then .null else .ref 3000000) := by
    split
    · rfl
    · show Value.ref (am_pi 3000000) = _; rw [am_pi_far (by omega)]
  show am_F X d μ pc (am_lP ls) (am_sP st) (am_mP M) (am_qP Q) ↔ am_F X d μ (pc + 3) (am_lP ls) (am_vP (if X.2 5000 = 0 then .null else .ref 3000000) :: am_sP st) (am_mP M) (am_qP Q)
  rw [e]
  exact h
theorem sr_f9 (hd : decode μ.2.2.1 pc = .ok (.getfield 9, 3)) (hc : μ.1 = 20) (hk : am_str k = some i) : am_E X d μ pc ls (.ref k :: st) M Q ↔ am_E X d μ (pc + 3) ls (.ref (k + 1) :: st) M Q := by
  have h := srF_f9 (X := X) (d := d) (ls := am_lP ls) (st := am_sP st) (M := am_mP M) (Q := am_qP Q) hd hc hk
  show am_F X d μ pc (am_lP ls) (.ref (am_pi k) :: am_sP st) (am_mP M) (am_qP Q) ↔ am_F X d μ (pc + 3) (am_lP ls) (.ref (am_pi (k + 1)) :: am_sP st) (am_mP M) (am_qP Q)
  rw [am_pi_far (am_str_far hk).1, am_pi_far (am_str_far hk).2]
  exact h
theorem sr_f15 (hd : decode μ.2.2.1 pc = .ok (.getfield 15, 3)) (hc : μ.1 = 20) (hk : am_str k = some i) : am_E X d μ pc ls (.ref k :: st) M Q ↔ am_E X d μ (pc + 3) ls (.int 0 :: st) M Q := by
  have h := srF_f15 (X := X) (d := d) (ls := am_lP ls) (st := am_sP st) (M := am_mP M) (Q := am_qP Q) hd hc hk
  show am_F X d μ pc (am_lP ls) (.ref (am_pi k) :: am_sP st) (am_mP M) (am_qP Q) ↔ am_F X d μ (pc + 3) (am_lP ls) (.int 0 :: am_sP st) (am_mP M) (am_qP Q)
  rw [am_pi_far (am_str_far hk).1]
  exact h
theorem sr_len (hd : decode μ.2.2.1 pc = .ok (.arraylength, 1)) (hc : μ.1 = 20 ∨ μ.1 = 21) (hk : am_val k = some i) : am_E X d μ pc ls (.ref k :: st) M Q ↔ am_E X d μ (pc + 1) ls (.int (nI (am_len.getD i 0)) :: st) M Q := by
  have h := srF_len (X := X) (d := d) (ls := am_lP ls) (st := am_sP st) (M := am_mP M) (Q := am_qP Q) hd hc hk
  show am_F X d μ pc (am_lP ls) (.ref (am_pi k) :: am_sP st) (am_mP M) (am_qP Q) ↔ am_F X d μ (pc + 1) (am_lP ls) (.int (nI (am_len.getD i 0)) :: am_sP st) (am_mP M) (am_qP Q)
  rw [am_pi_far (am_val_far hk)]
  exact h
theorem sr_bal (hd : decode μ.2.2.1 pc = .ok (.baload, 1)) (hc : μ.1 = 21) (hk : am_val k = some i) (hi : i < 2) (hj : j < am_len.getD i 0) : am_E X d μ pc ls (.int (nI j) :: .ref k :: st) M Q ↔ am_E X d μ (pc + 1) ls (.int ((am_byt.getD i []).getD j 0) :: st) M Q := by
  have h := srF_bal (X := X) (d := d) (ls := am_lP ls) (st := am_sP st) (M := am_mP M) (Q := am_qP Q) hd hc hk hi hj
  show am_F X d μ pc (am_lP ls) (.int (nI j) :: .ref (am_pi k) :: am_sP st) (am_mP M) (am_qP Q) ↔ am_F X d μ (pc + 1) (am_lP ls) (.int ((am_byt.getD i []).getD j 0) :: am_sP st) (am_mP M) (am_qP Q)
  rw [am_pi_far (am_val_far hk)]
  exact h
theorem sr_virt (hd : decode μ.2.2.1 pc = .ok (.invokevirtual ix, 3)) (hl : am_lk μ.1 ix = some (0, as.length, ν)) (hmx : ¬ ν.2.2.2.1 < (am_args (.ref a :: as)).length) (hst : am_sum st ≤ 8) (hs : (am_str a).isSome = true) (ho : ν.2.1.cls = "java/lang/String") : am_E X (d + 1) μ pc ls (as.reverse ++ .ref a :: st) (n, I, L, R) Q ↔ am_E X d ν 0 (am_en (.ref a :: as) ν.2.2.2.1) [] (n, I, L, R) (fun v M' => am_E X (d + 1) μ (pc + 3) ls (v.toList ++ st) M' Q) := by
  obtain ⟨i, hi⟩ := Option.isSome_iff_exists.mp hs
  refine am_q_call (as := .ref a :: as) (fun Q' => ?_)
  rw [am_rev_P]
  exact srF_virt (X := X) (ls := am_lP ls) (st := am_sP st) (n := n + 3) (I := am_cI I) (L := am_cI L) (R := am_cR R) (Q := Q') (a := am_pi a) (as := as.map am_vP) hd (by rw [List.length_map]; exact hl) (by have := am_argsP_len (.ref a :: as); rw [← this] at hmx; exact hmx) (by rw [am_sum_P]; exact hst) (by rw [am_pi_far (am_str_far hi).1]; exact hs) ho
theorem lw_iald (hd : decode μ.2.2.1 pc = .ok (.iaload, 1)) (hc : μ.1 = 30) (hX : X.1 ≤ 3072) (hj : j < X.1) : am_E X d μ pc ls (.int (nI j) :: .ref 2000000 :: st) (n, I, L, R) Q ↔ am_E X d μ (pc + 1) ls (.int (X.2 j) :: st) (n, I, L, R) Q := by
  have h := lwF_iald (X := X) (d := d) (ls := am_lP ls) (st := am_sP st) (n := n + 3) (I := am_cI I) (L := am_cI L) (R := am_cR R) (Q := am_qP Q) hd hc hX hj
  show am_F X d μ pc (am_lP ls) (.int (nI j) :: .ref (am_pi 2000000) :: am_sP st) (n + 3, am_cI I, am_cI L, am_cR R) (am_qP Q) ↔ am_F X d μ (pc + 1) (am_lP ls) (.int (X.2 j) :: am_sP st) (n + 3, am_cI I, am_cI L, am_cR R) (am_qP Q)
  rw [am_pi_far (show 2003 ≤ 2000000 by omega)]
  exact h
theorem lw_alen (hd : decode μ.2.2.1 pc = .ok (.arraylength, 1)) (hc : μ.1 = 30) : am_E X d μ pc ls (.ref 2000000 :: st) (n, I, L, R) Q ↔ am_E X d μ (pc + 1) ls (.int (nI X.1) :: st) (n, I, L, R) Q := by
  have h := lwF_alen (X := X) (d := d) (ls := am_lP ls) (st := am_sP st) (n := n + 3) (I := am_cI I) (L := am_cI L) (R := am_cR R) (Q := am_qP Q) hd hc
  show am_F X d μ pc (am_lP ls) (.ref (am_pi 2000000) :: am_sP st) (n + 3, am_cI I, am_cI L, am_cR R) (am_qP Q) ↔ am_F X d μ (pc + 1) (am_lP ls) (.int (nI X.1) :: am_sP st) (n + 3, am_cI I, am_cI L, am_cR R) (am_qP Q)
  rw [am_pi_far (show 2003 ≤ 2000000 by omega)]
  exact h
theorem am_q_newT {x : Int32} {ty : ArrayType} (hd : decode μ.2.2.1 pc = .ok (.newarray ty, 2)) {kd : Nat} (hk : (newarray.typeOf ty = .int ∧ kd = 20) ∨ (newarray.typeOf ty = .byte ∧ kd = 21) ∨ (newarray.typeOf ty = .boolean ∧ kd = 22) ∨ (newarray.typeOf ty = .long ∧ kd = 23)) (h17 : 17 ≤ n) (hn : n + 1 ≤ 1000) (hs : am_SV n = (kd, j)) (hx : x = nI j) : am_E X d μ pc ls (.int x :: st) (n, I, L, R) Q ↔ am_E X d μ (pc + 2) ls (.ref n :: st) (am_make (n, I, L, R)) Q := by
  have e := am_pi_mid h17 (show n < 2000 by omega)
  have h := am_r_newT (X := X) (d := d) (ls := am_lP ls) (st := am_sP st) (n := n + 3) (I := am_cI I) (L := am_cI L) (R := am_cR R) (Q := am_qP Q) hd hk (by omega) (by rw [← e]; exact hs) hx
  show am_F X d μ pc (am_lP ls) (.int x :: am_sP st) (n + 3, am_cI I, am_cI L, am_cR R) (am_qP Q) ↔ am_F X d μ (pc + 2) (am_lP ls) (.ref (am_pi n) :: am_sP st) (am_mP (am_make (n, I, L, R))) (am_qP Q)
  rw [← am_make_P h17 (show n < 2000 by omega), e]
  exact h
theorem am_q_anew {x : Int32} (hd : decode μ.2.2.1 pc = .ok (.anewarray 9, 3)) (hc : μ.1 = 6) (h17 : 17 ≤ n) (hn : n + 1 ≤ 1000) (hs : am_SV n = (24, j)) (hx : x = nI j) : am_E X d μ pc ls (.int x :: st) (n, I, L, R) Q ↔ am_E X d μ (pc + 3) ls (.ref n :: st) (am_make (n, I, L, R)) Q := by
  have e := am_pi_mid h17 (show n < 2000 by omega)
  have h := am_r_anew (X := X) (d := d) (ls := am_lP ls) (st := am_sP st) (n := n + 3) (I := am_cI I) (L := am_cI L) (R := am_cR R) (Q := am_qP Q) hd hc (by omega) (by rw [← e]; exact hs) hx
  show am_F X d μ pc (am_lP ls) (.int x :: am_sP st) (n + 3, am_cI I, am_cI L, am_cR R) (am_qP Q) ↔ am_F X d μ (pc + 3) (am_lP ls) (.ref (am_pi n) :: am_sP st) (am_mP (am_make (n, I, L, R))) (am_qP Q)
  rw [← am_make_P h17 (show n < 2000 by omega), e]
  exact h
theorem am_mid_iff {b : Nat} (h17 : 17 ≤ n) (hb : n + 1 + N ≤ 1000) : (n + 3 ≤ b ∧ b < n + 3 + 1 + N) ↔ (n ≤ am_io b ∧ am_io b < n + 1 + N) := by
  constructor
  · rintro ⟨h1, h2⟩
    have e1 : ¬ b < 17 := by omega
    have e2 : ¬ b < 20 := by omega
    have e3 : b < 2003 := by omega
    have e : am_io b = b - 3 := by unfold am_io; rw [if_neg e1, if_neg e2, if_pos e3]
    rw [e]; omega
  · rintro ⟨h1, h2⟩
    have e := am_pi_mid (n := am_io b) (by omega) (by omega)
    rw [am_pi_io] at e
    omega
theorem am_many_P (h17 : 17 ≤ n) (hb : n + 1 + N ≤ 1000) : am_many (n + 3, am_cI I, am_cI L, am_cR R) N = am_mP (am_many (n, I, L, R) N) := by
  have e1 : (fun a b => if n + 3 ≤ a ∧ a < n + 3 + 1 + N then 0 else am_cI I a b) = am_cI (fun a b => if n ≤ a ∧ a < n + 1 + N then 0 else I a b) := by
    funext a b
    show _ = if n ≤ am_io a ∧ am_io a < n + 1 + N then 0 else I (am_io a) b
    by_cases h : n + 3 ≤ a ∧ a < n + 3 + 1 + N
    · rw [if_pos h, if_pos ((am_mid_iff h17 hb).mp h)]
    · rw [if_neg h, if_neg (fun z => h ((am_mid_iff h17 hb).mpr z))]; rfl
  have e2 : (fun a b => if n + 3 ≤ a ∧ a < n + 3 + 1 + N then 0 else am_cI L a b) = am_cI (fun a b => if n ≤ a ∧ a < n + 1 + N then 0 else L a b) := by
    funext a b
    show _ = if n ≤ am_io a ∧ am_io a < n + 1 + N then 0 else L (am_io a) b
    by_cases h : n + 3 ≤ a ∧ a < n + 3 + 1 + N
    · rw [if_pos h, if_pos ((am_mid_iff h17 hb).mp h)]
    · rw [if_neg h, if_neg (fun z => h ((am_mid_iff h17 hb).mpr z))]; rfl
  have e3 : (fun a b => if a = n + 3 then (if b < N then some (n + 3 + 1 + b) else none) else if n + 3 ≤ a ∧ a < n + 3 + 1 + N then none else am_cR R a b) = am_cR (fun a b => if a = n then (if b < N then some (n + 1 + b) else none) else if n ≤ a ∧ a < n + 1 + N then none else R a b) := by
    funext a b
    show _ = (if am_io a = n then (if b < N then some (n + 1 + b) else none) else if n ≤ am_io a ∧ am_io a < n + 1 + N then none else R (am_io a) b).map am_pi
    have en := am_pi_mid h17 (show n < 2000 by omega)
    by_cases h0 : a = n + 3
    · have h1 : am_io a = n := by rw [h0, ← en, am_io_pi]
      rw [if_pos h0, if_pos h1]
      by_cases hb2 : b < N
      · rw [if_pos hb2, if_pos hb2]
        show _ = some (am_pi (n + 1 + b))
        rw [am_pi_mid (by omega) (by omega)]
        exact congrArg some (by omega)
      · rw [if_neg hb2, if_neg hb2]; rfl
    · have h1 : ¬ am_io a = n := fun z => h0 (by rw [← en, ← z, am_pi_io])
      rw [if_neg h0, if_neg h1]
      by_cases h : n + 3 ≤ a ∧ a < n + 3 + 1 + N
      · rw [if_pos h, if_pos ((am_mid_iff h17 hb).mp h)]; rfl
      · rw [if_neg h, if_neg (fun z => h ((am_mid_iff h17 hb).mpr z))]; rfl
  have e0 : n + 3 + 1 + N = n + 1 + N + 3 := by omega
  show (n + 3 + 1 + N, (fun a b => if n + 3 ≤ a ∧ a < n + 3 + 1 + N then 0 else am_cI I a b), (fun a b => if n + 3 ≤ a ∧ a < n + 3 + 1 + N then 0 else am_cI L a b), (fun a b => if a = n + 3 then (if b < N then some (n + 3 + 1 + b) else none) else if n + 3 ≤ a ∧ a < n + 3 + 1 + N then none else am_cR R a b)) = (n + 1 + N + 3, am_cI (fun a b => if n ≤ a ∧ a < n + 1 + N then 0 else I a b), am_cI (fun a b => if n ≤ a ∧ a < n + 1 + N then 0 else L a b), am_cR (fun a b => if a = n then (if b < N then some (n + 1 + b) else none) else if n ≤ a ∧ a < n + 1 + N then none else R a b))
  rw [e1, e2, e3, e0]
theorem am_q_multi {q : Nat} (hd : decode μ.2.2.1 pc = .ok (.multianewarray ix 2, 4)) (hc : (μ.1 = 4 ∧ ix = 11) ∨ (μ.1 = 2 ∧ ix = 24)) (h17 : 17 ≤ n) (hn : n + 1 + N ≤ 1000) (hs : am_SV n = (25, N)) (hq : q ≤ 1000) (hr : (List.range N).all (fun j => am_SV (n + 1 + j) == (20, q)) = true) : am_E X d μ pc ls (.int (nI q) :: .int (nI N) :: st) (n, I, L, R) Q ↔ am_E X d μ (pc + 4) ls (.ref n :: st) (am_many (n, I, L, R) N) Q := by
  have e := am_pi_mid h17 (show n < 2000 by omega)
  have hr' : (List.range N).all (fun j => am_SH (n + 3 + 1 + j) == (20, q)) = true := by
    rw [List.all_eq_true] at hr ⊢
    intro j hj
    have h1 := hr j hj
    have h2 := List.mem_range.mp hj
    have e2 : am_SV (n + 1 + j) = am_SH (n + 3 + 1 + j) := by
      unfold am_SV
      rw [am_pi_mid (by omega) (by omega), show n + 1 + j + 3 = n + 3 + 1 + j by omega]
    rw [← e2]
    exact h1
  have h := am_r_multi (X := X) (d := d) (ls := am_lP ls) (st := am_sP st) (n := n + 3) (I := am_cI I) (L := am_cI L) (R := am_cR R) (Q := am_qP Q) hd hc (by omega) (by rw [← e]; exact hs) (by omega) hr'
  show am_F X d μ pc (am_lP ls) (.int (nI q) :: .int (nI N) :: am_sP st) (n + 3, am_cI I, am_cI L, am_cR R) (am_qP Q) ↔ am_F X d μ (pc + 4) (am_lP ls) (.ref (am_pi n) :: am_sP st) (am_mP (am_many (n, I, L, R) N)) (am_qP Q)
  rw [← am_many_P h17 hn, e]
  exact h
end AMY
