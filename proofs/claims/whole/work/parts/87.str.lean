--! 86
/-! THE TWO STRING CONSTANTS: length, charAt, indexOf -/
section SR
variable {X : am_X} {d : Nat} {μ : am_MM} {pc : Nat} {ls : am_LS} {st : List Value} {M : am_M} {Q : Option Value → am_M → Prop} {n : Nat} {I : Nat → Nat → Int32} {L : Nat → Nat → Int64} {R : Nat → Nat → Option Nat} {k i j ix : Nat}
theorem str_of (hi : i < 2) (hk : k = 1000000 + 2 * i) : am_str k = some i ∧ am_val (k + 1) = some i := by
  have : i = 0 ∨ i = 1 := by omega
  rcases this with rfl | rfl
  · subst hk; exact ⟨rfl, rfl⟩
  · subst hk; exact ⟨rfl, rfl⟩
theorem c_isLatin1 (hi : i < 2) (hk : k = 1000000 + 2 * i) : am_E X d mJ0_isLatin1_aae02 0 [some (.ref k)] [] (n, I, L, R) Q ↔ Q (some (.int (nI 1))) (n, I, L, R) := by
  obtain ⟨s1, s2⟩ := str_of hi hk
  have z1 : ¬ (1 : Int32) = 0 := by decide
  have z0 : ((0 : Int32) = 0) = True := eq_true rfl
  rw [sr_gets (μ := mJ0_isLatin1_aae02) dJ0_isLatin1_aae02_0 rfl]
  simp only [am_lv_of, Nat.reduceAdd, rJ0_isLatin1_aae02_3, if_neg z1, rJ0_isLatin1_aae02_6]
  rw [sr_f15 (μ := mJ0_isLatin1_aae02) dJ0_isLatin1_aae02_7 rfl s1]
  simp only [am_lv_of, Nat.reduceAdd, rJ0_isLatin1_aae02_10, z0, not_true_eq_false, if_false, rJ0_isLatin1_aae02_13, rJ0_isLatin1_aae02_14, rJ0_isLatin1_aae02_18_1]
theorem c_coder (hi : i < 2) (hk : k = 1000000 + 2 * i) : am_E X d mJ0_coder_7d493 0 [some (.ref k)] [] (n, I, L, R) Q ↔ Q (some (.int (nI 0))) (n, I, L, R) := by
  obtain ⟨s1, s2⟩ := str_of hi hk
  have z1 : ¬ (1 : Int32) = 0 := by decide
  rw [sr_gets (μ := mJ0_coder_7d493) dJ0_coder_7d493_0 rfl]
  simp only [am_lv_of, Nat.reduceAdd, rJ0_coder_7d493_3, if_neg z1, rJ0_coder_7d493_6]
  rw [sr_f15 (μ := mJ0_coder_7d493) dJ0_coder_7d493_7 rfl s1]
  simp only [am_lv_of, Nat.reduceAdd, rJ0_coder_7d493_10]
  rw [rJ0_coder_7d493_14 (by decide)]
  rfl
theorem c_strlen (hi : i < 2) (hk : k = 1000000 + 2 * i) : am_E X (d + 1) mJ0_length_8abf5 0 [some (.ref k)] [] (n, I, L, R) Q ↔ Q (some (.int (nI (am_len.getD i 0)))) (n, I, L, R) := by
  obtain ⟨s1, s2⟩ := str_of hi hk
  simp only [am_lv_of, Nat.reduceAdd, rJ0_length_8abf5_0]
  rw [sr_f9 (μ := mJ0_length_8abf5) dJ0_length_8abf5_1 rfl s1, sr_len (μ := mJ0_length_8abf5) dJ0_length_8abf5_4 (Or.inl rfl) s2]
  simp only [am_lv_of, Nat.reduceAdd, rJ0_length_8abf5_5]
  have h := sr_virt (X := X) (d := d) (n := n) (I := I) (L := L) (R := R) (Q := Q) (μ := mJ0_length_8abf5) (ls := [some (.ref k)]) (st := [.int (nI (am_len.getD i 0))]) (a := k) (as := []) dJ0_length_8abf5_6 lk_20_335 (Nat.not_lt.mpr (Nat.le_of_ble_eq_true rfl)) (Nat.le_of_ble_eq_true rfl) (by rw [s1]; rfl) rfl
  refine (Iff.trans h ?_)
  show am_E X d mJ0_coder_7d493 0 [some (.ref k)] [] (n, I, L, R) _ ↔ _
  rw [c_coder hi hk]
  simp only [am_lv_of, Nat.reduceAdd, Option.toList_some, List.cons_append, List.nil_append, rJ0_length_8abf5_9, rJ0_length_8abf5_10]
  have e : nI (am_len.getD i 0) >>> (nI 0 &&& 31) = nI (am_len.getD i 0) := by
    have : i = 0 ∨ i = 1 := by omega
    rcases this with rfl | rfl <;> decide
  rw [e]
/-! charAt -/
theorem dJ3_checkIndex_8e157_0 : decode cJ3_checkIndex_8e157 0 = .ok (.iload_n 0, 1) := by decide +kernel
theorem dJ3_checkIndex_8e157_1 : decode cJ3_checkIndex_8e157 1 = .ok (.ifCond .lt 8, 3) := by decide +kernel
theorem dJ3_checkIndex_8e157_4 : decode cJ3_checkIndex_8e157 4 = .ok (.iload_n 0, 1) := by decide +kernel
theorem dJ3_checkIndex_8e157_5 : decode cJ3_checkIndex_8e157 5 = .ok (.iload_n 1, 1) := by decide +kernel
theorem dJ3_checkIndex_8e157_6 : decode cJ3_checkIndex_8e157 6 = .ok (.if_icmp .lt 10, 3) := by decide +kernel
theorem dJ3_checkIndex_8e157_16 : decode cJ3_checkIndex_8e157 16 = .ok (.iload_n 0, 1) := by decide +kernel
theorem dJ3_checkIndex_8e157_17 : decode cJ3_checkIndex_8e157 17 = .ok (.ireturn, 1) := by decide +kernel
theorem c_checkIndex3 {a b : Int32} {l2 : Option Value} (h0 : ¬ a < 0) (h1 : a < b) : am_E X d mJ3_checkIndex_8e157 0 [some (.int a), some (.int b), l2] [] M Q ↔ Q (some (.int a)) M := by
  have e0 : am_E X d mJ3_checkIndex_8e157 0 [some (.int a), some (.int b), l2] [] M Q ↔ am_E X d mJ3_checkIndex_8e157 1 [some (.int a), some (.int b), l2] [.int a] M Q := am_E_nx (μ := mJ3_checkIndex_8e157) dJ3_checkIndex_8e157_0 rfl
  have e1 : am_E X d mJ3_checkIndex_8e157 1 [some (.int a), some (.int b), l2] [.int a] M Q ↔ am_E X d mJ3_checkIndex_8e157 4 [some (.int a), some (.int b), l2] [] M Q := am_E_nx (μ := mJ3_checkIndex_8e157) dJ3_checkIndex_8e157_1 (by simp [am_stp, am_pure, am_load, am_store, am_jump, am_jmp, am_cnd, am_sP, am_vP, h0])
  have e4 : am_E X d mJ3_checkIndex_8e157 4 [some (.int a), some (.int b), l2] [] M Q ↔ am_E X d mJ3_checkIndex_8e157 5 [some (.int a), some (.int b), l2] [.int a] M Q := am_E_nx (μ := mJ3_checkIndex_8e157) dJ3_checkIndex_8e157_4 rfl
  have e5 : am_E X d mJ3_checkIndex_8e157 5 [some (.int a), some (.int b), l2] [.int a] M Q ↔ am_E X d mJ3_checkIndex_8e157 6 [some (.int a), some (.int b), l2] [.int b, .int a] M Q := am_E_nx (μ := mJ3_checkIndex_8e157) dJ3_checkIndex_8e157_5 rfl
  have e6 : am_E X d mJ3_checkIndex_8e157 6 [some (.int a), some (.int b), l2] [.int b, .int a] M Q ↔ am_E X d mJ3_checkIndex_8e157 16 [some (.int a), some (.int b), l2] [] M Q := am_E_nx (μ := mJ3_checkIndex_8e157) dJ3_checkIndex_8e157_6 (by simp [am_stp, am_pure, am_load, am_store, am_jump, am_jmp, am_cnd, am_sP, am_vP, h1])
  have e16 : am_E X d mJ3_checkIndex_8e157 16 [some (.int a), some (.int b), l2] [] M Q ↔ am_E X d mJ3_checkIndex_8e157 17 [some (.int a), some (.int b), l2] [.int a] M Q := am_E_nx (μ := mJ3_checkIndex_8e157) dJ3_checkIndex_8e157_16 rfl
  rw [e0, e1, e4, e5, e6, e16]
  exact am_q_iret (μ := mJ3_checkIndex_8e157) dJ3_checkIndex_8e157_17 rfl rfl
theorem c_checkIndex0 {a b : Int32} (h0 : ¬ a < 0) (h1 : a < b) : am_E X (d + 1) mJ0_checkIndex_df160 0 [some (.int a), some (.int b)] [] (n, I, L, R) Q ↔ Q none (n, I, L, R) := by
  simp only [am_lv_of, Nat.reduceAdd, rJ0_checkIndex_df160_0, rJ0_checkIndex_df160_1]
  rw [sr_getf (μ := mJ0_checkIndex_df160) dJ0_checkIndex_df160_2 rfl]
  have h := am_q_stat (X := X) (d := d) (n := n) (I := I) (L := L) (R := R) (Q := Q) (μ := mJ0_checkIndex_df160) (ls := [some (.int a), some (.int b)]) (st := []) (as := [.int a, .int b, if X.2 5000 = 0 then .null else .ref 3000000]) dJ0_checkIndex_df160_5 lk_20_1059 (by split <;> exact Nat.not_lt.mpr (Nat.le_of_ble_eq_true rfl)) (by decide)
  refine Iff.trans h ?_
  have e : am_en [.int a, .int b, if X.2 5000 = 0 then .null else .ref 3000000] mJ3_checkIndex_8e157.2.2.2.1 = [some (.int a), some (.int b), some (if X.2 5000 = 0 then .null else .ref 3000000)] := by
    split <;> rfl
  rw [e, c_checkIndex3 h0 h1]
  simp only [am_lv_of, Nat.reduceAdd, Option.toList_some, List.cons_append, List.nil_append, rJ0_checkIndex_df160_8, rJ0_checkIndex_df160_9]
theorem am_byt_c : ∀ i, i < 2 → ∀ j, j < am_len.getD i 0 → ((am_byt.getD i []).getD j 0 &&& nI 255).toUInt32 % 65536 = ((am_byt.getD i []).getD j 0).toUInt32 ∧ narrow .char (.int ((am_byt.getD i []).getD j 0)) = .int ((am_byt.getD i []).getD j 0) := by decide +kernel
theorem c_charAt1 (hi : i < 2) (hk : k = 1000001 + 2 * i) (hj : j < am_len.getD i 0) : am_E X (d + 2) mJ1_charAt_3b067 0 [some (.ref k), some (.int (nI j))] [] (n, I, L, R) Q ↔ Q (some (.int ((am_byt.getD i []).getD j 0))) (n, I, L, R) := by
  obtain ⟨s1, s2⟩ := str_of (k := k - 1) hi (by omega)
  rw [show k - 1 + 1 = k by omega] at s2
  have hle := am_len_le i hi
  obtain ⟨b1, b2⟩ := am_byt_c i hi j hj
  simp only [am_lv_of, Nat.reduceAdd, rJ1_charAt_3b067_0, rJ1_charAt_3b067_1]
  rw [sr_len (μ := mJ1_charAt_3b067) dJ1_charAt_3b067_2 (Or.inr rfl) s2]
  simp only [am_lv_of, Nat.reduceAdd, rJ1_charAt_3b067_3, am_s0, c_checkIndex0 (nI_pos (show j < 2 ^ 31 by omega)) (nI_lt hj (by omega)), Option.toList_none, List.nil_append, rJ1_charAt_3b067_6, rJ1_charAt_3b067_7]
  rw [sr_bal (μ := mJ1_charAt_3b067) dJ1_charAt_3b067_8 rfl s2 hi hj]
  simp only [am_lv_of, Nat.reduceAdd, rJ1_charAt_3b067_9, rJ1_charAt_3b067_12, rJ1_charAt_3b067_13, b1]
  have e : ((am_byt.getD i []).getD j 0).toUInt32.toInt32 = (am_byt.getD i []).getD j 0 := Int32.toInt32_toUInt32 _
  rw [e, rJ1_charAt_3b067_14 b2]
theorem c_charAt0 (hi : i < 2) (hk : k = 1000000 + 2 * i) (hj : j < am_len.getD i 0) : am_E X (d + 3) mJ0_charAt_5068e 0 [some (.ref k), some (.int (nI j))] [] (n, I, L, R) Q ↔ Q (some (.int ((am_byt.getD i []).getD j 0))) (n, I, L, R) := by
  obtain ⟨s1, s2⟩ := str_of hi hk
  have z1 : ¬ nI 1 = 0 := by decide
  obtain ⟨b1, b2⟩ := am_byt_c i hi j hj
  simp only [am_lv_of, Nat.reduceAdd, rJ0_charAt_5068e_0]
  have h := sr_virt (X := X) (d := d + 2) (n := n) (I := I) (L := L) (R := R) (Q := Q) (μ := mJ0_charAt_5068e) (ls := [some (.ref k), some (.int (nI j))]) (st := []) (a := k) (as := []) dJ0_charAt_5068e_1 lk_20_492 (Nat.not_lt.mpr (Nat.le_of_ble_eq_true rfl)) (by decide) (by rw [s1]; rfl) rfl
  refine (Iff.trans h ?_)
  show am_E X (d + 2) mJ0_isLatin1_aae02 0 [some (.ref k)] [] (n, I, L, R) _ ↔ _
  rw [c_isLatin1 hi hk]
  simp only [am_lv_of, Nat.reduceAdd, Option.toList_some, List.cons_append, List.nil_append, rJ0_charAt_5068e_4, if_neg z1, rJ0_charAt_5068e_7]
  rw [sr_f9 (μ := mJ0_charAt_5068e) dJ0_charAt_5068e_8 rfl s1]
  simp only [am_lv_of, Nat.reduceAdd, rJ0_charAt_5068e_11, rJ0_charAt_5068e_12, am_s0, c_charAt1 hi (show k + 1 = 1000001 + 2 * i by omega) hj, Option.toList_some, List.cons_append, List.nil_append]
  rw [rJ0_charAt_5068e_15 b2]
/-! indexOf, in the second constant -/
def isSg (c : Nat) : Bool := decide (c = 59 ∨ c = 61 ∨ c = 43 ∨ c = 45 ∨ c = 42 ∨ c = 47 ∨ c = 60 ∨ c = 40 ∨ c = 41)
theorem isSg_byt : ∀ c, c < 256 → isSg c = (List.range 9).any (fun j => decide ((am_byt.getD 1 []).getD j 0 = (nI c).toInt8.toInt32)) := by decide +kernel
theorem l_ixChar {y : Int32} {l1 : Option Value} (hQ : ∀ r, (r < 0 ↔ ∀ j, j < 9 → ¬ (am_byt.getD 1 []).getD j 0 = y) → Q (some (.int r)) (n, I, L, R)) : ∀ (m j : Nat), j + m = 9 → (∀ q, q < j → ¬ (am_byt.getD 1 []).getD q 0 = y) → am_E X d mJ1_indexOfChar_4cfef 7 [some (.ref 1000003), l1, some (.int (nI 0)), some (.int (nI 9)), some (.int y), some (.int (nI j))] [] (n, I, L, R) Q := by
  intro m
  induction m with
  | zero =>
    intro j hj hne
    have hj : j = 9 := by omega
    subst hj
    have c1 : nI 9 ≤ nI 9 := by decide
    simp only [am_lv_of, Nat.reduceAdd, rJ1_indexOfChar_4cfef_7, rJ1_indexOfChar_4cfef_9, rJ1_indexOfChar_4cfef_10, if_pos c1, rJ1_indexOfChar_4cfef_31, rJ1_indexOfChar_4cfef_32]
    exact hQ _ ⟨fun _ => hne, fun _ => by decide⟩
  | succ m ih =>
    intro j hj hne
    have c1 : ¬ nI 9 ≤ nI j := nI_ge (by omega) (by omega)
    rw [rJ1_indexOfChar_4cfef_7]
    simp only [am_lv_of, Nat.reduceAdd, rJ1_indexOfChar_4cfef_9, rJ1_indexOfChar_4cfef_10, if_neg c1, rJ1_indexOfChar_4cfef_13, rJ1_indexOfChar_4cfef_14]
    rw [sr_bal (μ := mJ1_indexOfChar_4cfef) (i := 1) dJ1_indexOfChar_4cfef_16 rfl rfl (by omega) (show j < am_len.getD 1 0 from (by show j < 9; omega))]
    simp only [am_lv_of, Nat.reduceAdd, rJ1_indexOfChar_4cfef_17, rJ1_indexOfChar_4cfef_19]
    by_cases hc : (am_byt.getD 1 []).getD j 0 = y
    · rw [if_neg (fun z => z hc)]
      simp only [am_lv_of, Nat.reduceAdd, rJ1_indexOfChar_4cfef_22, rJ1_indexOfChar_4cfef_24]
      refine hQ _ ⟨fun z => absurd z (nI_pos (by omega)), fun z => absurd hc (z j (by omega))⟩
    · rw [if_pos hc]
      simp only [am_lv_of, Nat.reduceAdd, rJ1_indexOfChar_4cfef_25, rJ1_indexOfChar_4cfef_28, am_ci, nI_add]
      refine ih (j + 1) (by omega) (fun q hq => ?_)
      by_cases e : q = j
      · subst e; exact hc
      · exact hne q (by omega)
theorem c_indexOf {c : Nat} (hc : c < 256) (hQ : ∀ r, (r < 0 ↔ isSg c = false) → Q (some (.int r)) (n, I, L, R)) : am_E X (d + 4) mJ0_indexOf_0f7a4 0 [some (.ref 1000002), some (.int (nI c))] [] (n, I, L, R) Q := by
  have hs : am_str 1000002 = some 1 := rfl
  have hv : am_val 1000003 = some 1 := rfl
  have z1 : ¬ nI 1 = 0 := by decide
  have z0 : (nI 0 = 0) = True := eq_true rfl
  have c0 : ¬ nI c < 0 := nI_pos (by omega)
  have c1 : ¬ nI 255 < nI c := nI_nlt (by omega) (by omega)
  simp only [am_lv_of, Nat.reduceAdd, rJ0_indexOf_0f7a4_0, rJ0_indexOf_0f7a4_1, rJ0_indexOf_0f7a4_2]
  have h := sr_virt (X := X) (d := d + 3) (n := n) (I := I) (L := L) (R := R) (Q := Q) (μ := mJ0_indexOf_0f7a4) (ls := [some (.ref 1000002), some (.int (nI c))]) (st := []) (a := 1000002) (as := [.int (nI c), .int (nI 0)]) dJ0_indexOf_0f7a4_3 lk_20_633 (Nat.not_lt.mpr (Nat.le_of_ble_eq_true rfl)) (by decide) rfl rfl
  refine h.mpr ?_
  show am_E X (d + 3) mJ0_indexOf_7cf53 0 [some (.ref 1000002), some (.int (nI c)), some (.int (nI 0))] [] (n, I, L, R) _
  simp only [am_lv_of, Nat.reduceAdd, rJ0_indexOf_7cf53_0]
  have h2 := fun QQ => sr_virt (X := X) (d := d + 2) (n := n) (I := I) (L := L) (R := R) (Q := QQ) (μ := mJ0_indexOf_7cf53) (ls := [some (.ref 1000002), some (.int (nI c)), some (.int (nI 0))]) (st := []) (a := 1000002) (as := []) dJ0_indexOf_7cf53_1 lk_20_492 (Nat.not_lt.mpr (Nat.le_of_ble_eq_true rfl)) (by decide) rfl rfl
  refine (h2 _).mpr ?_
  show am_E X (d + 2) mJ0_isLatin1_aae02 0 [some (.ref 1000002)] [] (n, I, L, R) _
  rw [c_isLatin1 (i := 1) (by omega) rfl]
  simp only [am_lv_of, Nat.reduceAdd, Option.toList_some, List.cons_append, List.nil_append, rJ0_indexOf_7cf53_4, if_neg z1, rJ0_indexOf_7cf53_7]
  rw [sr_f9 (μ := mJ0_indexOf_7cf53) dJ0_indexOf_7cf53_8 rfl hs]
  simp only [am_lv_of, Nat.reduceAdd, rJ0_indexOf_7cf53_11, rJ0_indexOf_7cf53_12, rJ0_indexOf_7cf53_13]
  have h3 := fun QQ => sr_virt (X := X) (d := d + 2) (n := n) (I := I) (L := L) (R := R) (Q := QQ) (μ := mJ0_indexOf_7cf53) (ls := [some (.ref 1000002), some (.int (nI c)), some (.int (nI 0))]) (st := [.int (nI 0), .int (nI c), .ref (1000002 + 1)]) (a := 1000002) (as := []) dJ0_indexOf_7cf53_14 lk_20_505 (Nat.not_lt.mpr (Nat.le_of_ble_eq_true rfl)) (Nat.le_of_ble_eq_true rfl) rfl rfl
  refine (h3 _).mpr ?_
  show am_E X (d + 2) mJ0_length_8abf5 0 [some (.ref 1000002)] [] (n, I, L, R) _
  rw [c_strlen (i := 1) (by omega) rfl]
  have e9 : nI (am_len.getD 1 0) = nI 9 := rfl
  have m1 : (if nI 0 < nI 0 then nI 0 else nI 0) = nI 0 := if_neg (by decide)
  have m2 : (if nI 9 < nI 9 then nI 9 else nI 9) = nI 9 := if_neg (by decide)
  have m3 : nI 0 < nI 9 := by decide
  simp only [am_lv_of, Nat.reduceAdd, Option.toList_some, List.cons_append, List.nil_append, e9, rJ0_indexOf_7cf53_17, am_s0, rJ1_indexOf_4cfef_0, rJ1_indexOf_4cfef_1, rJ1_canEncode_9a6ad_0, rJ1_canEncode_9a6ad_1, if_neg c0, rJ1_canEncode_9a6ad_4, rJ1_canEncode_9a6ad_5, rJ1_canEncode_9a6ad_8, if_neg c1, rJ1_canEncode_9a6ad_11, rJ1_canEncode_9a6ad_12, rJ1_canEncode_9a6ad_16_1, rJ1_indexOf_4cfef_4, if_pos z1, rJ1_indexOf_4cfef_9, rJ1_indexOf_4cfef_10, rJ1_indexOf_4cfef_11, rJ1_indexOf_4cfef_14, rJ1_indexOf_4cfef_15, rJ1_indexOf_4cfef_16, m1, am_ci, am_cr]
  rw [sr_len (μ := mJ1_indexOf_4cfef) dJ1_indexOf_4cfef_17 (Or.inr rfl) hv]
  simp only [am_lv_of, Nat.reduceAdd, e9, rJ1_indexOf_4cfef_18, am_s0, m2, rJ1_indexOf_4cfef_21, rJ1_indexOf_4cfef_22, rJ1_indexOf_4cfef_23, rJ1_indexOf_4cfef_24, if_pos m3, rJ1_indexOf_4cfef_29, rJ1_indexOf_4cfef_30, rJ1_indexOf_4cfef_31, rJ1_indexOf_4cfef_32, rJ1_indexOf_4cfef_33, rJ1_indexOfChar_4cfef_0, rJ1_indexOfChar_4cfef_1, rJ1_indexOfChar_4cfef_2, rJ1_indexOfChar_4cfef_4, rJ1_indexOfChar_4cfef_5, am_ci, am_cr]
  refine l_ixChar (fun r hr => ?_) 9 0 (by omega) (fun q hq => absurd hq (Nat.not_lt_zero _))
  simp only [am_lv_of, Nat.reduceAdd, Option.toList_some, List.cons_append, List.nil_append, rJ1_indexOf_4cfef_36, rJ0_indexOf_7cf53_20, rJ0_indexOf_7cf53_36, rJ0_indexOf_0f7a4_6]
  refine hQ r (hr.trans ?_)
  rw [isSg_byt c hc]
  constructor
  · intro h
    rw [List.any_eq_false]
    intro j hj
    rw [List.mem_range] at hj
    simpa using h j hj
  · intro h j hj he
    rw [List.any_eq_false] at h
    exact h j (List.mem_range.mpr hj) (by simpa using he)
end SR
