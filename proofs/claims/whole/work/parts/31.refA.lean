--! 
/-! THE REFERENCE: what it reads of a row -/
section RFA
variable {X : am_X} {d n : Nat} {I : Nat → Nat → Int32} {L : Nat → Nat → Int64} {R : Nat → Nat → Option Nat} {Q : Option Value → am_M → Prop}
/-- a truth as an int -/
def bI (b : Bool) : Int32 := if b then nI 1 else nI 0
theorem c_in {v a b : Int32} : am_E X d mX13_in 0 [some (.int v), some (.int a), some (.int b)] [] (n, I, L, R) Q ↔ Q (some (.int (bI (decide (a ≤ v) && decide (v ≤ b))))) (n, I, L, R) := by
  simp only [am_lv_of, rX13_in_0, rX13_in_1, rX13_in_2, rX13_in_5, rX13_in_6, rX13_in_7, rX13_in_10, rX13_in_11, rX13_in_14, rX13_in_15, rX13_in_15_0, rX13_in_15_1]
  by_cases h1 : v < a
  · have : ¬ a ≤ v := Int32.not_le.mpr h1
    simp [h1, this, bI]
  · have h1' : a ≤ v := Int32.not_lt.mp h1
    by_cases h2 : b < v
    · have : ¬ v ≤ b := Int32.not_le.mpr h2
      simp [h1, h2, this, bI]
    · have : v ≤ b := Int32.not_lt.mp h2
      simp [h1, h2, h1', this, bI]
/-- how many of o, o + 1 .. (m of them) stand left of p -/
def tgI (f : Nat → Int32) (p o : Nat) : Nat → Nat
  | 0 => 0
  | m + 1 => (if f o < f p then 1 else 0) + tgI f p (o + 1) m
/-- pairs in a wrong order, from p on, m puppets more -/
def tgO (f : Nat → Int32) (P p : Nat) : Nat → Nat
  | 0 => 0
  | m + 1 => tgI f p (p + 1) (P - (p + 1)) + tgO f P (p + 1) m
def tg (f : Nat → Int32) (P : Nat) : Nat := tgO f P 0 P
theorem l_tangles_in {lv P p : Nat} (hR : am_OR R) (hN : 116 ≤ n) (hlv : I 69 18 = nI lv) (hl2 : lv < 2) (hP : I 79 lv = nI P) (hP5 : P ≤ 5) (hp : p < P) : ∀ (m o c : Nat), o + m = P →
    (am_E X d mX13_tanglesNow 21 [some (.ref 69), some (.int (nI c)), some (.int (nI p)), some (.int (nI o))] [] (n, I, L, R) Q ↔ am_E X d mX13_tanglesNow 58 [some (.ref 69), some (.int (nI (c + tgI (I 104) p o m))), some (.int (nI p)), some (.int (nI P))] [] (n, I, L, R) Q) := by
  have hl := am_lt hN
  have hvw9 := am_lw hN
  intro m
  induction m with
  | zero =>
    intro o c ho
    have ho : o = P := by omega
    subst ho
    have h1 : nI o ≤ nI o := nI_le (Nat.le_refl _) (by omega)
    simp only [hvw9, am_lv_of, rX13_tanglesNow_21, rX13_tanglesNow_22, rX13_tanglesNow_23, rX13_tanglesNow_26, rX13_tanglesNow_27, rX13_tanglesNow_30, rX13_tanglesNow_31, ro_69_1 hR, ro_69_3 hR, ro_69_5 hR, ro_69_6 hR, ro_69_7 hR, ro_69_8 hR, ro_69_9 hR, ro_69_21 hR, ro_69_22 hR, ro_69_23 hR, ro_69_24 hR, ro_69_25 hR, ro_69_26 hR, ro_69_27 hR, ro_69_28 hR, ro_69_29 hR, ro_69_30 hR, ro_69_31 hR, ro_69_32 hR, ro_69_33 hR, ro_69_34 hR, ro_69_35 hR, ro_69_36 hR, ro_69_38 hR, ro_69_39 hR, ro_69_40 hR, ro_69_41 hR, ro_69_42 hR, ro_69_44 hR, ro_69_45 hR, ro_69_46 hR, ro_69_48 hR, ro_69_49 hR, ro_69_51 hR, ro_69_52 hR, ro_69_55 hR, ro_69_56 hR, ro_69_57 hR, ro_69_58 hR, ro_69_59 hR, ro_69_61 hR, ro_69_62 hR, ro_69_63 hR, ro_69_64 hR, ro_69_65 hR, ro_69_66 hR, hl, sh_69, sh_79, hlv, hP, hl2, Nat.reduceLT, tgI, Nat.add_zero, if_pos h1]
  | succ m ih =>
    intro o c ho
    have h1 : ¬ nI P ≤ nI o := nI_ge (by omega) (by omega)
    have hp5 : p < 68 := by omega
    have ho5 : o < 68 := by omega
    rw [rX13_tanglesNow_21]
    simp only [hvw9, am_lv_of, rX13_tanglesNow_22, rX13_tanglesNow_23, rX13_tanglesNow_26, rX13_tanglesNow_27, rX13_tanglesNow_30, rX13_tanglesNow_31, rX13_tanglesNow_34, rX13_tanglesNow_35, rX13_tanglesNow_38, rX13_tanglesNow_39, rX13_tanglesNow_40, rX13_tanglesNow_41, rX13_tanglesNow_44, rX13_tanglesNow_45, rX13_tanglesNow_46, rX13_tanglesNow_49, rX13_tanglesNow_52, rX13_tanglesNow_55, ro_69_1 hR, ro_69_3 hR, ro_69_5 hR, ro_69_6 hR, ro_69_7 hR, ro_69_8 hR, ro_69_9 hR, ro_69_21 hR, ro_69_22 hR, ro_69_23 hR, ro_69_24 hR, ro_69_25 hR, ro_69_26 hR, ro_69_27 hR, ro_69_28 hR, ro_69_29 hR, ro_69_30 hR, ro_69_31 hR, ro_69_32 hR, ro_69_33 hR, ro_69_34 hR, ro_69_35 hR, ro_69_36 hR, ro_69_38 hR, ro_69_39 hR, ro_69_40 hR, ro_69_41 hR, ro_69_42 hR, ro_69_44 hR, ro_69_45 hR, ro_69_46 hR, ro_69_48 hR, ro_69_49 hR, ro_69_51 hR, ro_69_52 hR, ro_69_55 hR, ro_69_56 hR, ro_69_57 hR, ro_69_58 hR, ro_69_59 hR, ro_69_61 hR, ro_69_62 hR, ro_69_63 hR, ro_69_64 hR, ro_69_65 hR, ro_69_66 hR, hl, sh_69, sh_79, sh_104, hlv, hP, hl2, Nat.reduceLT, if_neg h1, hp5, ho5, am_ci, nI_add]
    by_cases h2 : I 104 p ≤ I 104 o
    · have h3 : ¬ I 104 o < I 104 p := Int32.not_lt.mpr h2
      simp only [am_lv_of, if_pos h2, rX13_tanglesNow_52, rX13_tanglesNow_55, am_ci, nI_add]
      rw [ih (o + 1) c (by omega), tgI, if_neg h3, Nat.zero_add]
    · have h3 : I 104 o < I 104 p := Int32.not_le.mp h2
      simp only [am_lv_of, if_neg h2, rX13_tanglesNow_49, rX13_tanglesNow_52, rX13_tanglesNow_55, am_ci, am_cr, nI_add]
      rw [ih (o + 1) (c + 1) (by omega), tgI, if_pos h3, Nat.add_assoc]
theorem l_tangles_out {lv P : Nat} {l3 : Option Value} (hR : am_OR R) (hN : 116 ≤ n) (hlv : I 69 18 = nI lv) (hl2 : lv < 2) (hP : I 79 lv = nI P) (hP5 : P ≤ 5) : ∀ (m p c : Nat) (l3 : Option Value), p + m = P →
    (am_E X d mX13_tanglesNow 4 [some (.ref 69), some (.int (nI c)), some (.int (nI p)), l3] [] (n, I, L, R) Q ↔ Q (some (.int (nI (c + tgO (I 104) P p m)))) (n, I, L, R)) := by
  have hl := am_lt hN
  have hvw9 := am_lw hN
  intro m
  induction m with
  | zero =>
    intro p c l3 ho
    have ho : p = P := by omega
    subst ho
    have h1 : nI p ≤ nI p := nI_le (Nat.le_refl _) (by omega)
    simp only [hvw9, am_lv_of, rX13_tanglesNow_4, rX13_tanglesNow_5, rX13_tanglesNow_6, rX13_tanglesNow_9, rX13_tanglesNow_10, rX13_tanglesNow_13, rX13_tanglesNow_14, rX13_tanglesNow_64, rX13_tanglesNow_65, ro_69_1 hR, ro_69_3 hR, ro_69_5 hR, ro_69_6 hR, ro_69_7 hR, ro_69_8 hR, ro_69_9 hR, ro_69_21 hR, ro_69_22 hR, ro_69_23 hR, ro_69_24 hR, ro_69_25 hR, ro_69_26 hR, ro_69_27 hR, ro_69_28 hR, ro_69_29 hR, ro_69_30 hR, ro_69_31 hR, ro_69_32 hR, ro_69_33 hR, ro_69_34 hR, ro_69_35 hR, ro_69_36 hR, ro_69_38 hR, ro_69_39 hR, ro_69_40 hR, ro_69_41 hR, ro_69_42 hR, ro_69_44 hR, ro_69_45 hR, ro_69_46 hR, ro_69_48 hR, ro_69_49 hR, ro_69_51 hR, ro_69_52 hR, ro_69_55 hR, ro_69_56 hR, ro_69_57 hR, ro_69_58 hR, ro_69_59 hR, ro_69_61 hR, ro_69_62 hR, ro_69_63 hR, ro_69_64 hR, ro_69_65 hR, ro_69_66 hR, hl, sh_69, sh_79, hlv, hP, hl2, Nat.reduceLT, tgO, Nat.add_zero, if_pos h1]
  | succ m ih =>
    intro p c l3 ho
    have h1 : ¬ nI P ≤ nI p := nI_ge (by omega) (by omega)
    rw [rX13_tanglesNow_4]
    simp only [hvw9, am_lv_of, rX13_tanglesNow_5, rX13_tanglesNow_6, rX13_tanglesNow_9, rX13_tanglesNow_10, rX13_tanglesNow_13, rX13_tanglesNow_14, rX13_tanglesNow_17, rX13_tanglesNow_18, rX13_tanglesNow_19, rX13_tanglesNow_20, ro_69_1 hR, ro_69_3 hR, ro_69_5 hR, ro_69_6 hR, ro_69_7 hR, ro_69_8 hR, ro_69_9 hR, ro_69_21 hR, ro_69_22 hR, ro_69_23 hR, ro_69_24 hR, ro_69_25 hR, ro_69_26 hR, ro_69_27 hR, ro_69_28 hR, ro_69_29 hR, ro_69_30 hR, ro_69_31 hR, ro_69_32 hR, ro_69_33 hR, ro_69_34 hR, ro_69_35 hR, ro_69_36 hR, ro_69_38 hR, ro_69_39 hR, ro_69_40 hR, ro_69_41 hR, ro_69_42 hR, ro_69_44 hR, ro_69_45 hR, ro_69_46 hR, ro_69_48 hR, ro_69_49 hR, ro_69_51 hR, ro_69_52 hR, ro_69_55 hR, ro_69_56 hR, ro_69_57 hR, ro_69_58 hR, ro_69_59 hR, ro_69_61 hR, ro_69_62 hR, ro_69_63 hR, ro_69_64 hR, ro_69_65 hR, ro_69_66 hR, hl, sh_69, sh_79, sh_104, hlv, hP, hl2, Nat.reduceLT, if_neg h1, am_ci, nI_add]
    rw [l_tangles_in hR hN hlv hl2 hP hP5 (by omega) (P - (p + 1)) (p + 1) c (by omega)]
    simp only [am_lv_of, rX13_tanglesNow_58, rX13_tanglesNow_61, am_ci, nI_add]
    rw [ih (p + 1) _ _ (by omega), tgO, Nat.add_assoc]
theorem c_tanglesNow {lv P : Nat} (hR : am_OR R) (hN : 116 ≤ n) (hlv : I 69 18 = nI lv) (hl2 : lv < 2) (hP : I 79 lv = nI P) (hP5 : P ≤ 5) : am_E X d mX13_tanglesNow 0 [some (.ref 69), none, none, none] [] (n, I, L, R) Q ↔ Q (some (.int (nI (tg (I 104) P)))) (n, I, L, R) := by
  simp only [am_lv_of, rX13_tanglesNow_0, rX13_tanglesNow_1, rX13_tanglesNow_2, rX13_tanglesNow_3, am_ci, am_cr, am_cn0]
  rw [l_tangles_out (l3 := none) hR hN hlv hl2 hP hP5 P 0 0 _ (by omega), Nat.zero_add]
  rfl
end RFA
