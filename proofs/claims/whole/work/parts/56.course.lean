--! 55
/-! COURSES: copied, moved, turned over, closed -/
/-- a course stands at c -/
def isCr (n : Nat) (R : Nat → Nat → Option Nat) (c : Nat) : Prop := c + 5 ≤ n ∧ am_SV c = (3, 14) ∧ am_SV (c + 1) = (20, 7) ∧ am_SV (c + 2) = (20, 12) ∧ am_SV (c + 3) = (20, 12) ∧ am_SV (c + 4) = (20, 12) ∧ va_rf (R c 10) = .ref (c + 1) ∧ va_rf (R c 11) = .ref (c + 2) ∧ va_rf (R c 12) = .ref (c + 3) ∧ va_rf (R c 13) = .ref (c + 4)
theorem isCr_34 {n : Nat} {R : Nat → Nat → Option Nat} (hR : am_OR R) (hN : 116 ≤ n) : isCr n R 34 := ⟨by omega, sh_34, sh_35, sh_36, sh_37, sh_38, ro_34_10 hR, ro_34_11 hR, ro_34_12 hR, ro_34_13 hR⟩
theorem sh_co (k : Nat) (h1 : 116 ≤ k) (h2 : (k - 116) % 5 = 0) (h3 : k + 5 ≤ 1000) : am_SV k = (3, 14) ∧ am_SV (k + 1) = (20, 7) ∧ am_SV (k + 2) = (20, 12) ∧ am_SV (k + 3) = (20, 12) ∧ am_SV (k + 4) = (20, 12) := by
  have e0 : (k + 3 - 119) % 5 = 0 := by omega
  have e1 : (k + 1 + 3 - 119) % 5 = 1 := by omega
  have e2 : (k + 2 + 3 - 119) % 5 = 2 := by omega
  have e3 : (k + 3 + 3 - 119) % 5 = 3 := by omega
  have e4 : (k + 4 + 3 - 119) % 5 = 4 := by omega
  unfold am_SV
  rw [am_pi_mid (n := k) (by omega) (by omega), am_pi_mid (n := k + 1) (by omega) (by omega), am_pi_mid (n := k + 2) (by omega) (by omega), am_pi_mid (n := k + 3) (by omega) (by omega), am_pi_mid (n := k + 4) (by omega) (by omega)]
  unfold am_SH
  rw [if_neg (by omega), if_neg (by omega), if_neg (by omega), if_neg (by omega), if_neg (by omega), e0, e1, e2, e3, e4]
  exact ⟨rfl, rfl, rfl, rfl, rfl⟩
theorem isCr_co {n k : Nat} {R : Nat → Nat → Option Nat} (h : relR n R) (hk : isCo n k) : isCr n R k := by
  obtain ⟨a1, a2, a3, a4, a5⟩ := sh_co k hk.1 hk.2.1 (Nat.le_trans hk.2.2 h.n)
  obtain ⟨b1, b2, b3, b4⟩ := h.2.2.2.2.2.2.2.1 k hk
  exact ⟨hk.2.2, a1, a2, a3, a4, a5, by rw [b1]; rfl, by rw [b2]; rfl, by rw [b3]; rfl, by rw [b4]; rfl⟩
/-- cells c .. c + 4 -/
def coP (c : Nat) (k _j : Nat) : Prop := c ≤ k ∧ k < c + 5
/-- what two courses have in common when one is a copy -/
def cpy (I I' : Nat → Nat → Int32) (b a : Nat) : Prop := (∀ j, j < 10 → I' a j = I b j) ∧ (∀ j, j < 7 → I' (a + 1) j = I (b + 1) j) ∧ (∀ j, j < 12 → I' (a + 2) j = I (b + 2) j) ∧ (∀ j, j < 12 → I' (a + 3) j = I (b + 3) j) ∧ ∀ j, j < 12 → I' (a + 4) j = I (b + 4) j
theorem crs.cpy {I I' : Nat → Nat → Int32} {a b P S : Nat} {r r' : Nat → Int32} (h : crs I b P S r) (g : cpy I I' b a) (hr : ∀ j, j < 68 → r' j = r j) : crs I' a P S r' := by
  obtain ⟨w, K, h1, h2, h3, h4, h5, h6, h7, h8, h9, h10, h11, h12, h13, h14, h15, h16, h17⟩ := h
  obtain ⟨g0, g1, g2, g3, g4⟩ := g
  refine ⟨w, K, ?_, ?_, ?_, ?_, ?_, ?_, ?_, ?_, ?_, ?_, ?_, ?_, h13, ?_, ?_, ?_, ?_⟩
  · rw [g0 _ (by omega)]; exact h1
  · exact ⟨h2.1, fun p hp => by rw [hr _ (by omega), hr _ (by omega), hr _ (by omega)]; exact h2.2.1 p hp, h2.2.2⟩
  · rw [g0 _ (by omega), hr _ (by omega)]; exact h3
  · rw [g0 _ (by omega), hr _ (by omega)]; exact h4
  · rw [g0 _ (by omega), hr _ (by omega)]; exact h5
  · rw [g0 _ (by omega), hr _ (by omega)]; exact h6
  · rw [g0 _ (by omega), hr _ (by omega)]; exact h7
  · rw [g0 _ (by omega), hr _ (by omega)]; exact h8
  · rw [g0 _ (by omega), hr _ (by omega)]; exact h9
  · rw [g0 _ (by omega), hr _ (by omega)]; exact h10
  · rw [g0 _ (by omega)]; exact h11
  · rw [hr _ (by omega)]; exact h12
  · intro s hs
    rw [g1 _ (by omega), hr _ (by omega)]
    exact h14 s hs
  · intro i hi
    rw [g2 _ (by omega), g3 _ (by omega), g4 _ (by omega), hr _ (by omega), hr _ (by omega), hr _ (by omega)]
    exact h15 i hi
  · rw [hr _ (by omega)]; exact h16
  · rw [hr _ (by omega)]; exact h17
section CO
variable {X : am_X} {d n : Nat} {I : Nat → Nat → Int32} {L : Nat → Nat → Int64} {R : Nat → Nat → Option Nat} {Q : Option Value → am_M → Prop} {σ : rfP}
theorem am_copy_eq {a b sp dp m : Nat} : am_copy (n, I, L, R) a b sp dp m = (n, am_w I b (va_cpy (I a) (I b) sp dp m), L, R) := rfl
set_option maxRecDepth 40000 in
theorem c_copyFrom {a b : Nat} (hn : n ≤ 1000) (ha : isCr n R a) (hb : isCr n R b) (hab : a + 5 ≤ b ∨ b + 5 ≤ a) (hQ : ∀ I', am_ag (coP a) I I' → cpy I I' b a → Q none (n, I', L, R)) : am_E X d mX3_copyFrom 0 [some (.ref a), some (.ref b)] [] (n, I, L, R) Q := by
  obtain ⟨a0, a1, a2, a3, a4, a5, a6, a7, a8, a9⟩ := ha
  obtain ⟨b0, b1, b2, b3, b4, b5, b6, b7, b8, b9⟩ := hb
  have la0 : a < n := by omega
  have la1 : a + 1 < n := by omega
  have la2 : a + 2 < n := by omega
  have la3 : a + 3 < n := by omega
  have la4 : a + 4 < n := by omega
  have lb0 : b < n := by omega
  have lb1 : b + 1 < n := by omega
  have lb2 : b + 2 < n := by omega
  have lb3 : b + 3 < n := by omega
  have lb4 : b + 4 < n := by omega
  simp only [am_lv_of, rX3_copyFrom_0, rX3_copyFrom_1, rX3_copyFrom_2, rX3_copyFrom_5, rX3_copyFrom_8, rX3_copyFrom_9, rX3_copyFrom_10, rX3_copyFrom_13, rX3_copyFrom_16, rX3_copyFrom_17, rX3_copyFrom_18, rX3_copyFrom_21, rX3_copyFrom_24, rX3_copyFrom_25, rX3_copyFrom_26, rX3_copyFrom_29, rX3_copyFrom_32, rX3_copyFrom_33, rX3_copyFrom_34, rX3_copyFrom_37, rX3_copyFrom_40, rX3_copyFrom_41, rX3_copyFrom_42, rX3_copyFrom_45, rX3_copyFrom_48, rX3_copyFrom_49, rX3_copyFrom_50, rX3_copyFrom_53, rX3_copyFrom_56, rX3_copyFrom_57, rX3_copyFrom_58, rX3_copyFrom_61, rX3_copyFrom_64, rX3_copyFrom_65, rX3_copyFrom_66, rX3_copyFrom_69, rX3_copyFrom_72, rX3_copyFrom_73, rX3_copyFrom_74, rX3_copyFrom_77, rX3_copyFrom_80, rX3_copyFrom_81, rX3_copyFrom_84, rX3_copyFrom_85, rX3_copyFrom_86, rX3_copyFrom_89, rX3_copyFrom_90, rX3_copyFrom_91, rX3_copyFrom_94, rX3_copyFrom_95, rX3_copyFrom_98, rX3_copyFrom_99, rX3_copyFrom_102, rX3_copyFrom_103, rX3_copyFrom_104, rX3_copyFrom_107, rX3_copyFrom_108, rX3_copyFrom_109, rX3_copyFrom_112, rX3_copyFrom_113, rX3_copyFrom_116, rX3_copyFrom_117, rX3_copyFrom_120, rX3_copyFrom_121, rX3_copyFrom_122, rX3_copyFrom_125, rX3_copyFrom_126, rX3_copyFrom_127, rX3_copyFrom_130, rX3_copyFrom_131, rX3_copyFrom_134, rX3_copyFrom_135, rX3_copyFrom_138, rX3_copyFrom_139, rX3_copyFrom_140, rX3_copyFrom_143, rX3_copyFrom_144, rX3_copyFrom_145, rX3_copyFrom_148, rX3_copyFrom_149, rX3_copyFrom_152, am_copy_eq, Nat.reduceLT, Nat.reduceLeDiff, and_self, am_s0, am_s1, am_s1r, am_s2, am_s2r, am_s3r, hn, a1, a2, a3, a4, a5, a6, a7, a8, a9, b1, b2, b3, b4, b5, b6, b7, b8, b9, la0, la1, la2, la3, la4, lb0, lb1, lb2, lb3, lb4, Nat.zero_add, Nat.le_refl]
  refine hQ _ (fun k j hk => ?_) ⟨fun j hj => ?_, fun j hj => ?_, fun j hj => ?_, fun j hj => ?_, fun j hj => ?_⟩
  · unfold coP at hk
    simp only [am_w, am_u]
    rw [if_neg (by omega), if_neg (by omega), if_neg (by omega), if_neg (by omega)]
    simp only [show ¬ k = a by omega, if_false]
  · simp only [am_w, am_u, show ¬ a = a + 4 by omega, show ¬ a = a + 3 by omega, show ¬ a = a + 2 by omega, show ¬ a = a + 1 by omega, show ¬ b = a by omega, if_false, if_true]
    have : j = 0 ∨ j = 1 ∨ j = 2 ∨ j = 3 ∨ j = 4 ∨ j = 5 ∨ j = 6 ∨ j = 7 ∨ j = 8 ∨ j = 9 := by omega
    rcases this with rfl | rfl | rfl | rfl | rfl | rfl | rfl | rfl | rfl | rfl <;> simp
  · simp only [am_w, am_u, show ¬ a + 1 = a + 4 by omega, show ¬ a + 1 = a + 3 by omega, show ¬ a + 1 = a + 2 by omega, show ¬ a + 1 = a by omega, show ¬ b + 1 = a by omega, if_false, if_true]
    rw [pk_cpy_in (by omega) (by omega)]
    simp [am_w, am_u, show ¬ b + 1 = a by omega]
  · simp only [am_w, am_u, show ¬ a + 2 = a + 4 by omega, show ¬ a + 2 = a + 3 by omega, show ¬ b + 2 = a + 1 by omega, show ¬ a + 2 = a by omega, show ¬ b + 2 = a by omega, if_false, if_true]
    rw [pk_cpy_in (by omega) (by omega)]
    simp [am_w, am_u, show ¬ b + 2 = a by omega, show ¬ b + 2 = a + 1 by omega]
  · simp only [am_w, am_u, show ¬ a + 3 = a + 4 by omega, show ¬ b + 3 = a + 2 by omega, show ¬ b + 3 = a + 1 by omega, show ¬ a + 3 = a by omega, show ¬ b + 3 = a by omega, if_false, if_true]
    rw [pk_cpy_in (by omega) (by omega)]
    simp [am_w, am_u, show ¬ b + 3 = a by omega, show ¬ b + 3 = a + 1 by omega, show ¬ b + 3 = a + 2 by omega]
  · simp only [am_w, am_u, show ¬ b + 4 = a + 3 by omega, show ¬ b + 4 = a + 2 by omega, show ¬ b + 4 = a + 1 by omega, show ¬ a + 4 = a by omega, show ¬ b + 4 = a by omega, if_false, if_true]
    rw [pk_cpy_in (by omega) (by omega)]
    simp [am_w, am_u, show ¬ b + 4 = a by omega, show ¬ b + 4 = a + 1 by omega, show ¬ b + 4 = a + 2 by omega, show ¬ b + 4 = a + 3 by omega]
end CO
