--! 77
/-! PLAYS: ways, levels of poses without doubles -/
/-- where a way of pulls leads: 'rem' pulls are still to be made, 'made' were; S strings, who may pull, where to, no verdict yet -/
def plW (S : Nat) (may : Nat → Nat → Nat → Bool) (mv : Nat → Nat → Nat) (vz : Nat → Nat → Bool) : Nat → Nat → Nat → Nat → Option Nat
  | 0, _, w, _ => some w
  | rem + 1, made, w, way => if way / 7 ^ rem % 7 < S ∧ vz made w = true ∧ may made w (way / 7 ^ rem % 7) = true then plW S may mv vz rem (made + 1) (mv w (way / 7 ^ rem % 7)) way else none
def plX (S : Nat) (may : Nat → Nat → Nat → Bool) (mv : Nat → Nat → Nat) (vz : Nat → Nat → Bool) (m w s : Nat) : Option Nat := if s < S ∧ vz m w = true ∧ may m w s = true then some (mv w s) else none
theorem plW_ext {S : Nat} {may : Nat → Nat → Nat → Bool} {mv : Nat → Nat → Nat} {vz : Nat → Nat → Bool} {y s : Nat} (hs : s < 7) : ∀ (rem made w : Nat), plW S may mv vz (rem + 1) made w (7 * y + s) = (plW S may mv vz rem made w y).bind (fun w' => plX S may mv vz (made + rem) w' s) := by
  intro rem
  induction rem with
  | zero =>
    intro made w
    have e : (7 * y + s) / 7 ^ 0 % 7 = s := by rw [Nat.pow_zero, Nat.div_one]; omega
    have a1 : plW S may mv vz (0 + 1) made w (7 * y + s) = (if (7 * y + s) / 7 ^ 0 % 7 < S ∧ vz made w = true ∧ may made w ((7 * y + s) / 7 ^ 0 % 7) = true then some (mv w ((7 * y + s) / 7 ^ 0 % 7)) else none) := rfl
    rw [e] at a1
    rw [a1]
    rfl
  | succ rem ih =>
    intro made w
    have e : (7 * y + s) / 7 ^ (rem + 1) % 7 = y / 7 ^ rem % 7 := by
      rw [Nat.pow_succ, Nat.mul_comm (7 ^ rem) 7, ← Nat.div_div_eq_div_mul, show (7 * y + s) / 7 = y by omega]
    have a1 : plW S may mv vz (rem + 1 + 1) made w (7 * y + s) = (if (7 * y + s) / 7 ^ (rem + 1) % 7 < S ∧ vz made w = true ∧ may made w ((7 * y + s) / 7 ^ (rem + 1) % 7) = true then plW S may mv vz (rem + 1) (made + 1) (mv w ((7 * y + s) / 7 ^ (rem + 1) % 7)) (7 * y + s) else none) := rfl
    have a2 : plW S may mv vz (rem + 1) made w y = (if y / 7 ^ rem % 7 < S ∧ vz made w = true ∧ may made w (y / 7 ^ rem % 7) = true then plW S may mv vz rem (made + 1) (mv w (y / 7 ^ rem % 7)) y else none) := rfl
    rw [e] at a1
    rw [a1, a2]
    by_cases h : y / 7 ^ rem % 7 < S ∧ vz made w = true ∧ may made w (y / 7 ^ rem % 7) = true
    · rw [if_pos h, if_pos h, ih (made + 1), show made + 1 + rem = made + (rem + 1) by omega]
    · rw [if_neg h, if_neg h]
      rfl
/-- poses of ways below t, without doubles, each with the first string of its first way -/
def lv (ok : Nat → Option Nat) (z : Nat → Bool) (fd : Nat → Int32) : Nat → List (Nat × Int32)
  | 0 => []
  | t + 1 => match ok t with
    | none => lv ok z fd t
    | some w => if z w = true ∧ ¬ w ∈ (lv ok z fd t).map (fun q => q.1) then lv ok z fd t ++ [(w, fd t)] else lv ok z fd t
section LV
variable {ok : Nat → Option Nat} {z : Nat → Bool} {fd : Nat → Int32}
theorem lv_none {t : Nat} (h : ok t = none) : lv ok z fd (t + 1) = lv ok z fd t := by rw [lv, h]
theorem lv_same {t w : Nat} (h : ok t = some w) (h2 : ¬ (z w = true ∧ ¬ w ∈ (lv ok z fd t).map (fun q => q.1))) : lv ok z fd (t + 1) = lv ok z fd t := by rw [lv, h]; simp only [if_neg h2]
theorem lv_new {t w : Nat} (h : ok t = some w) (h2 : z w = true) (h3 : ¬ w ∈ (lv ok z fd t).map (fun q => q.1)) : lv ok z fd (t + 1) = lv ok z fd t ++ [(w, fd t)] := by rw [lv, h]; simp only [if_pos (And.intro h2 h3)]
theorem lv_mono {t : Nat} {q : Nat × Int32} (h : q ∈ lv ok z fd t) : q ∈ lv ok z fd (t + 1) := by
  cases ht : ok t with
  | none => rw [lv_none ht]; exact h
  | some w =>
    by_cases h2 : z w = true ∧ ¬ w ∈ (lv ok z fd t).map (fun q => q.1)
    · rw [lv_new ht h2.1 h2.2]; exact List.mem_append_left _ h
    · rw [lv_same ht h2]; exact h
theorem lv_mem {y w : Nat} (hy : ok y = some w) (hz : z w = true) : ∀ t, y < t → w ∈ (lv ok z fd t).map (fun q => q.1) := by
  intro t
  induction t with
  | zero => intro h; omega
  | succ t ih =>
    intro h
    by_cases e : y = t
    · subst e
      by_cases hm : w ∈ (lv ok z fd y).map (fun q => q.1)
      · rw [lv_same hy (fun z => z.2 hm)]; exact hm
      · rw [lv_new hy hz hm]; simp
    · obtain ⟨q, q1, q2⟩ := List.mem_map.mp (ih (by omega))
      exact List.mem_map.mpr ⟨q, lv_mono q1, q2⟩
theorem lv_from : ∀ (t : Nat) (q : Nat × Int32), q ∈ lv ok z fd t → ∃ y, y < t ∧ ok y = some q.1 ∧ z q.1 = true ∧ q.2 = fd y := by
  intro t
  induction t with
  | zero => intro q h; cases h
  | succ t ih =>
    intro q h
    have old : q ∈ lv ok z fd t → ∃ y, y < t + 1 ∧ ok y = some q.1 ∧ z q.1 = true ∧ q.2 = fd y := fun h => by
      obtain ⟨y, y1, y2⟩ := ih q h
      exact ⟨y, by omega, y2⟩
    cases ht : ok t with
    | none => rw [lv_none ht] at h; exact old h
    | some w =>
      by_cases h2 : z w = true ∧ ¬ w ∈ (lv ok z fd t).map (fun q => q.1)
      · rw [lv_new ht h2.1 h2.2, List.mem_append] at h
        rcases h with h | h
        · exact old h
        · have : q = (w, fd t) := by simpa using h
          subst this
          exact ⟨t, by omega, ht, h2.1, rfl⟩
      · rw [lv_same ht h2] at h; exact old h
theorem lv_nodup : ∀ t, ((lv ok z fd t).map (fun q => q.1)).Nodup := by
  intro t
  induction t with
  | zero => exact List.nodup_nil
  | succ t ih =>
    cases ht : ok t with
    | none => rw [lv_none ht]; exact ih
    | some w =>
      by_cases h2 : z w = true ∧ ¬ w ∈ (lv ok z fd t).map (fun q => q.1)
      · rw [lv_new ht h2.1 h2.2, List.map_append, List.nodup_append]
        refine ⟨ih, by simp, fun a ha b hb => ?_⟩
        have : b = w := by simpa using hb
        subst this
        exact fun e => h2.2 (e ▸ ha)
      · rw [lv_same ht h2]; exact ih
theorem lv_len_le : ∀ (m t : Nat), (lv ok z fd t).length ≤ (lv ok z fd (t + m)).length := by
  intro m
  induction m with
  | zero => intro t; exact Nat.le_refl _
  | succ m ih =>
    intro t
    refine Nat.le_trans (ih t) ?_
    rw [← Nat.add_assoc]
    cases ht : ok (t + m) with
    | none => rw [lv_none ht]; exact Nat.le_refl _
    | some w =>
      by_cases h2 : z w = true ∧ ¬ w ∈ (lv ok z fd (t + m)).map (fun q => q.1)
      · rw [lv_new ht h2.1 h2.2, List.length_append]; omega
      · rw [lv_same ht h2]; exact Nat.le_refl _
/-- what stands in a list stays there -/
theorem lv_keep : ∀ (m t i : Nat) (q : Nat × Int32), (lv ok z fd t)[i]? = some q → (lv ok z fd (t + m))[i]? = some q := by
  intro m
  induction m with
  | zero => intro t i q h; exact h
  | succ m ih =>
    intro t i q h
    have := ih t i q h
    rw [← Nat.add_assoc]
    cases ht : ok (t + m) with
    | none => rw [lv_none ht]; exact this
    | some w =>
      by_cases h2 : z w = true ∧ ¬ w ∈ (lv ok z fd (t + m)).map (fun q => q.1)
      · rw [lv_new ht h2.1 h2.2, List.getElem?_append_left (List.getElem?_eq_some_iff.mp this).1]; exact this
      · rw [lv_same ht h2]; exact this
end LV
/-- nothing is new at a way whose place was reached before -/
theorem lv_seen {ok : Nat → Option Nat} {z : Nat → Bool} {fd : Nat → Int32} {t : Nat} (h : ∀ w, ok t = some w → ∃ y, y < t ∧ ok y = some w) : lv ok z fd (t + 1) = lv ok z fd t := by
  cases ht : ok t with
  | none => exact lv_none ht
  | some w =>
    obtain ⟨y, y1, y2⟩ := h w ht
    by_cases hz : z w = true
    · exact lv_same ht (fun q => q.2 (lv_mem y2 hz t y1))
    · exact lv_same ht (fun q => hz q.1)
/-- no goal below t -/
def noG (ok : Nat → Option Nat) (gl : Nat → Bool) (t : Nat) : Prop := ∀ y, y < t → ∀ w, ok y = some w → gl w = false
theorem noG_seen {ok : Nat → Option Nat} {gl : Nat → Bool} {t : Nat} (hn : noG ok gl t) (h : ∀ w, ok t = some w → ∃ y, y < t ∧ ok y = some w) : noG ok gl (t + 1) := fun y hy w hw => by
  by_cases e : y = t
  · subst e
    obtain ⟨y', y1, y2⟩ := h w hw
    exact hn y' y1 w y2
  · exact hn y (by omega) w hw
/-- a list that is without doubles and lies in another is no longer -/
theorem nodup_len {α : Type} [BEq α] [LawfulBEq α] : ∀ (l l' : List α), l.Nodup → (∀ x, x ∈ l → x ∈ l') → l.length ≤ l'.length := by
  intro l
  induction l with
  | nil => intro l' _ _; exact Nat.zero_le _
  | cons a l ih =>
    intro l' hn hs
    have ha := hs a (by simp)
    have hn' := List.nodup_cons.mp hn
    have := ih (l'.erase a) hn'.2 (fun x hx => (List.mem_erase_of_ne (by intro e; subst e; exact hn'.1 hx)).mpr (hs x (by simp [hx])))
    rw [List.length_erase_of_mem ha] at this
    have hp : 0 < l'.length := List.length_pos_of_mem ha
    simp only [List.length_cons]
    omega
/-! how many poses there can be: sums of moves and turns, by multisets of strings -/
def msA (δ : Nat → Int) (ε : Nat → Nat) (s : Nat) (x : Int × Nat) : Int × Nat := (x.1 + δ s, x.2 ^^^ ε s)
def ms (δ : Nat → Int) (ε : Nat → Nat) : Nat → Nat → List (Int × Nat)
  | 0, _ => [(0, 0)]
  | _ + 1, 0 => []
  | m + 1, k + 1 => (ms δ ε m (k + 1)).map (msA δ ε k) ++ ms δ ε (m + 1) k
def msL : Nat → Nat → Nat
  | 0, _ => 1
  | _ + 1, 0 => 0
  | m + 1, k + 1 => msL m (k + 1) + msL (m + 1) k
theorem ms_len {δ : Nat → Int} {ε : Nat → Nat} : ∀ m k, (ms δ ε m k).length = msL m k := by
  intro m
  induction m with
  | zero => intro k; simp [ms, msL]
  | succ m ih =>
    intro k
    induction k with
    | zero => simp [ms, msL]
    | succ k ihk => rw [ms, List.length_append, List.length_map, ih, ihk, msL]
theorem msA_comm {δ : Nat → Int} {ε : Nat → Nat} {s k : Nat} {x : Int × Nat} : msA δ ε s (msA δ ε k x) = msA δ ε k (msA δ ε s x) := by
  unfold msA
  simp only
  rw [Nat.xor_assoc, Nat.xor_comm (ε k), ← Nat.xor_assoc]
  congr 1
  omega
theorem ms_add {δ : Nat → Int} {ε : Nat → Nat} : ∀ (m k s : Nat) (x : Int × Nat), s < k → x ∈ ms δ ε m k → msA δ ε s x ∈ ms δ ε (m + 1) k := by
  intro m
  induction m with
  | zero =>
    intro k
    induction k with
    | zero => intro s x hs; omega
    | succ k ihk =>
      intro s x hs hx
      rw [ms]
      by_cases e : s = k
      · subst e
        exact List.mem_append_left _ (List.mem_map.mpr ⟨x, hx, rfl⟩)
      · exact List.mem_append_right _ (ihk s x (by omega) (by rw [ms] at hx ⊢; exact hx))
  | succ m ihm =>
    intro k
    induction k with
    | zero => intro s x hs; omega
    | succ k ihk =>
      intro s x hs hx
      rw [ms]
      by_cases e : s = k
      · subst e
        exact List.mem_append_left _ (List.mem_map.mpr ⟨x, hx, rfl⟩)
      · rw [ms, List.mem_append] at hx
        rcases hx with hx | hx
        · obtain ⟨y, y1, rfl⟩ := List.mem_map.mp hx
          rw [msA_comm]
          exact List.mem_append_left _ (List.mem_map.mpr ⟨_, ihm (k + 1) s y (by omega) y1, rfl⟩)
        · exact List.mem_append_right _ (ihk s x (by omega) hx)
def msF (w0 : Nat) (x : Int × Nat) : Nat := ((w0 % 2 ^ 20 : Nat) + x.1).toNat + 2 ^ 20 * (w0 / 2 ^ 20 ^^^ x.2)
def dlS (σ : rfP) (s : Nat) : Int := ((fb σ s : Nat) - 9 : Int) * ((16 ^ p_ow σ s : Nat) : Int)
def epS (σ : rfP) (s : Nat) : Nat := (ft σ s % 2 * 2 ^ p_ow σ s) ^^^ (ft σ s / 2 * 2 ^ (5 + p_ow σ s))
theorem mv_parts {σ : rfP} {w s : Nat} (ho : ok_S σ) (hs : s < p_S σ) (h : okP σ w) (hst : stW σ w s = true) : ((cMv σ w s % 2 ^ 20 : Nat) : Int) = (w % 2 ^ 20 : Nat) + dlS σ s ∧ cMv σ w s / 2 ^ 20 = w / 2 ^ 20 ^^^ epS σ s := by
  obtain ⟨o1, o2, o3, o4⟩ := ho
  obtain ⟨a1, a2, a3, a4, a5⟩ := o4 s hs
  have h5 : p_ow σ s < 5 := by omega
  have hx : 9 ≤ xw w (p_ow σ s) + fb σ s ∧ xw w (p_ow σ s) + fb σ s ≤ 18 := of_decide_eq_true hst
  have hge := sh_ge h5 hx.1
  obtain ⟨q1, q2, q3⟩ := sh_x (b := fb σ s) h.1 _ h5 hx.1 hx.2
  have y1 : (ft σ s % 2 * 2 ^ (20 + p_ow σ s)) = ft σ s % 2 * 2 ^ p_ow σ s * 2 ^ 20 := by rw [Nat.pow_add, Nat.mul_comm (2 ^ 20), Nat.mul_assoc]
  have y2 : (ft σ s / 2 * 2 ^ (25 + p_ow σ s)) = ft σ s / 2 * 2 ^ (5 + p_ow σ s) * 2 ^ 20 := by rw [show 25 + p_ow σ s = 5 + p_ow σ s + 20 by omega, Nat.pow_add, Nat.mul_assoc]
  unfold cMv mvW
  constructor
  · rw [Nat.xor_mod_two_pow, Nat.xor_mod_two_pow, y1, y2, Nat.mul_mod_left, Nat.mul_mod_left, Nat.xor_zero, Nat.xor_zero]
    have e1 : shW w (p_ow σ s) (fb σ s) = w + fb σ s * 16 ^ p_ow σ s - 9 * 16 ^ p_ow σ s := rfl
    have e2 := Nat.div_add_mod (shW w (p_ow σ s) (fb σ s)) (2 ^ 20)
    have e3 := Nat.div_add_mod w (2 ^ 20)
    rw [q3] at e2
    have e4 : dlS σ s = ((fb σ s * 16 ^ p_ow σ s : Nat) : Int) - ((9 * 16 ^ p_ow σ s : Nat) : Int) := by
      unfold dlS
      rw [Int.sub_mul]
      push_cast
      rfl
    rw [e4]
    generalize fb σ s * 16 ^ p_ow σ s = A at e1 hge ⊢
    generalize 9 * 16 ^ p_ow σ s = B at e1 hge ⊢
    generalize shW w (p_ow σ s) (fb σ s) = Y at e1 e2 ⊢
    omega
  · rw [Nat.xor_div_two_pow, Nat.xor_div_two_pow, q3, y1, y2, Nat.mul_div_cancel _ (by decide), Nat.mul_div_cancel _ (by decide), Nat.xor_assoc]
    rfl
theorem ms_pl {σ : rfP} {may : Nat → Nat → Nat → Bool} {vz : Nat → Nat → Bool} {w0 way : Nat} (ho : ok_S σ) (hmay : ∀ m w s, s < p_S σ → okP σ w → may m w s = true → stW σ w s = true) : ∀ (rem made w w' : Nat) (x : Int × Nat), okP σ w → w = msF w0 x → ((w % 2 ^ 20 : Nat) : Int) = (w0 % 2 ^ 20 : Nat) + x.1 → w / 2 ^ 20 = w0 / 2 ^ 20 ^^^ x.2 → x ∈ ms (dlS σ) (epS σ) made 7 → plW (p_S σ) may (cMv σ) vz rem made w way = some w' → ∃ x', x' ∈ ms (dlS σ) (epS σ) (made + rem) 7 ∧ w' = msF w0 x' := by
  have S7 := ho.2.1
  intro rem
  induction rem with
  | zero =>
    intro made w w' x hw hx h1 h2 hm h
    cases h
    exact ⟨x, hm, hx⟩
  | succ rem ih =>
    intro made w w' x hw hx h1 h2 hm h
    rw [plW] at h
    split at h
    · next hh =>
      generalize way / 7 ^ rem % 7 = s at h hh
      have hst := hmay made w s hh.1 hw hh.2.2
      obtain ⟨p1, p2⟩ := mv_parts ho hh.1 hw hst
      have g1 : ((cMv σ w s % 2 ^ 20 : Nat) : Int) = (w0 % 2 ^ 20 : Nat) + (msA (dlS σ) (epS σ) s x).1 := by
        show _ = _ + (x.1 + dlS σ s)
        rw [p1, h1]
        omega
      have g2 : cMv σ w s / 2 ^ 20 = w0 / 2 ^ 20 ^^^ (msA (dlS σ) (epS σ) s x).2 := by
        show _ = w0 / 2 ^ 20 ^^^ (x.2 ^^^ epS σ s)
        rw [p2, h2, Nat.xor_assoc]
      have g3 : cMv σ w s = msF w0 (msA (dlS σ) (epS σ) s x) := by
        unfold msF
        rw [← g1, ← g2]
        have := Nat.div_add_mod (cMv σ w s) (2 ^ 20)
        rw [Int.toNat_natCast]
        omega
      have := ih (made + 1) (cMv σ w s) w' _ (hw.mv ho hh.1 hst) g3 g1 g2 (ms_add made 7 s x (by omega) hm) h
      rw [show made + (rem + 1) = made + 1 + rem by omega]
      exact this
    · cases h
theorem lv_210 {σ : rfP} {may : Nat → Nat → Nat → Bool} {vz : Nat → Nat → Bool} {z : Nat → Bool} {fd : Nat → Int32} {w0 m t : Nat} (ho : ok_S σ) (hmay : ∀ m w s, s < p_S σ → okP σ w → may m w s = true → stW σ w s = true) (hw : okP σ w0) (hm : m ≤ 4) : (lv (plW (p_S σ) may (cMv σ) vz m 0 w0) z fd t).length ≤ 210 := by
  have h1 := nodup_len ((lv (plW (p_S σ) may (cMv σ) vz m 0 w0) z fd t).map (fun q => q.1)) ((ms (dlS σ) (epS σ) m 7).map (msF w0)) (lv_nodup t) (fun x hx => by
    obtain ⟨q, q1, q2⟩ := List.mem_map.mp hx
    obtain ⟨y, y1, y2, -⟩ := lv_from t q q1
    have e0 : w0 = msF w0 (0, 0) := by
      unfold msF
      simp only [Int.add_zero, Int.toNat_natCast, Nat.xor_zero]
      have := Nat.div_add_mod w0 (2 ^ 20)
      omega
    obtain ⟨x', x1, x2⟩ := ms_pl (w0 := w0) ho hmay m 0 w0 q.1 (0, 0) hw e0 (by simp) (by simp) (by rw [ms]; simp) y2
    rw [Nat.zero_add] at x1
    exact List.mem_map.mpr ⟨x', x1, by rw [← x2]; exact q2⟩)
  rw [List.length_map, List.length_map, ms_len] at h1
  have : msL m 7 ≤ 210 := by
    have : m = 0 ∨ m = 1 ∨ m = 2 ∨ m = 3 ∨ m = 4 := by omega
    rcases this with rfl | rfl | rfl | rfl | rfl <;> simp [msL]
  omega
