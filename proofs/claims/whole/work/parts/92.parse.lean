--! 91
/-! TEXTS: what they say, pure -/
abbrev ER (α : Type) : Type := (Nat × Nat) ⊕ α
def erB {α β : Type} (r : ER α) (f : α → ER β) : ER β := match r with
  | .inl e => .inl e
  | .inr a => f a
def stE (t : Nat) : ER Nat := if t < 400 then .inr (t + 1) else .inl (2, t)
def tkE (x : txt) (c t : Nat) : ER Nat := if kK x t = c then stE t else .inl (1, t)
def mulOp (k : Nat) : Option Nat := if k = 42 then some 4 else if k = 47 then some 5 else none
def addOp (k : Nat) : Option Nat := if k = 43 then some 2 else if k = 45 then some 3 else none
def opL (x : txt) (u : Nat → ER (Nat × pfx)) (op : Nat → Option Nat) : Nat → Nat → pfx → ER (Nat × pfx)
  | 0, t, p => .inr (t, p)
  | f + 1, t, p => match op (kK x t) with
    | none => .inr (t, p)
    | some o => erB (stE t) fun t1 => erB (u t1) fun a => opL x u op f a.1 (p ++ (a.2 ++ [(o, 0)]))
def prodP (x : txt) (u : Nat → ER (Nat × pfx)) (t : Nat) : ER (Nat × pfx) := erB (u t) fun a => opL x u mulOp 400 a.1 a.2
def sumP (x : txt) (u : Nat → ER (Nat × pfx)) (t : Nat) : ER (Nat × pfx) := erB (prodP x u t) fun a => opL x (prodP x u) addOp 400 a.1 a.2
def unit0 (x : txt) (t : Nat) (br : ER (Nat × pfx)) : ER (Nat × pfx) := if kK x t = 21 then erB (stE t) fun t1 => .inr (t1, [(0, kV x t)]) else if 11 ≤ kK x t ∧ kK x t ≤ 19 then erB (stE t) fun t1 => .inr (t1, [(1, kK x t - 11)]) else if kK x t = 40 then br else .inl (1, t)
def unitP (x : txt) : Nat → Nat → ER (Nat × pfx)
  | 0 => fun t => unit0 x t (.inl (2, t))
  | lv + 1 => fun t => unit0 x t (erB (stE t) fun t1 => erB (sumP x (unitP x lv) t1) fun a => erB (tkE x 41 a.1) fun t2 => .inr (t2, a.2))
/-- an E -/
def exP (x : txt) (t : Nat) : ER (Nat × pfx) := sumP x (unitP x 6) t
def lawE (x : txt) (u : Nat) (acc : lawB) : ER (Nat × lawB × pfx) := erB (exP x u) fun a => erB (tkE x 59 a.1) fun u2 => .inr (u2, acc, a.2)
def lawB1 (x : txt) (u : Nat) : ER (Nat × pfx × pfx × pfx) := erB (stE u) fun u1 => erB (exP x u1) fun a => erB (tkE x 60 a.1) fun u3 => erB (exP x u3) fun b => erB (tkE x 9 b.1) fun u5 => erB (exP x u5) fun c => erB (tkE x 10 c.1) fun u7 => .inr (u7, a.2, b.2, c.2)
def lawL (x : txt) : Nat → Nat → lawB → ER (Nat × lawB × pfx)
  | 0 => fun u acc => if kK x u = 8 then .inl (2, u) else lawE x u acc
  | r + 1 => fun u acc => if kK x u = 8 then erB (lawB1 x u) fun b => lawL x r b.1 (acc ++ [b.2]) else lawE x u acc
/-- a law, from the word on -/
def lawP (x : txt) (t : Nat) : ER (Nat × lawB × pfx) := erB (stE t) fun t1 => erB (tkE x 61 t1) fun t2 => lawL x 4 t2 []
/-- tokens of given kinds, one behind the other -/
def chk (x : txt) : List Nat → Nat → ER Nat
  | [], t => .inr t
  | k :: ks, t => erB (tkE x k t) fun t1 => chk x ks t1
/-! facts -/
theorem erB_inl {α β : Type} {e : Nat × Nat} {f : α → ER β} : erB (.inl e) f = .inl e := rfl
theorem erB_inr {α β : Type} {a : α} {f : α → ER β} : erB (.inr a) f = f a := rfl
theorem stE_y {t : Nat} (h : t < 400) : stE t = .inr (t + 1) := if_pos h
theorem stE_n {t : Nat} (h : ¬ t < 400) : stE t = .inl (2, t) := if_neg h
theorem tkE_n {x : txt} {c t : Nat} (h : ¬ kK x t = c) : tkE x c t = .inl (1, t) := if_neg h
theorem tkE_y {x : txt} {c t : Nat} (h : kK x t = c) : tkE x c t = stE t := if_pos h
theorem stE_inr {t t' : Nat} (h : stE t = .inr t') : t < 400 ∧ t' = t + 1 := by
  unfold stE at h
  split at h
  · next ht => cases h; exact ⟨ht, rfl⟩
  · cases h
theorem tkE_inr {x : txt} {c t t' : Nat} (h : tkE x c t = .inr t') : kK x t = c ∧ t < 400 ∧ t' = t + 1 := by
  unfold tkE at h
  split at h
  · next hk => exact ⟨hk, stE_inr h⟩
  · cases h
theorem erB_some {α β : Type} {r : ER α} {f : α → ER β} {b : β} (h : erB r f = .inr b) : ∃ a, r = .inr a ∧ f a = .inr b := by
  cases r with
  | inl e => cases h
  | inr a => exact ⟨a, rfl, h⟩
theorem pfW_app {cap : Nat} : ∀ (p q : pfx) (d : Nat), pfW cap (p ++ q) d = (pfW cap p d).bind (fun d' => pfW cap q d') := by
  intro p
  induction p with
  | nil => intro q d; rfl
  | cons a p ih =>
    intro q d
    obtain ⟨k, v⟩ := a
    rw [List.cons_append, pfW, pfW]
    split
    · split
      · exact ih q _
      · rfl
    · split
      · split
        · exact ih q _
        · rfl
      · split
        · exact ih q _
        · rfl
theorem dg_le {x : txt} {p : Nat} : ∀ m, (∀ j, j < m → xD x (p + j) = true) → m ≤ 4 → cdW 10 (dgX x p (p + m)) < 10 ^ m := by
  intro m
  induction m with
  | zero => intro _ _; rw [Nat.add_zero, dgX_0]; decide
  | succ m ih =>
    intro h hm
    have := ih (fun j hj => h j (by omega)) (by omega)
    have hd := (of_decide_eq_true (h m (by omega))).2
    rw [← Nat.add_assoc, dgX_s (by omega), cdW_s, Nat.pow_succ]
    omega
theorem tK_dig {x : txt} {i : Nat} (h : tK x i = 21) : xD x (tP x i) = true ∧ rn x (xD x) (tP x i) - tP x i ≤ 4 := by
  unfold tK at h
  by_cases h1 : x.1 ≤ tP x i
  · rw [if_pos h1] at h; omega
  · rw [if_neg h1] at h
    by_cases h2 : xL x (tP x i) = true
    · rw [if_pos h2] at h
      by_cases h3 : 8 < rn x (xL x) (tP x i) - tP x i
      · rw [if_pos h3] at h; omega
      · rw [if_neg h3] at h
        have : wds.findIdx (fun l => l == nmX x (tP x i) (rn x (xL x) (tP x i))) ≤ 20 := wIx_le _
        omega
    · rw [if_neg h2] at h
      by_cases h3 : xD x (tP x i) = true
      · rw [if_pos h3] at h
        refine ⟨h3, ?_⟩
        by_cases h4 : 4 < rn x (xD x) (tP x i) - tP x i
        · rw [if_pos h4] at h; omega
        · omega
      · rw [if_neg h3] at h
        by_cases h4 : isSg (x.2 (tP x i)) = true
        · rw [if_pos h4] at h
          have := of_decide_eq_true h4
          omega
        · rw [if_neg h4] at h; omega
theorem kV_le {x : txt} {k : Nat} (h : kK x k = 21) : kV x k ≤ 9999 := by
  obtain ⟨h1, h2⟩ := tK_dig (x := x) (i := ps x k) h
  show cdW 10 (dgX x (tP x (ps x k)) (rn x (xD x) (tP x (ps x k)))) ≤ 9999
  generalize tP x (ps x k) = p at h1 h2 ⊢
  have hge := rn_ge (x := x) (p := xD x) (i := p)
  have hin := (rn_in (x := x) (p := xD x) xD_lt (x.1 - p) p rfl).2
  have h3 := dg_le (x := x) (p := p) (rn x (xD x) p - p) (fun j hj => hin (p + j) (by omega) (by omega)) h2
  rw [show p + (rn x (xD x) p - p) = rn x (xD x) p by omega] at h3
  have : 10 ^ (rn x (xD x) p - p) ≤ 10 ^ 4 := Nat.pow_le_pow_right (by omega) h2
  omega
def goodP (x : txt) (need : Nat) (u : Nat → ER (Nat × pfx)) : Prop := ∀ t t' p, u t = .inr (t', p) → t < t' ∧ t' ≤ 400 ∧ p.length ≤ t' - t ∧ (∀ cap d, d + need ≤ cap → pfW cap p d = some (d + 1)) ∧ ∀ q, t ≤ q → q < t' → kK x q ≠ 22
theorem opL_ok {x : txt} {need : Nat} {u : Nat → ER (Nat × pfx)} {op : Nat → Option Nat} (hu : goodP x need u) (hop : ∀ k o, op k = some o → 2 ≤ o ∧ o ≤ 5 ∧ k ≠ 22) (t0 : Nat) : ∀ (f t : Nat) (p : pfx) (t' : Nat) (p' : pfx), 401 ≤ f + t → t ≤ 400 → t0 < t → p.length ≤ t - t0 → (∀ cap d, d + (need + 1) ≤ cap → pfW cap p d = some (d + 1)) → (∀ q, t0 ≤ q → q < t → kK x q ≠ 22) → opL x u op f t p = .inr (t', p') → (t0 < t' ∧ t' ≤ 400 ∧ p'.length ≤ t' - t0 ∧ (∀ cap d, d + (need + 1) ≤ cap → pfW cap p' d = some (d + 1)) ∧ ∀ q, t0 ≤ q → q < t' → kK x q ≠ 22) ∧ op (kK x t') = none := by
  intro f
  induction f with
  | zero => intro t p t' p' h1 h2; omega
  | succ f ih =>
    intro t p t' p' h1 h2 h3 h4 h5 h6 h
    rw [opL] at h
    cases ho : op (kK x t) with
    | none =>
      rw [ho] at h
      cases h
      exact ⟨⟨h3, h2, h4, h5, h6⟩, ho⟩
    | some o =>
      rw [ho] at h
      obtain ⟨t1, e1, h⟩ := erB_some h
      obtain ⟨a, e2, h⟩ := erB_some h
      obtain ⟨ht, rfl⟩ := stE_inr e1
      obtain ⟨t2, q⟩ := a
      obtain ⟨g1, g2, g3, g4, g5⟩ := hu _ _ _ e2
      obtain ⟨o1, o2, o3⟩ := hop _ _ ho
      refine ih t2 _ t' p' (by omega) g2 (by omega) ?_ (fun cap d hc => ?_) (fun z z1 z2 => ?_) h
      · show (p ++ (q ++ [(o, 0)])).length ≤ t2 - t0
        rw [List.length_append, List.length_append, List.length_singleton]; omega
      · rw [pfW_app, h5 cap d hc, Option.bind_some, pfW_app, g4 cap (d + 1) (by omega), Option.bind_some, pfW, if_neg (by omega), if_neg (by omega), if_pos ⟨o2, by omega, rfl⟩]
        rfl
      · by_cases e : z < t
        · exact h6 z z1 e
        · by_cases e' : z = t
          · rw [e']; exact o3
          · exact g5 z (by omega) z2
theorem mulOp_ok : ∀ k o, mulOp k = some o → 2 ≤ o ∧ o ≤ 5 ∧ k ≠ 22 := by
  intro k o h
  unfold mulOp at h
  split at h
  · cases h; omega
  · split at h
    · cases h; omega
    · cases h
theorem addOp_ok : ∀ k o, addOp k = some o → 2 ≤ o ∧ o ≤ 5 ∧ k ≠ 22 := by
  intro k o h
  unfold addOp at h
  split at h
  · cases h; omega
  · split at h
    · cases h; omega
    · cases h
theorem prodP_ok {x : txt} {need : Nat} {u : Nat → ER (Nat × pfx)} (hu : goodP x need u) : ∀ t t' p, prodP x u t = .inr (t', p) → (t < t' ∧ t' ≤ 400 ∧ p.length ≤ t' - t ∧ (∀ cap d, d + (need + 1) ≤ cap → pfW cap p d = some (d + 1)) ∧ ∀ q, t ≤ q → q < t' → kK x q ≠ 22) ∧ mulOp (kK x t') = none := by
  intro t t' p h
  obtain ⟨a, e1, h⟩ := erB_some h
  obtain ⟨t1, q⟩ := a
  obtain ⟨g1, g2, g3, g4, g5⟩ := hu _ _ _ e1
  exact opL_ok hu mulOp_ok t 400 t1 q t' p (by omega) g2 g1 g3 (fun cap d hc => g4 cap d (by omega)) g5 h
theorem prodP_good {x : txt} {need : Nat} {u : Nat → ER (Nat × pfx)} (hu : goodP x need u) : goodP x (need + 1) (prodP x u) := fun t t' p h => (prodP_ok hu t t' p h).1
/-- behind a loop of sums no product goes on -/
theorem opL_mul {x : txt} {u : Nat → ER (Nat × pfx)} (hm : ∀ t t' p, u t = .inr (t', p) → mulOp (kK x t') = none) : ∀ (f t : Nat) (p : pfx) (t' : Nat) (p' : pfx), mulOp (kK x t) = none → opL x u addOp f t p = .inr (t', p') → mulOp (kK x t') = none := by
  intro f
  induction f with
  | zero => intro t p t' p' h0 h; cases h; exact h0
  | succ f ih =>
    intro t p t' p' h0 h
    rw [opL] at h
    cases ho : addOp (kK x t) with
    | none => rw [ho] at h; cases h; exact h0
    | some o =>
      rw [ho] at h
      obtain ⟨t1, e1, h⟩ := erB_some h
      obtain ⟨a, e2, h⟩ := erB_some h
      exact ih _ _ t' p' (hm _ _ _ e2) h
theorem sumP_ok {x : txt} {need : Nat} {u : Nat → ER (Nat × pfx)} (hu : goodP x need u) : ∀ t t' p, sumP x u t = .inr (t', p) → (t < t' ∧ t' ≤ 400 ∧ p.length ≤ t' - t ∧ (∀ cap d, d + (need + 2) ≤ cap → pfW cap p d = some (d + 1)) ∧ ∀ q, t ≤ q → q < t' → kK x q ≠ 22) ∧ mulOp (kK x t') = none ∧ addOp (kK x t') = none := by
  intro t t' p h
  obtain ⟨a, e1, h⟩ := erB_some h
  obtain ⟨t1, q⟩ := a
  obtain ⟨⟨g1, g2, g3, g4, g5⟩, g6⟩ := prodP_ok hu _ _ _ e1
  obtain ⟨k1, k2⟩ := opL_ok (prodP_good hu) addOp_ok t 400 t1 q t' p (by omega) g2 g1 g3 (fun cap d hc => g4 cap d (by omega)) g5 h
  exact ⟨k1, opL_mul (fun _ _ _ hh => (prodP_ok hu _ _ _ hh).2) 400 t1 q t' p g6 h, k2⟩
theorem sumP_good {x : txt} {need : Nat} {u : Nat → ER (Nat × pfx)} (hu : goodP x need u) : goodP x (need + 2) (sumP x u) := fun t t' p h => (sumP_ok hu t t' p h).1
theorem unit0_good {x : txt} {t : Nat} {br : ER (Nat × pfx)} {need : Nat} (h1 : 1 ≤ need) (hbr : kK x t = 40 → ∀ t' p, br = .inr (t', p) → t < t' ∧ t' ≤ 400 ∧ p.length ≤ t' - t ∧ (∀ cap d, d + need ≤ cap → pfW cap p d = some (d + 1)) ∧ ∀ q, t ≤ q → q < t' → kK x q ≠ 22) : ∀ t' p, unit0 x t br = .inr (t', p) → t < t' ∧ t' ≤ 400 ∧ p.length ≤ t' - t ∧ (∀ cap d, d + need ≤ cap → pfW cap p d = some (d + 1)) ∧ ∀ q, t ≤ q → q < t' → kK x q ≠ 22 := by
  intro t' p h
  unfold unit0 at h
  split at h
  · next hk =>
    obtain ⟨t1, e1, h⟩ := erB_some h
    obtain ⟨ht, rfl⟩ := stE_inr e1
    cases h
    have := kV_le hk
    refine ⟨by omega, by omega, by simp, fun cap d hc => ?_, fun q q1 q2 => ?_⟩
    · rw [pfW, if_pos rfl, if_pos ⟨this, by omega⟩]; rfl
    · have : q = t := by omega
      rw [this, hk]; decide
  · split at h
    · next hk =>
      obtain ⟨t1, e1, h⟩ := erB_some h
      obtain ⟨ht, rfl⟩ := stE_inr e1
      cases h
      refine ⟨by omega, by omega, by simp, fun cap d hc => ?_, fun q q1 q2 => ?_⟩
      · rw [pfW, if_neg (by omega), if_pos rfl, if_pos ⟨by omega, by omega⟩]; rfl
      · have : q = t := by omega
        rw [this]; omega
    · split at h
      · next hk => exact hbr hk t' p h
      · cases h
theorem unitP_good {x : txt} : ∀ lv, goodP x (1 + 2 * lv) (unitP x lv) := by
  intro lv
  induction lv with
  | zero => intro t t' p h; exact unit0_good (by omega) (fun _ t' p z => by cases z) t' p h
  | succ lv ih =>
    intro t t' p h
    refine unit0_good (by omega) (fun hk t' p z => ?_) t' p h
    obtain ⟨t1, e1, z⟩ := erB_some z
    obtain ⟨a, e2, z⟩ := erB_some z
    obtain ⟨t2, e3, z⟩ := erB_some z
    obtain ⟨ht, rfl⟩ := stE_inr e1
    obtain ⟨t3, q⟩ := a
    obtain ⟨g1, g2, g3, g4, g5⟩ := sumP_good ih _ _ _ e2
    obtain ⟨k1, k2, rfl⟩ := tkE_inr e3
    cases z
    refine ⟨by show t < t3 + 1; omega, by show t3 + 1 ≤ 400; omega, by show q.length ≤ t3 + 1 - t; omega, fun cap d hc => g4 cap d (by omega), fun q q1 q2 => ?_⟩
    have q2 : q < t3 + 1 := q2
    by_cases e : q = t
    · rw [e, hk]; decide
    · by_cases e' : q < t3
      · exact g5 q (by omega) e'
      · have : q = t3 := by omega
        rw [this]
        show kK x t3 ≠ 22
        rw [k1]; decide
theorem exP_good {x : txt} : goodP x 15 (exP x) := sumP_good (unitP_good 6)
