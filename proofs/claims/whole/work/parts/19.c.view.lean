/-! THE CELLS BY OTHER NUMBERS: the cells that are made as 17, 18, 19 are called 2000, 2001, 2002, and what is made behind them has a number that is less by three. am_E: a run told by these numbers -/
def am_pi (k : Nat) : Nat := if k < 17 then k else if k < 2000 then k + 3 else if k < 2003 then k - 1983 else k
def am_io (k : Nat) : Nat := if k < 17 then k else if k < 20 then k + 1983 else if k < 2003 then k - 3 else k
theorem am_io_pi (k : Nat) : am_io (am_pi k) = k := by
  unfold am_pi
  by_cases h1 : k < 17
  · rw [if_pos h1]; unfold am_io; rw [if_pos h1]
  · rw [if_neg h1]
    by_cases h2 : k < 2000
    · have e1 : ¬ k + 3 < 17 := by omega
      have e2 : ¬ k + 3 < 20 := by omega
      have e3 : k + 3 < 2003 := by omega
      rw [if_pos h2]; unfold am_io; rw [if_neg e1, if_neg e2, if_pos e3]
      exact Nat.add_sub_cancel k 3
    · rw [if_neg h2]
      by_cases h3 : k < 2003
      · have e1 : ¬ k - 1983 < 17 := by omega
        have e2 : k - 1983 < 20 := by omega
        rw [if_pos h3]; unfold am_io; rw [if_neg e1, if_pos e2]
        exact Nat.sub_add_cancel (by omega)
      · have e2 : ¬ k < 20 := by omega
        rw [if_neg h3]; unfold am_io; rw [if_neg h1, if_neg e2, if_neg h3]
theorem am_pi_io (k : Nat) : am_pi (am_io k) = k := by
  unfold am_io
  by_cases h1 : k < 17
  · rw [if_pos h1]; unfold am_pi; rw [if_pos h1]
  · rw [if_neg h1]
    by_cases h2 : k < 20
    · have e1 : ¬ k + 1983 < 17 := by omega
      have e2 : ¬ k + 1983 < 2000 := by omega
      have e3 : k + 1983 < 2003 := by omega
      rw [if_pos h2]; unfold am_pi; rw [if_neg e1, if_neg e2, if_pos e3]
      exact Nat.add_sub_cancel k 1983
    · rw [if_neg h2]
      by_cases h3 : k < 2003
      · have e1 : ¬ k - 3 < 17 := by omega
        have e2 : k - 3 < 2000 := by omega
        rw [if_pos h3]; unfold am_pi; rw [if_neg e1, if_pos e2]
        exact Nat.sub_add_cancel (by omega)
      · have e2 : ¬ k < 2000 := by omega
        rw [if_neg h3]; unfold am_pi; rw [if_neg h1, if_neg e2, if_neg h3]
theorem am_pi_mid {n : Nat} (h : 17 ≤ n) (h2 : n < 2000) : am_pi n = n + 3 := by
  have e1 : ¬ n < 17 := by omega
  unfold am_pi; rw [if_neg e1, if_pos h2]
/-- k is a cell that is made, where n is the next number -/
def am_lv (n k : Nat) : Prop := am_pi k < n + 3
theorem am_lv_of {n k : Nat} (h : k < n) : am_lv n k := by
  unfold am_lv am_pi
  by_cases h1 : k < 17
  · rw [if_pos h1]; omega
  · rw [if_neg h1]
    by_cases h2 : k < 2000
    · rw [if_pos h2]; omega
    · rw [if_neg h2]
      by_cases h3 : k < 2003
      · rw [if_pos h3]; omega
      · rw [if_neg h3]; omega
theorem am_lw {n : Nat} (h : 116 ≤ n) : ∀ k, k < 116 → am_lv n k := fun k hk => am_lv_of (Nat.lt_of_lt_of_le hk h)
theorem am_lv0 {n : Nat} (h : 116 ≤ n) : am_lv n 2000 ∧ am_lv n 2001 ∧ am_lv n 2002 := by
  have e0 : am_pi 2000 = 17 := by decide
  have e1 : am_pi 2001 = 18 := by decide
  have e2 : am_pi 2002 = 19 := by decide
  unfold am_lv
  rw [e0, e1, e2]
  omega
/-- the shape of a cell by its number here -/
def am_SV (k : Nat) : Nat × Nat := am_SH (am_pi k)
def am_vP (v : Value) : Value := match v with
  | .ref k => .ref (am_pi k)
  | v => v
def am_vI (v : Value) : Value := match v with
  | .ref k => .ref (am_io k)
  | v => v
theorem am_vI_vP (v : Value) : am_vI (am_vP v) = v := by
  cases v <;> first | rfl | (show Value.ref (am_io (am_pi _)) = _; rw [am_io_pi])
theorem am_vP_vI (v : Value) : am_vP (am_vI v) = v := by
  cases v <;> first | rfl | (show Value.ref (am_pi (am_io _)) = _; rw [am_pi_io])
theorem am_vP_cat (v : Value) : (am_vP v).category = v.category := by cases v <;> rfl
def am_lP (ls : am_LS) : am_LS := ls.map (Option.map am_vP)
def am_sP (st : List Value) : List Value := st.map am_vP
def am_cI {α : Type} (f : Nat → Nat → α) : Nat → Nat → α := fun a b => f (am_io a) b
def am_cR (R : Nat → Nat → Option Nat) : Nat → Nat → Option Nat := fun a b => (R (am_io a) b).map am_pi
def am_mP (M : am_M) : am_M := (M.1 + 3, am_cI M.2.1, am_cI M.2.2.1, am_cR M.2.2.2)
def am_mI (M : am_M) : am_M := (M.1 - 3, (fun a b => M.2.1 (am_pi a) b), (fun a b => M.2.2.1 (am_pi a) b), (fun a b => (M.2.2.2 (am_pi a) b).map am_io))
theorem am_om1 (o : Option Nat) : (o.map am_pi).map am_io = o := by
  cases o with
  | none => rfl
  | some k => show some (am_io (am_pi k)) = some k; rw [am_io_pi]
theorem am_om2 (o : Option Nat) : (o.map am_io).map am_pi = o := by
  cases o with
  | none => rfl
  | some k => show some (am_pi (am_io k)) = some k; rw [am_pi_io]
theorem am_mI_mP (M : am_M) : am_mI (am_mP M) = M := by
  obtain ⟨n, I, L, R⟩ := M
  have e1 : (fun a b => am_cI I (am_pi a) b) = I := by funext a b; show I (am_io (am_pi a)) b = I a b; rw [am_io_pi]
  have e2 : (fun a b => am_cI L (am_pi a) b) = L := by funext a b; show L (am_io (am_pi a)) b = L a b; rw [am_io_pi]
  have e3 : (fun a b => (am_cR R (am_pi a) b).map am_io) = R := by funext a b; show ((R (am_io (am_pi a)) b).map am_pi).map am_io = R a b; rw [am_io_pi, am_om1]
  show (n + 3 - 3, (fun a b => am_cI I (am_pi a) b), (fun a b => am_cI L (am_pi a) b), (fun a b => (am_cR R (am_pi a) b).map am_io)) = _
  rw [e1, e2, e3, Nat.add_sub_cancel]
theorem am_mP_mI (M : am_M) (h : 3 ≤ M.1) : am_mP (am_mI M) = M := by
  obtain ⟨n, I, L, R⟩ := M
  have e1 : am_cI (fun a b => I (am_pi a) b) = I := by funext a b; show I (am_pi (am_io a)) b = I a b; rw [am_pi_io]
  have e2 : am_cI (fun a b => L (am_pi a) b) = L := by funext a b; show L (am_pi (am_io a)) b = L a b; rw [am_pi_io]
  have e3 : am_cR (fun a b => (R (am_pi a) b).map am_io) = R := by funext a b; show ((R (am_pi (am_io a)) b).map am_io).map am_pi = R a b; rw [am_pi_io, am_om2]
  have h : 3 ≤ n := h
  show (n - 3 + 3, am_cI (fun a b => I (am_pi a) b), am_cI (fun a b => L (am_pi a) b), am_cR (fun a b => (R (am_pi a) b).map am_io)) = _
  rw [e1, e2, e3, Nat.sub_add_cancel h]
theorem am_cI_at {α : Type} {f : Nat → Nat → α} {k j : Nat} : am_cI f (am_pi k) j = f k j := by show f (am_io (am_pi k)) j = f k j; rw [am_io_pi]
theorem am_cI_row {α : Type} {f : Nat → Nat → α} {k : Nat} : am_cI f (am_pi k) = f k := by funext j; exact am_cI_at
theorem am_cR_at {R : Nat → Nat → Option Nat} {k j : Nat} : va_rf (am_cR R (am_pi k) j) = am_vP (va_rf (R k j)) := by
  show va_rf ((R (am_io (am_pi k)) j).map am_pi) = _
  rw [am_io_pi]
  cases R k j <;> rfl
theorem am_cI_w {α : Type} {f : Nat → Nat → α} {k : Nat} {g : Nat → α} : am_cI (am_w f k g) = am_w (am_cI f) (am_pi k) g := by
  funext a b
  unfold am_cI am_w
  by_cases h : a = am_pi k
  · subst h; rw [am_io_pi, if_pos rfl, if_pos rfl]
  · rw [if_neg h, if_neg (fun z => h (by rw [← z, am_pi_io]))]
theorem am_cI_u {α : Type} {f : Nat → Nat → α} {k j : Nat} {x : α} : am_cI (am_u f k j x) = am_u (am_cI f) (am_pi k) j x := by
  funext a b
  unfold am_cI am_u
  by_cases h : a = am_pi k
  · subst h; rw [am_io_pi, if_pos rfl, if_pos rfl]; show (if b = j then x else f k b) = if b = j then x else f (am_io (am_pi k)) b; rw [am_io_pi]
  · rw [if_neg h, if_neg (fun z => h (by rw [← z, am_pi_io]))]
theorem am_cR_w {R : Nat → Nat → Option Nat} {k : Nat} {g : Nat → Option Nat} : am_cR (am_w R k g) = am_w (am_cR R) (am_pi k) (fun b => (g b).map am_pi) := by
  funext a b
  unfold am_cR am_w
  by_cases h : a = am_pi k
  · subst h; rw [am_io_pi, if_pos rfl, if_pos rfl]
  · rw [if_neg h, if_neg (fun z => h (by rw [← z, am_pi_io]))]
theorem am_cR_u {R : Nat → Nat → Option Nat} {k j : Nat} {x : Option Nat} : am_cR (am_u R k j x) = am_u (am_cR R) (am_pi k) j (x.map am_pi) := by
  funext a b
  unfold am_cR am_u
  by_cases h : a = am_pi k
  · subst h
    rw [am_io_pi, if_pos rfl, if_pos rfl]
    by_cases h2 : b = j
    · rw [if_pos h2, if_pos h2]
    · rw [if_neg h2, if_neg h2]; show _ = Option.map am_pi (R (am_io (am_pi k)) b); rw [am_io_pi]
  · rw [if_neg h, if_neg (fun z => h (by rw [← z, am_pi_io]))]
theorem am_sum_P (st : List Value) : am_sum (am_sP st) = am_sum st := by
  unfold am_sum am_sP
  rw [List.map_map]
  congr 1
  exact List.map_congr_left fun v _ => am_vP_cat v
theorem am_args_P (as : List Value) : am_args (as.map am_vP) = am_lP (am_args as) := by
  induction as with
  | nil => rfl
  | cons v vs ih =>
    show (if (am_vP v).category = 2 then some (am_vP v) :: none :: am_args (vs.map am_vP) else some (am_vP v) :: am_args (vs.map am_vP)) = am_lP (if v.category = 2 then some v :: none :: am_args vs else some v :: am_args vs)
    rw [am_vP_cat, ih]
    by_cases h : v.category = 2
    · rw [if_pos h, if_pos h]; rfl
    · rw [if_neg h, if_neg h]; rfl
theorem am_argsP_len (as : List Value) : (am_args (as.map am_vP)).length = (am_args as).length := by
  rw [am_args_P]; exact List.length_map _
theorem am_en_P (as : List Value) (n : Nat) : am_en (as.map am_vP) n = am_lP (am_en as n) := by
  unfold am_en
  rw [am_argsP_len, am_args_P]
  show am_lP (am_args as) ++ _ = List.map _ (am_args as ++ List.replicate _ none)
  rw [List.map_append, List.map_replicate]
  rfl
theorem am_getD_P (ls : am_LS) (k : Nat) : (am_lP ls).getD k none = (ls.getD k none).map am_vP := by
  rw [List.getD_eq_getElem?_getD, List.getD_eq_getElem?_getD]
  show ((List.map (Option.map am_vP) ls)[k]?).getD none = _
  rw [List.getElem?_map]
  cases ls[k]? <;> rfl
theorem am_cat2_P (o : Option Value) : am_cat2 (o.map am_vP) = am_cat2 o := by
  cases o with
  | none => rfl
  | some v => show ((am_vP v).category == 2) = (v.category == 2); rw [am_vP_cat]
theorem am_set_P (ls : am_LS) (k : Nat) (o : Option Value) : (am_lP ls).set k (o.map am_vP) = am_lP (ls.set k o) := by
  unfold am_lP
  rw [List.map_set]
theorem am_stP1 {ls : am_LS} {k : Nat} (v : Value) (hk : k < ls.length) (h : k = 0 ∨ am_cat2 (ls.getD (k - 1) none) = false) : am_st1 (am_lP ls) k (am_vP v) = some (am_lP (ls.set k (some v))) := by
  rw [am_st1_of (by unfold am_lP; rw [List.length_map]; exact hk) (by rw [am_getD_P, am_cat2_P]; exact h)]
  exact congrArg some (am_set_P ls k (some v))
theorem am_stP2 {ls : am_LS} {k : Nat} (v : Value) (hk : k + 1 < ls.length) (h : k = 0 ∨ am_cat2 (ls.getD (k - 1) none) = false) : am_st2 (am_lP ls) k (am_vP v) = some (am_lP ((ls.set k (some v)).set (k + 1) none)) := by
  rw [am_st2_of (by unfold am_lP; rw [List.length_map]; exact hk) (by rw [am_getD_P, am_cat2_P]; exact h)]
  have e := am_set_P ls k (some v)
  have e2 := am_set_P (ls.set k (some v)) (k + 1) none
  rw [← e2, ← e]
  rfl
def am_qP (Q : Option Value → am_M → Prop) : Option Value → am_M → Prop := fun v M => Q (v.map am_vI) (am_mI M)
def am_E (X : am_X) (d : Nat) (μ : am_MM) (pc : Nat) (ls : am_LS) (st : List Value) (M : am_M) (Q : Option Value → am_M → Prop) : Prop := am_F X d μ pc (am_lP ls) (am_sP st) (am_mP M) (am_qP Q)
theorem am_back (v : Option Value) (st : List Value) : am_sP ((v.map am_vI).toList ++ st) = v.toList ++ am_sP st := by
  cases v with
  | none => rfl
  | some v => show am_vP (am_vI v) :: am_sP st = v :: am_sP st; rw [am_vP_vI]
section AMV
variable {X : am_X} {d e : Nat} {μ ν : am_MM} {pc pc' : Nat} {ls ls' : am_LS} {st st' st0 : List Value} {M M' : am_M} {Q : Option Value → am_M → Prop} {i : Instr} {len : Nat}
theorem am_E_nx (hd : decode μ.2.2.1 pc = .ok (i, len)) (hs : am_stp X μ pc i len (am_lP ls) (am_sP st) (am_mP M) = some (.inl (pc', am_lP ls', am_sP st', am_mP M'))) : am_E X d μ pc ls st M Q ↔ am_E X d μ pc' ls' st' M' Q := am_F_nx hd hs
theorem am_E_ret {v : Option Value} (hd : decode μ.2.2.1 pc = .ok (i, len)) (hs : am_stp X μ pc i len (am_lP ls) (am_sP st) (am_mP M) = some (.inr (.inl (v.map am_vP)))) : am_E X d μ pc ls st M Q ↔ Q v M := by
  refine (am_F_ret hd hs).trans ?_
  have e1 : (v.map am_vP).map am_vI = v := by
    cases v with
    | none => rfl
    | some v => show some (am_vI (am_vP v)) = some v; rw [am_vI_vP]
  show Q ((v.map am_vP).map am_vI) (am_mI (am_mP M)) ↔ _
  rw [e1, am_mI_mP]
theorem am_E_mono {Q' : Option Value → am_M → Prop} (h : am_E X d μ pc ls st M Q) (hq : ∀ v M', Q v M' → Q' v M') : am_E X d μ pc ls st M Q' := am_F_mono h (fun _ _ z => hq _ _ z)
/-- a contract with a known end, as a rule -/
theorem am_E_det {v : Option Value} (h : am_E X d μ pc ls st M (fun v' M'' => v' = v ∧ M'' = M')) : am_E X d μ pc ls st M Q ↔ Q v M' := by
  obtain ⟨f, v1, M1, h, h1, h2⟩ := h
  have h1 : v1.map am_vI = v := h1
  have h2 : am_mI M1 = M' := h2
  constructor
  · rintro ⟨g, v2, M2, g2, hq⟩
    have a1 := am_run_le h (Nat.le_max_left f g)
    have a2 := am_run_le g2 (Nat.le_max_right f g)
    rw [a1] at a2
    cases a2
    have hq : Q (v1.map am_vI) (am_mI M1) := hq
    rw [h1, h2] at hq
    exact hq
  · intro hq
    exact ⟨f, v1, M1, h, by show Q (v1.map am_vI) (am_mI M1); rw [h1, h2]; exact hq⟩
/-- from a run by the true numbers to one by these -/
theorem am_F_E {Q : Option Value → am_M → Prop} (h : am_E X d μ pc ls st M (fun v M' => Q (v.map am_vP) (am_mP M'))) : am_F X d μ pc (am_lP ls) (am_sP st) (am_mP M) Q := by
  obtain ⟨f, v, M1, h1, h2⟩ := h
  have hm := (am_run_mono _ _ _ _ _ _ _ _ _ h1).1
  have hm : M.1 + 3 ≤ M1.1 := hm
  have h2 : Q ((v.map am_vI).map am_vP) (am_mP (am_mI M1)) := h2
  have e1 : (v.map am_vI).map am_vP = v := by
    cases v with
    | none => rfl
    | some v => show some (am_vP (am_vI v)) = some v; rw [am_vP_vI]
  rw [e1, am_mP_mI M1 (by omega)] at h2
  exact ⟨f, v, M1, h1, h2⟩
theorem am_q_call {as : List Value} (h : ∀ Q' : Option Value → am_M → Prop, am_F X (d + 1) μ pc (am_lP ls) (am_sP st0) (am_mP M) Q' ↔ am_F X d ν 0 (am_en (as.map am_vP) ν.2.2.2.1) [] (am_mP M) (fun v M' => am_F X (d + 1) μ (pc + 3) (am_lP ls) (v.toList ++ am_sP st) M' Q')) : am_E X (d + 1) μ pc ls st0 M Q ↔ am_E X d ν 0 (am_en as ν.2.2.2.1) [] M (fun v M' => am_E X (d + 1) μ (pc + 3) ls (v.toList ++ st) M' Q) := by
  refine (h (am_qP Q)).trans ?_
  rw [am_en_P]
  have key : ∀ (f : Nat) (v : Option Value) (M1 : am_M), am_run X f d ν 0 (am_lP (am_en as ν.2.2.2.1)) [] (am_mP M) = some (v, M1) → (am_F X (d + 1) μ (pc + 3) (am_lP ls) (v.toList ++ am_sP st) M1 (am_qP Q) ↔ am_E X (d + 1) μ (pc + 3) ls ((v.map am_vI).toList ++ st) (am_mI M1) Q) := by
    intro f v M1 h1
    have hm := (am_run_mono _ _ _ _ _ _ _ _ _ h1).1
    have hm : M.1 + 3 ≤ M1.1 := hm
    show _ ↔ am_F X (d + 1) μ (pc + 3) (am_lP ls) (am_sP ((v.map am_vI).toList ++ st)) (am_mP (am_mI M1)) (am_qP Q)
    rw [am_mP_mI M1 (by omega), am_back]
  constructor
  · rintro ⟨f, v, M1, h1, hq⟩
    exact ⟨f, v, M1, h1, (key f v M1 h1).mp hq⟩
  · rintro ⟨f, v, M1, h1, hq⟩
    exact ⟨f, v, M1, h1, (key f v M1 h1).mpr hq⟩
end AMV
section AMW
variable {X : am_X} {d : Nat} {μ : am_MM} {pc : Nat} {ls : am_LS} {st : List Value} {Q : Option Value → am_M → Prop} {n : Nat} {I : Nat → Nat → Int32} {L : Nat → Nat → Int64} {R : Nat → Nat → Option Nat} {k j ci ix : Nat}
theorem am_get_P : am_get (n + 3, am_cI I, am_cI L, am_cR R) ci (am_pi k) j = am_vP (am_get (n, I, L, R) ci k j) := by
  unfold am_get
  generalize am_fk (am_ty ci j) = t
  match t with
  | 0 => show Value.int (am_cI I (am_pi k) j) = .int (I k j); rw [am_cI_at]
  | 1 => show Value.long (am_cI L (am_pi k) j) = .long (L k j); rw [am_cI_at]
  | t + 2 => exact am_cR_at
theorem am_q_get (hd : decode μ.2.2.1 pc = .ok (.getfield ix, 3)) (h20 : ¬ μ.1 = 20) (hf : am_fl μ.1 ix = some (ci, j)) (hk : am_lv n k) (hs : (am_SV k).1 = ci) : am_E X d μ pc ls (.ref k :: st) (n, I, L, R) Q ↔ am_E X d μ (pc + 3) ls (am_get (n, I, L, R) ci k j :: st) (n, I, L, R) Q := by
  have h := am_r_get (X := X) (d := d) (ls := am_lP ls) (st := am_sP st) (n := n + 3) (I := am_cI I) (L := am_cI L) (R := am_cR R) (Q := am_qP Q) (k := am_pi k) hd h20 hf hk hs
  rw [am_get_P] at h
  exact h
theorem am_q_putI {x : Int32} (hd : decode μ.2.2.1 pc = .ok (.putfield ix, 3)) (hf : am_fl μ.1 ix = some (ci, j)) (hfn : am_fin ci j = false ∨ (μ.2.1.name = "<init>" ∧ am_own ci = am_cn μ.1)) (hfk : am_fk (am_ty ci j) = 0) (hnr : narrow (am_ty ci j) (.int x) = .int x) (hft : fits (am_ty ci j) (.int x) = true) (hn : n ≤ 1000) (hk : am_lv n k) (hs : (am_SV k).1 = ci) : am_E X d μ pc ls (.int x :: .ref k :: st) (n, I, L, R) Q ↔ am_E X d μ (pc + 3) ls st (n, am_u I k j x, L, R) Q := by
  have h := am_r_putI (X := X) (d := d) (ls := am_lP ls) (st := am_sP st) (n := n + 3) (I := am_cI I) (L := am_cI L) (R := am_cR R) (Q := am_qP Q) (k := am_pi k) hd hf hfn hfk hnr hft (by omega) hk hs
  rw [← am_cI_u] at h
  exact h
theorem am_q_putL {x : Int64} (hd : decode μ.2.2.1 pc = .ok (.putfield ix, 3)) (hf : am_fl μ.1 ix = some (ci, j)) (hfn : am_fin ci j = false ∨ (μ.2.1.name = "<init>" ∧ am_own ci = am_cn μ.1)) (hfk : am_fk (am_ty ci j) = 1) (hn : n ≤ 1000) (hk : am_lv n k) (hs : (am_SV k).1 = ci) : am_E X d μ pc ls (.long x :: .ref k :: st) (n, I, L, R) Q ↔ am_E X d μ (pc + 3) ls st (n, I, am_u L k j x, R) Q := by
  have h := am_r_putL (X := X) (d := d) (ls := am_lP ls) (st := am_sP st) (n := n + 3) (I := am_cI I) (L := am_cI L) (R := am_cR R) (Q := am_qP Q) (k := am_pi k) (x := x) hd hf hfn hfk (by omega) hk hs
  rw [← am_cI_u] at h
  exact h
theorem am_q_putR {a : Nat} (hd : decode μ.2.2.1 pc = .ok (.putfield ix, 3)) (hf : am_fl μ.1 ix = some (ci, j)) (hfn : am_fin ci j = false ∨ (μ.2.1.name = "<init>" ∧ am_own ci = am_cn μ.1)) (hfk : am_fk (am_ty ci j) = 2) (hn : n ≤ 1000) (hk : am_lv n k) (hs : (am_SV k).1 = ci) : am_E X d μ pc ls (.ref a :: .ref k :: st) (n, I, L, R) Q ↔ am_E X d μ (pc + 3) ls st (n, I, L, am_u R k j (some a)) Q := by
  have h := am_r_putR (X := X) (d := d) (ls := am_lP ls) (st := am_sP st) (n := n + 3) (I := am_cI I) (L := am_cI L) (R := am_cR R) (Q := am_qP Q) (k := am_pi k) (a := am_pi a) hd hf hfn hfk (by omega) hk hs
  have e : am_u (am_cR R) (am_pi k) j (some (am_pi a)) = am_cR (am_u R k j (some a)) := (am_cR_u (x := some a)).symm
  rw [e] at h
  exact h
theorem am_q_iald (hd : decode μ.2.2.1 pc = .ok (.iaload, 1)) (h30 : ¬ μ.1 = 30) (hk : am_lv n k) (hs : (am_SV k).1 = 20) (hj : j < (am_SV k).2) : am_E X d μ pc ls (.int (nI j) :: .ref k :: st) (n, I, L, R) Q ↔ am_E X d μ (pc + 1) ls (.int (I k j) :: st) (n, I, L, R) Q := by
  have h := am_r_iald (X := X) (d := d) (ls := am_lP ls) (st := am_sP st) (n := n + 3) (I := am_cI I) (L := am_cI L) (R := am_cR R) (Q := am_qP Q) (k := am_pi k) hd h30 hk hs hj
  rw [am_cI_at] at h
  exact h
theorem am_q_bald (hd : decode μ.2.2.1 pc = .ok (.baload, 1)) (h21 : ¬ μ.1 = 21) (hk : am_lv n k) (hs : (am_SV k).1 = 21 ∨ (am_SV k).1 = 22) (hj : j < (am_SV k).2) : am_E X d μ pc ls (.int (nI j) :: .ref k :: st) (n, I, L, R) Q ↔ am_E X d μ (pc + 1) ls (.int (I k j) :: st) (n, I, L, R) Q := by
  have h := am_r_bald (X := X) (d := d) (ls := am_lP ls) (st := am_sP st) (n := n + 3) (I := am_cI I) (L := am_cI L) (R := am_cR R) (Q := am_qP Q) (k := am_pi k) hd h21 hk hs hj
  rw [am_cI_at] at h
  exact h
theorem am_q_lald (hd : decode μ.2.2.1 pc = .ok (.laload, 1)) (hk : am_lv n k) (hs : (am_SV k).1 = 23) (hj : j < (am_SV k).2) : am_E X d μ pc ls (.int (nI j) :: .ref k :: st) (n, I, L, R) Q ↔ am_E X d μ (pc + 1) ls (.long (L k j) :: st) (n, I, L, R) Q := by
  have h := am_r_lald (X := X) (d := d) (ls := am_lP ls) (st := am_sP st) (n := n + 3) (I := am_cI I) (L := am_cI L) (R := am_cR R) (Q := am_qP Q) (k := am_pi k) hd hk hs hj
  rw [am_cI_at] at h
  exact h
theorem am_q_aald (hd : decode μ.2.2.1 pc = .ok (.aaload, 1)) (hk : am_lv n k) (hs : (am_SV k).1 = 24 ∨ (am_SV k).1 = 25) (hj : j < (am_SV k).2) : am_E X d μ pc ls (.int (nI j) :: .ref k :: st) (n, I, L, R) Q ↔ am_E X d μ (pc + 1) ls (va_rf (R k j) :: st) (n, I, L, R) Q := by
  have h := am_r_aald (X := X) (d := d) (ls := am_lP ls) (st := am_sP st) (n := n + 3) (I := am_cI I) (L := am_cI L) (R := am_cR R) (Q := am_qP Q) (k := am_pi k) hd hk hs hj
  rw [am_cR_at] at h
  exact h
theorem am_q_alen (hd : decode μ.2.2.1 pc = .ok (.arraylength, 1)) (hc : ¬ μ.1 = 30 ∧ ¬ μ.1 = 20 ∧ ¬ μ.1 = 21) (hk : am_lv n k) (hs : 20 ≤ (am_SV k).1 ∧ (am_SV k).1 ≤ 25) : am_E X d μ pc ls (.ref k :: st) (n, I, L, R) Q ↔ am_E X d μ (pc + 1) ls (.int (nI (am_SV k).2) :: st) (n, I, L, R) Q :=
  am_r_alen (X := X) (d := d) (ls := am_lP ls) (st := am_sP st) (n := n + 3) (I := am_cI I) (L := am_cI L) (R := am_cR R) (Q := am_qP Q) (k := am_pi k) hd hc hk hs
theorem am_q_iast {x : Int32} (hd : decode μ.2.2.1 pc = .ok (.iastore, 1)) (hn : n ≤ 1000) (hk : am_lv n k) (hs : (am_SV k).1 = 20) (hj : j < (am_SV k).2) : am_E X d μ pc ls (.int x :: .int (nI j) :: .ref k :: st) (n, I, L, R) Q ↔ am_E X d μ (pc + 1) ls st (n, am_u I k j x, L, R) Q := by
  have h := am_r_iast (X := X) (d := d) (ls := am_lP ls) (st := am_sP st) (n := n + 3) (I := am_cI I) (L := am_cI L) (R := am_cR R) (Q := am_qP Q) (k := am_pi k) (x := x) hd (by omega) hk hs hj
  rw [← am_cI_u] at h
  exact h
theorem am_q_bast {x : Int32} (hd : decode μ.2.2.1 pc = .ok (.bastore, 1)) (hn : n ≤ 1000) (hk : am_lv n k) (hs : (am_SV k).1 = 21) (hj : j < (am_SV k).2) : am_E X d μ pc ls (.int x :: .int (nI j) :: .ref k :: st) (n, I, L, R) Q ↔ am_E X d μ (pc + 1) ls st (n, am_u I k j (vp_nar .byte x), L, R) Q := by
  have h := am_r_bast (X := X) (d := d) (ls := am_lP ls) (st := am_sP st) (n := n + 3) (I := am_cI I) (L := am_cI L) (R := am_cR R) (Q := am_qP Q) (k := am_pi k) (x := x) hd (by omega) hk hs hj
  rw [← am_cI_u] at h
  exact h
theorem am_q_zast {x : Int32} (hd : decode μ.2.2.1 pc = .ok (.bastore, 1)) (hn : n ≤ 1000) (hk : am_lv n k) (hs : (am_SV k).1 = 22) (hj : j < (am_SV k).2) : am_E X d μ pc ls (.int x :: .int (nI j) :: .ref k :: st) (n, I, L, R) Q ↔ am_E X d μ (pc + 1) ls st (n, am_u I k j (vp_nar .boolean x), L, R) Q := by
  have h := am_r_zast (X := X) (d := d) (ls := am_lP ls) (st := am_sP st) (n := n + 3) (I := am_cI I) (L := am_cI L) (R := am_cR R) (Q := am_qP Q) (k := am_pi k) (x := x) hd (by omega) hk hs hj
  rw [← am_cI_u] at h
  exact h
theorem am_q_last {x : Int64} (hd : decode μ.2.2.1 pc = .ok (.lastore, 1)) (hn : n ≤ 1000) (hk : am_lv n k) (hs : (am_SV k).1 = 23) (hj : j < (am_SV k).2) : am_E X d μ pc ls (.long x :: .int (nI j) :: .ref k :: st) (n, I, L, R) Q ↔ am_E X d μ (pc + 1) ls st (n, I, am_u L k j x, R) Q := by
  have h := am_r_last (X := X) (d := d) (ls := am_lP ls) (st := am_sP st) (n := n + 3) (I := am_cI I) (L := am_cI L) (R := am_cR R) (Q := am_qP Q) (k := am_pi k) (x := x) hd (by omega) hk hs hj
  rw [← am_cI_u] at h
  exact h
theorem am_q_aast {a : Nat} (hd : decode μ.2.2.1 pc = .ok (.aastore, 1)) (hn : n ≤ 1000) (hk : am_lv n k) (hs : (am_SV k).1 = 24) (hj : j < (am_SV k).2) (ha : am_lv n a) (hsa : (am_SV a).1 = 3) : am_E X d μ pc ls (.ref a :: .int (nI j) :: .ref k :: st) (n, I, L, R) Q ↔ am_E X d μ (pc + 1) ls st (n, I, L, am_u R k j (some a)) Q := by
  have h := am_r_aast (X := X) (d := d) (ls := am_lP ls) (st := am_sP st) (n := n + 3) (I := am_cI I) (L := am_cI L) (R := am_cR R) (Q := am_qP Q) (k := am_pi k) (a := am_pi a) hd (by omega) hk hs hj ha hsa
  have e : am_u (am_cR R) (am_pi k) j (some (am_pi a)) = am_cR (am_u R k j (some a)) := (am_cR_u (x := some a)).symm
  rw [e] at h
  exact h
theorem am_make_P (h17 : 17 ≤ n) (hn : n < 2000) : am_make (n + 3, am_cI I, am_cI L, am_cR R) = am_mP (am_make (n, I, L, R)) := by
  have e := am_pi_mid h17 hn
  show (n + 3 + 1, am_w (am_cI I) (n + 3) (fun _ => 0), am_w (am_cI L) (n + 3) (fun _ => 0), am_w (am_cR R) (n + 3) (fun _ => none)) = (n + 1 + 3, am_cI (am_w I n (fun _ => 0)), am_cI (am_w L n (fun _ => 0)), am_cR (am_w R n (fun _ => none)))
  rw [am_cI_w, am_cI_w, am_cR_w, e]
  rfl
theorem am_q_new (hd : decode μ.2.2.1 pc = .ok (.new ix, 3)) (hf : am_cl μ.1 ix = some ci) (h17 : 17 ≤ n) (hn : n + 1 ≤ 1000) (hs : (am_SV n).1 = ci) : am_E X d μ pc ls st (n, I, L, R) Q ↔ am_E X d μ (pc + 3) ls (.ref n :: st) (am_make (n, I, L, R)) Q := by
  have e := am_pi_mid h17 (show n < 2000 by omega)
  have h := am_r_new (X := X) (d := d) (ls := am_lP ls) (st := am_sP st) (n := n + 3) (I := am_cI I) (L := am_cI L) (R := am_cR R) (Q := am_qP Q) hd hf (by omega) (by rw [← e]; exact hs)
  show am_F X d μ pc (am_lP ls) (am_sP st) (n + 3, am_cI I, am_cI L, am_cR R) (am_qP Q) ↔ am_F X d μ (pc + 3) (am_lP ls) (.ref (am_pi n) :: am_sP st) (am_mP (am_make (n, I, L, R))) (am_qP Q)
  rw [← am_make_P h17 (show n < 2000 by omega), e]
  exact h
theorem am_q_newI {x : Int32} (hd : decode μ.2.2.1 pc = .ok (.newarray .int, 2)) (h17 : 17 ≤ n) (hn : n + 1 ≤ 1000) (hs : am_SV n = (20, j)) (hx : x = nI j) : am_E X d μ pc ls (.int x :: st) (n, I, L, R) Q ↔ am_E X d μ (pc + 2) ls (.ref n :: st) (am_make (n, I, L, R)) Q := by
  have e := am_pi_mid h17 (show n < 2000 by omega)
  have h := am_r_newI (X := X) (d := d) (ls := am_lP ls) (st := am_sP st) (n := n + 3) (I := am_cI I) (L := am_cI L) (R := am_cR R) (Q := am_qP Q) hd (by omega) (by rw [← e]; exact hs) hx
  show am_F X d μ pc (am_lP ls) (.int x :: am_sP st) (n + 3, am_cI I, am_cI L, am_cR R) (am_qP Q) ↔ am_F X d μ (pc + 2) (am_lP ls) (.ref (am_pi n) :: am_sP st) (am_mP (am_make (n, I, L, R))) (am_qP Q)
  rw [← am_make_P h17 (show n < 2000 by omega), e]
  exact h
theorem am_q_copy {a b sp dp m : Nat} {o : Nat × am_MM} (hd : decode μ.2.2.1 pc = .ok (.invokestatic ix, 3)) (hl : am_lk μ.1 ix = some (5, o)) (hst : am_sum st ≤ 8) (ha : am_lv n a) (hsa : (am_SV a).1 = 20) (hb : am_lv n b) (hsb : (am_SV b).1 = 20) (h1 : sp + m ≤ (am_SV a).2) (h2 : dp + m ≤ (am_SV b).2) : am_E X d μ pc ls (.int (nI m) :: .int (nI dp) :: .ref b :: .int (nI sp) :: .ref a :: st) (n, I, L, R) Q ↔ am_E X d μ (pc + 3) ls st (am_copy (n, I, L, R) a b sp dp m) Q := by
  have h := am_r_copy (X := X) (d := d) (ls := am_lP ls) (st := am_sP st) (n := n + 3) (I := am_cI I) (L := am_cI L) (R := am_cR R) (Q := am_qP Q) (a := am_pi a) (b := am_pi b) hd hl (by rw [am_sum_P]; exact hst) ha hsa hb hsb h1 h2
  have e : am_copy (n + 3, am_cI I, am_cI L, am_cR R) (am_pi a) (am_pi b) sp dp m = am_mP (am_copy (n, I, L, R) a b sp dp m) := by
    show (n + 3, am_w (am_cI I) (am_pi b) (va_cpy (am_cI I (am_pi a)) (am_cI I (am_pi b)) sp dp m), am_cI L, am_cR R) = (n + 3, am_cI (am_w I b (va_cpy (I a) (I b) sp dp m)), am_cI L, am_cR R)
    rw [am_cI_w, am_cI_row, am_cI_row]
  rw [e] at h
  exact h
theorem am_q_objI {a : Nat} {o : Nat × am_MM} (hd : decode μ.2.2.1 pc = .ok (.invokespecial ix, 3)) (hl : am_lk μ.1 ix = some (4, o)) (hst : am_sum st ≤ 8) : am_E X d μ pc ls (.ref a :: st) (n, I, L, R) Q ↔ am_E X d μ (pc + 3) ls st (n, I, L, R) Q :=
  am_r_objI (X := X) (d := d) (ls := am_lP ls) (st := am_sP st) (n := n + 3) (I := am_cI I) (L := am_cI L) (R := am_cR R) (Q := am_qP Q) (a := am_pi a) hd hl (by rw [am_sum_P]; exact hst)
theorem am_q_max {x y : Int32} {o : Nat × am_MM} (hd : decode μ.2.2.1 pc = .ok (.invokestatic ix, 3)) (hl : am_lk μ.1 ix = some (6, o)) (hst : am_sum st ≤ 8) : am_E X d μ pc ls (.int y :: .int x :: st) (n, I, L, R) Q ↔ am_E X d μ (pc + 3) ls (.int (if x < y then y else x) :: st) (n, I, L, R) Q :=
  am_r_max (X := X) (d := d) (ls := am_lP ls) (st := am_sP st) (n := n + 3) (I := am_cI I) (L := am_cI L) (R := am_cR R) (Q := am_qP Q) hd hl (by rw [am_sum_P]; exact hst)
theorem am_q_min {x y : Int32} {o : Nat × am_MM} (hd : decode μ.2.2.1 pc = .ok (.invokestatic ix, 3)) (hl : am_lk μ.1 ix = some (7, o)) (hst : am_sum st ≤ 8) : am_E X d μ pc ls (.int y :: .int x :: st) (n, I, L, R) Q ↔ am_E X d μ (pc + 3) ls (.int (if y < x then y else x) :: st) (n, I, L, R) Q :=
  am_r_min (X := X) (d := d) (ls := am_lP ls) (st := am_sP st) (n := n + 3) (I := am_cI I) (L := am_cI L) (R := am_cR R) (Q := am_qP Q) hd hl (by rw [am_sum_P]; exact hst)
theorem am_q_abs {x : Int32} {o : Nat × am_MM} (hd : decode μ.2.2.1 pc = .ok (.invokestatic ix, 3)) (hl : am_lk μ.1 ix = some (8, o)) (hst : am_sum st ≤ 8) : am_E X d μ pc ls (.int x :: st) (n, I, L, R) Q ↔ am_E X d μ (pc + 3) ls (.int (if 0 ≤ x then x else 0 - x) :: st) (n, I, L, R) Q :=
  am_r_abs (X := X) (d := d) (ls := am_lP ls) (st := am_sP st) (n := n + 3) (I := am_cI I) (L := am_cI L) (R := am_cR R) (Q := am_qP Q) hd hl (by rw [am_sum_P]; exact hst)
theorem am_rev_P {a : Nat} {as : List Value} : am_sP (as.reverse ++ .ref a :: st) = (as.map am_vP).reverse ++ .ref (am_pi a) :: am_sP st := by
  unfold am_sP
  rw [List.map_append, List.map_reverse]
  rfl
theorem am_q_virt {ν : am_MM} {a : Nat} {as : List Value} (hd : decode μ.2.2.1 pc = .ok (.invokevirtual ix, 3)) (hl : am_lk μ.1 ix = some (0, as.length, ν)) (hmx : ¬ ν.2.2.2.1 < (am_args (.ref a :: as)).length) (hst : am_sum st ≤ 8) (ha : am_lv n a) (hci : (am_SV a).1 = ci) (h13 : ci < 13) (ho : am_own ci = ν.2.1.cls) : am_E X (d + 1) μ pc ls (as.reverse ++ .ref a :: st) (n, I, L, R) Q ↔ am_E X d ν 0 (am_en (.ref a :: as) ν.2.2.2.1) [] (n, I, L, R) (fun v M' => am_E X (d + 1) μ (pc + 3) ls (v.toList ++ st) M' Q) := by
  refine am_q_call (as := .ref a :: as) (fun Q' => ?_)
  rw [am_rev_P]
  exact am_r_virt (X := X) (ls := am_lP ls) (st := am_sP st) (n := n + 3) (I := am_cI I) (L := am_cI L) (R := am_cR R) (Q := Q') (a := am_pi a) (as := as.map am_vP) hd (by rw [List.length_map]; exact hl) (by have := am_argsP_len (.ref a :: as); rw [← this] at hmx; exact hmx) (by rw [am_sum_P]; exact hst) ha hci h13 ho
theorem am_q_stat {ν : am_MM} {as : List Value} (hd : decode μ.2.2.1 pc = .ok (.invokestatic ix, 3)) (hl : am_lk μ.1 ix = some (1, as.length, ν)) (hmx : ¬ ν.2.2.2.1 < (am_args as).length) (hst : am_sum st ≤ 8) : am_E X (d + 1) μ pc ls (as.reverse ++ st) (n, I, L, R) Q ↔ am_E X d ν 0 (am_en as ν.2.2.2.1) [] (n, I, L, R) (fun v M' => am_E X (d + 1) μ (pc + 3) ls (v.toList ++ st) M' Q) := by
  refine am_q_call (as := as) (fun Q' => ?_)
  have e : am_sP (as.reverse ++ st) = (as.map am_vP).reverse ++ am_sP st := by
    unfold am_sP
    rw [List.map_append, List.map_reverse]
  rw [e]
  exact am_r_stat (X := X) (ls := am_lP ls) (st := am_sP st) (n := n + 3) (I := am_cI I) (L := am_cI L) (R := am_cR R) (Q := Q') (as := as.map am_vP) hd (by rw [List.length_map]; exact hl) (by rw [am_argsP_len]; exact hmx) (by rw [am_sum_P]; exact hst)
theorem am_q_putInt {x : Int32} (hd : decode μ.2.2.1 pc = .ok (.putfield ix, 3)) (hf : am_fl μ.1 ix = some (ci, j)) (hfn : am_fin ci j = false) (hty : am_ty ci j = .int) (hn : n ≤ 1000) (hk : am_lv n k) (hs : (am_SV k).1 = ci) : am_E X d μ pc ls (.int x :: .ref k :: st) (n, I, L, R) Q ↔ am_E X d μ (pc + 3) ls st (n, am_u I k j x, L, R) Q :=
  am_q_putI hd hf (Or.inl hfn) (by rw [hty]; rfl) (by rw [hty]; rfl) (by rw [hty]; rfl) hn hk hs
end AMW
theorem am_ifq {X : am_X} {d : Nat} {μ : am_MM} {a b : Nat} {ls : am_LS} {st : List Value} {M : am_M} {Q : Option Value → am_M → Prop} {c : Bool} {p : Prop} [Decidable p] (h : (c = true) ↔ p) : am_E X d μ (if c = true then a else b) ls st M Q ↔ (if p then am_E X d μ a ls st M Q else am_E X d μ b ls st M Q) := by
  by_cases hp : p
  · rw [if_pos (h.mpr hp), if_pos hp]
  · rw [if_neg (fun z => hp (h.mp z)), if_neg hp]
theorem am_q_iret {X : am_X} {d : Nat} {μ : am_MM} {pc : Nat} {ls : am_LS} {M : am_M} {Q : Option Value → am_M → Prop} {x : Int32} {ty : FieldType} (hd : decode μ.2.2.1 pc = .ok (.ireturn, 1)) (hr : μ.2.2.2.2 = some ty) (hx : narrow ty (.int x) = .int x) : am_E X d μ pc ls [.int x] M Q ↔ Q (some (.int x)) M := by
  have h := am_r_iret (X := X) (d := d) (ls := am_lP ls) (M := am_mP M) (Q := am_qP Q) hd hr hx
  refine h.trans ?_
  show Q (some (.int x)) (am_mI (am_mP M)) ↔ _
  rw [am_mI_mP]
section AMT
variable {X : am_X} {d : Nat} {μ : am_MM} {pc : Nat} {ls : am_LS} {st : List Value} {Q : Option Value → am_M → Prop} {M : am_M} {k : Nat}
theorem am_q_istore {x : Int32} (hd : decode μ.2.2.1 pc = .ok (.istore k, 2)) (hk : k < ls.length) (h : k = 0 ∨ am_cat2 (ls.getD (k - 1) none) = false) : am_E X d μ pc ls (.int x :: st) M Q ↔ am_E X d μ (pc + 2) (ls.set k (some (.int x))) st M Q := am_r_istore (st := am_sP st) hd (am_stP1 (.int x) hk h)
theorem am_q_istore_n {x : Int32} {q : Fin 4} (hd : decode μ.2.2.1 pc = .ok (.istore_n q, 1)) (hk : (q : Nat) < ls.length) (h : (q : Nat) = 0 ∨ am_cat2 (ls.getD ((q : Nat) - 1) none) = false) : am_E X d μ pc ls (.int x :: st) M Q ↔ am_E X d μ (pc + 1) (ls.set (q : Nat) (some (.int x))) st M Q := am_r_istore_n (st := am_sP st) hd (am_stP1 (.int x) hk h)
theorem am_q_astore {x : Nat} (hd : decode μ.2.2.1 pc = .ok (.astore k, 2)) (hk : k < ls.length) (h : k = 0 ∨ am_cat2 (ls.getD (k - 1) none) = false) : am_E X d μ pc ls (.ref x :: st) M Q ↔ am_E X d μ (pc + 2) (ls.set k (some (.ref x))) st M Q := am_r_astore (st := am_sP st) (x := am_pi x) hd (am_stP1 (.ref x) hk h)
theorem am_q_astore_n {x : Nat} {q : Fin 4} (hd : decode μ.2.2.1 pc = .ok (.astore_n q, 1)) (hk : (q : Nat) < ls.length) (h : (q : Nat) = 0 ∨ am_cat2 (ls.getD ((q : Nat) - 1) none) = false) : am_E X d μ pc ls (.ref x :: st) M Q ↔ am_E X d μ (pc + 1) (ls.set (q : Nat) (some (.ref x))) st M Q := am_r_astore_n (st := am_sP st) (x := am_pi x) hd (am_stP1 (.ref x) hk h)
theorem am_q_lstore {x : Int64} (hd : decode μ.2.2.1 pc = .ok (.lstore k, 2)) (hk : k + 1 < ls.length) (h : k = 0 ∨ am_cat2 (ls.getD (k - 1) none) = false) : am_E X d μ pc ls (.long x :: st) M Q ↔ am_E X d μ (pc + 2) ((ls.set k (some (.long x))).set (k + 1) none) st M Q := am_r_lstore (st := am_sP st) hd (am_stP2 (.long x) hk h)
theorem am_q_lstore_n {x : Int64} {q : Fin 4} (hd : decode μ.2.2.1 pc = .ok (.lstore_n q, 1)) (hk : (q : Nat) + 1 < ls.length) (h : (q : Nat) = 0 ∨ am_cat2 (ls.getD ((q : Nat) - 1) none) = false) : am_E X d μ pc ls (.long x :: st) M Q ↔ am_E X d μ (pc + 1) ((ls.set (q : Nat) (some (.long x))).set ((q : Nat) + 1) none) st M Q := am_r_lstore_n (st := am_sP st) hd (am_stP2 (.long x) hk h)
theorem am_q_iinc {x : Int32} {z : Int} (hd : decode μ.2.2.1 pc = .ok (.iinc k z, 3)) (hl : ls.getD k none = some (.int x)) (hk : k < ls.length) (h : k = 0 ∨ am_cat2 (ls.getD (k - 1) none) = false) : am_E X d μ pc ls st M Q ↔ am_E X d μ (pc + 3) (ls.set k (some (.int (x + Int32.ofInt z)))) st M Q := am_r_iinc (st := am_sP st) hd (by rw [am_getD_P, hl]; rfl) (am_stP1 (.int (x + Int32.ofInt z)) hk h)
theorem am_q_div {x y : Int32} (hd : decode μ.2.2.1 pc = .ok (.idiv, 1)) (hy : ¬ y = 0) : am_E X d μ pc ls (.int y :: .int x :: st) M Q ↔ am_E X d μ (pc + 1) ls (.int (x / y) :: st) M Q := am_r_div (st := am_sP st) hd hy
theorem am_q_rem {x y : Int32} (hd : decode μ.2.2.1 pc = .ok (.irem, 1)) (hy : ¬ y = 0) : am_E X d μ pc ls (.int y :: .int x :: st) M Q ↔ am_E X d μ (pc + 1) ls (.int (x - x / y * y) :: st) M Q := am_r_rem (st := am_sP st) hd hy
theorem am_q_sw {x : Int32} {dflt lo hi : Int} {offs : Array Int} {len t : Nat} (hd : decode μ.2.2.1 pc = .ok (.tableswitch dflt lo hi offs, len)) (hx : x.toInt < lo ∨ hi < x.toInt) (ht : am_jmp pc dflt = some t) : am_E X d μ pc ls (.int x :: st) M Q ↔ am_E X d μ t ls st M Q := am_r_sw (st := am_sP st) hd hx ht
end AMT
