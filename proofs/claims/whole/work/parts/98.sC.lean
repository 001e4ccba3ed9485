--! 98
/-! PROMISE 4: read -/
/-- a fault of form is 1 or 2 -/
def e12 {α : Type} (r : ER α) : Prop := ∀ e, r = .inl e → 1 ≤ e.1 ∧ e.1 ≤ 2
section SC1
variable {x : txt}
theorem e12_B {α β : Type} {r : ER α} {f : α → ER β} (h1 : e12 r) (h2 : ∀ a, e12 (f a)) : e12 (erB r f) := by
  intro e he
  cases r with
  | inl e' =>
    have he : (Sum.inl e' : ER β) = .inl e := he
    cases he
    exact h1 _ rfl
  | inr a => exact h2 a e he
theorem e12_r {α : Type} {a : α} : e12 (.inr a : ER α) := fun e he => by cases he
theorem e12_1 {α : Type} {t : Nat} : e12 (.inl (1, t) : ER α) := fun e he => by cases he; exact ⟨Nat.le_refl 1, Nat.le_succ 1⟩
theorem e12_2 {α : Type} {t : Nat} : e12 (.inl (2, t) : ER α) := fun e he => by cases he; exact ⟨Nat.le_succ 1, Nat.le_refl 2⟩
theorem e12_st {t : Nat} : e12 (stE t) := by
  unfold stE
  split
  · exact e12_r
  · exact e12_2
theorem e12_tk {c t : Nat} : e12 (tkE x c t) := by
  unfold tkE
  split
  · exact e12_st
  · exact e12_1
theorem e12_op {u : Nat → ER (Nat × pfx)} {op : Nat → Option Nat} (hu : ∀ t, e12 (u t)) : ∀ (f t : Nat) (p : pfx), e12 (opL x u op f t p) := by
  intro f
  induction f with
  | zero => intro t p; exact e12_r
  | succ f ih =>
    intro t p
    rw [opL]
    split
    · exact e12_r
    · exact e12_B e12_st (fun t1 => e12_B (hu t1) (fun a => ih _ _))
theorem e12_prod {u : Nat → ER (Nat × pfx)} (hu : ∀ t, e12 (u t)) (t : Nat) : e12 (prodP x u t) := e12_B (hu t) (fun a => e12_op hu _ _ _)
theorem e12_sum {u : Nat → ER (Nat × pfx)} (hu : ∀ t, e12 (u t)) (t : Nat) : e12 (sumP x u t) := e12_B (e12_prod hu t) (fun a => e12_op (e12_prod hu) _ _ _)
theorem e12_u0 {t : Nat} {br : ER (Nat × pfx)} (hb : e12 br) : e12 (unit0 x t br) := by
  unfold unit0
  split
  · exact e12_B e12_st (fun _ => e12_r)
  · split
    · exact e12_B e12_st (fun _ => e12_r)
    · split
      · exact hb
      · exact e12_1
theorem e12_unit : ∀ (lv t : Nat), e12 (unitP x lv t) := by
  intro lv
  induction lv with
  | zero => intro t; exact e12_u0 e12_2
  | succ lv ih => intro t; exact e12_u0 (e12_B e12_st (fun t1 => e12_B (e12_sum ih t1) (fun a => e12_B e12_tk (fun _ => e12_r))))
theorem e12_ex {t : Nat} : e12 (exP x t) := e12_sum (e12_unit 6) t
theorem e12_lawE {u : Nat} {acc : lawB} : e12 (lawE x u acc) := e12_B e12_ex (fun a => e12_B e12_tk (fun _ => e12_r))
theorem e12_lawL : ∀ (r u : Nat) (acc : lawB), e12 (lawL x r u acc) := by
  intro r
  induction r with
  | zero =>
    intro u acc
    show e12 (if kK x u = 8 then .inl (2, u) else lawE x u acc)
    split
    · exact e12_2
    · exact e12_lawE
  | succ r ih =>
    intro u acc
    show e12 (if kK x u = 8 then erB (lawB1 x u) (fun b => lawL x r b.1 (acc ++ [b.2])) else lawE x u acc)
    split
    · exact e12_B (e12_B e12_st (fun _ => e12_B e12_ex (fun _ => e12_B e12_tk (fun _ => e12_B e12_ex (fun _ => e12_B e12_tk (fun _ => e12_B e12_ex (fun _ => e12_B e12_tk (fun _ => e12_r)))))))) (fun b => ih _ _)
    · exact e12_lawE
theorem e12_chk : ∀ (ks : List Nat) (t : Nat), e12 (chk x ks t) := by
  intro ks
  induction ks with
  | nil => intro t; exact e12_r
  | cons k ks ih => intro t; exact e12_B e12_tk (fun t1 => ih t1)
theorem e12_lawQ {kk : Nat} {s : pst} : e12 (lawQ x kk s) := e12_B (e12_B e12_st (fun _ => e12_B e12_tk (fun _ => e12_lawL _ _ _))) (fun _ => e12_r)
theorem e12_tell {s : pst} : e12 (tellP x s) := by
  unfold tellP
  split
  · unfold puppetP
    split
    · exact e12_2
    · exact e12_B (e12_chk _ _) (fun _ => e12_r)
  split
  · unfold stringP
    split
    · exact e12_2
    · refine e12_B (e12_chk _ _) (fun t4 => ?_)
      split
      · exact e12_B (e12_chk _ _) (fun _ => e12_r)
      · exact e12_B (e12_chk _ _) (fun _ => e12_r)
  split
  · unfold childP
    split
    · exact e12_2
    · exact e12_B (e12_chk _ _) (fun _ => e12_r)
  split
  · exact e12_lawQ
  split
  · exact e12_lawQ
  split
  · exact e12_lawQ
  split
  · exact e12_B (e12_chk _ _) (fun _ => e12_r)
  split
  · exact e12_B (e12_chk _ _) (fun _ => e12_r)
  · exact e12_1
theorem e12_all : ∀ (f : Nat) (s : pst), e12 (allP x f s) := by
  intro f
  induction f with
  | zero => intro s; exact e12_r
  | succ f ih =>
    intro s
    rw [allP]
    split
    · exact e12_r
    · exact e12_B e12_tell (fun a => ih a)
end SC1
