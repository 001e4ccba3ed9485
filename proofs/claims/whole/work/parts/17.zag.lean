--! 31
/-! WHAT HAS NOT CHANGED -/
/-- nothing but 'bad' places has changed -/
def am_ag (bad : Nat → Nat → Prop) (I I' : Nat → Nat → Int32) : Prop := ∀ k j, ¬ bad k j → I' k j = I k j
theorem am_ag.refl {bad : Nat → Nat → Prop} {I : Nat → Nat → Int32} : am_ag bad I I := fun _ _ _ => rfl
theorem am_ag.trans {bad : Nat → Nat → Prop} {I J K : Nat → Nat → Int32} (h1 : am_ag bad I J) (h2 : am_ag bad J K) : am_ag bad I K := fun k j h => (h2 k j h).trans (h1 k j h)
theorem am_ag.mono {bad bad' : Nat → Nat → Prop} {I J : Nat → Nat → Int32} (h : am_ag bad I J) (hb : ∀ k j, bad k j → bad' k j) : am_ag bad' I J := fun k j hn => h k j (fun z => hn (hb k j z))
theorem am_ag.u {bad : Nat → Nat → Prop} {I J : Nat → Nat → Int32} {k j : Nat} {x : Int32} (h : am_ag bad I J) (hb : bad k j) : am_ag bad I (am_u J k j x) := fun a b hn => by
  rw [← h a b hn]
  unfold am_u
  by_cases h1 : a = k
  · by_cases h2 : b = j
    · subst h1; subst h2; exact absurd hb hn
    · rw [if_pos h1, if_neg h2]
  · rw [if_neg h1]
theorem am_u_ne {α : Type} {h : Nat → Nat → α} {k j a : Nat} {x : α} (hn : a ≠ k) : am_u h k j x a = h a := by
  funext b; simp [am_u, hn]
theorem am_w_ne {α : Type} {h : Nat → Nat → α} {k a : Nat} {f : Nat → α} (hn : a ≠ k) : am_w h k f a = h a := by
  funext b; simp [am_w, hn]
theorem am_u_eq {α : Type} {h : Nat → Nat → α} {k j : Nat} {x : α} : am_u h k j x k = fun b => if b = j then x else h k b := by
  funext b; simp [am_u]
theorem am_w_eq {α : Type} {h : Nat → Nat → α} {k : Nat} {f : Nat → α} : am_w h k f k = f := by
  funext b; simp [am_w]
theorem am_u_at {α : Type} {h : Nat → Nat → α} {k j : Nat} {x : α} : am_u h k j x k j = x := by simp [am_u]
theorem am_u_n1 {α : Type} {h : Nat → Nat → α} {k j a b : Nat} {x : α} (hn : a ≠ k) : am_u h k j x a b = h a b := by simp [am_u, hn]
theorem am_u_n2 {α : Type} {h : Nat → Nat → α} {k j a b : Nat} {x : α} (hn : b ≠ j) : am_u h k j x a b = h a b := by simp [am_u, hn]
/-- what the laws write: variables, pile, isBroken -/
def sc1 (k j : Nat) : Prop := k = 101 ∨ k = 102 ∨ (k = 69 ∧ j = 50)
/-- what a look ahead writes: the row and the lots, too -/
def sc2 (k j : Nat) : Prop := sc1 k j ∨ k = 104 ∨ (k = 69 ∧ j = 53)
