/-! shapes: an object has as many places as its class has fields -/
theorem am_shN : ∀ k, k < 124 → (am_SH k).1 < 13 → (am_SH k).2 = (am_cls (am_SH k).1).2.2 := by decide +kernel
theorem am_shN' {k : Nat} (h : (am_SH k).1 < 13) : (am_SH k).2 = (am_cls (am_SH k).1).2.2 := by
  by_cases hk : k < 124
  · exact am_shN k hk h
  · have h119 : ¬ k < 119 := by omega
    unfold am_SH at h ⊢
    rw [if_neg h119] at h ⊢
    have h5 : (k - 119) % 5 < 5 := Nat.mod_lt _ (by omega)
    match hm : (k - 119) % 5, h5 with
    | 0, _ => rfl
    | 1, _ => rw [hm] at h; simp at h
    | 2, _ => rw [hm] at h; simp at h
    | 3, _ => rw [hm] at h; simp at h
    | 4, _ => rw [hm] at h; simp at h
