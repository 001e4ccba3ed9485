set_option maxRecDepth 20000 in
theorem am_LKd : am_LK.all am_lkd = true := by decide +kernel
theorem am_lk_some {c i : Nat} {q : Nat × Nat × am_MM} (h : am_lk c i = some q) : (∀ w ∈ am_wds (c, i, q), w ∈ am_WS) ∧ am_lkd (c, i, q) = true := by
  unfold am_lk at h
  cases hf : am_LK.find? (fun e => e.1 == c && e.2.1 == i) with
  | none => rw [hf] at h; cases h
  | some e =>
    rw [hf] at h
    have h1 := List.find?_some hf
    have h2 := List.mem_of_find?_eq_some hf
    simp only [Bool.and_eq_true, beq_iff_eq] at h1
    obtain ⟨a, b, r⟩ := e
    simp only [Option.map_some, Option.some.injEq] at h
    subst h
    obtain ⟨rfl, rfl⟩ := h1
    exact ⟨am_LKw _ h2, List.all_eq_true.mp am_LKd _ h2⟩
def am_cw (e : Nat × Nat × Nat) : Cond := .classLink (am_cn e.1) e.2.1 (am_own e.2.2)
set_option maxRecDepth 20000 in
theorem am_CLw0 : ∀ w ∈ (am_CL.map am_cw : List Cond), w ∈ am_WS := am_pick [125, 133, 139, 252, 258, 351, 383, 396, 469, 475, 494, 538, 571, 590, 1334] rfl (by decide +kernel)
def am_kw (e : Nat × Nat × Int32) : Cond := .constant (am_cn e.1) e.2.1 e.2.2
set_option maxRecDepth 20000 in
theorem am_KCw0 : ∀ w ∈ (am_KC.map am_kw : List Cond), w ∈ am_WS := am_pick [743, 768, 772, 934, 935, 936, 1003, 1236, 1303, 1769] rfl (by decide +kernel)
set_option maxRecDepth 20000 in
theorem am_Ow : ∀ w ∈ ([.constantLong RX13 181 27, .constantLong RX11 88 10, .arrayClass .int, .arrayClass .byte, .arrayClass .boolean, .arrayClass .long, .fieldLink RJ0 9 "java/lang/String" "value" "[B", .fieldLink RJ0 15 "java/lang/String" "coder" "B", .fieldLink RJ0 38 "java/lang/String" "COMPACT_STRINGS" "Z", .classLink RX6 9 RX3, .classLink RX4 11 "[[I", .classLink RX2 24 "[[I"] : List Cond), w ∈ am_WS := am_pick [1350, 714, 160, 159, 1564, 350, 1955, 1956, 273, 475, 544, 596] rfl (by decide +kernel)
set_option maxRecDepth 20000 in
theorem am_i0 : ∀ w ∈ ([.instantiable RX0 2, .initialized RX0] : List Cond), w ∈ am_WS := am_pick [384, 111] rfl (by decide +kernel)
set_option maxRecDepth 20000 in
theorem am_i1 : ∀ w ∈ ([.instantiable RX1 4, .initialized RX1] : List Cond), w ∈ am_WS := am_pick [140, 104] rfl (by decide +kernel)
set_option maxRecDepth 20000 in
theorem am_i2 : ∀ w ∈ ([.instantiable RX2 11, .initialized RX2] : List Cond), w ∈ am_WS := am_pick [591, 117] rfl (by decide +kernel)
set_option maxRecDepth 20000 in
theorem am_i3 : ∀ w ∈ ([.instantiable RX3 14, .initialized RX3] : List Cond), w ∈ am_WS := am_pick [397, 112] rfl (by decide +kernel)
set_option maxRecDepth 20000 in
theorem am_i4 : ∀ w ∈ ([.instantiable RX4 8, .initialized RX4] : List Cond), w ∈ am_WS := am_pick [539, 115] rfl (by decide +kernel)
set_option maxRecDepth 20000 in
theorem am_i5 : ∀ w ∈ ([.instantiable RX5 4, .initialized RX5] : List Cond), w ∈ am_WS := am_pick [572, 116] rfl (by decide +kernel)
set_option maxRecDepth 20000 in
theorem am_i6 : ∀ w ∈ ([.instantiable RX6 5, .initialized RX6] : List Cond), w ∈ am_WS := am_pick [470, 113] rfl (by decide +kernel)
set_option maxRecDepth 20000 in
theorem am_i7 : ∀ w ∈ ([.instantiable RX7 12, .initialized RX7] : List Cond), w ∈ am_WS := am_pick [495, 114] rfl (by decide +kernel)
set_option maxRecDepth 20000 in
theorem am_i8 : ∀ w ∈ ([.instantiable RX9 9, .initialized RX9] : List Cond), w ∈ am_WS := am_pick [253, 105] rfl (by decide +kernel)
set_option maxRecDepth 20000 in
theorem am_i9 : ∀ w ∈ ([.instantiable RX10 14, .initialized RX10] : List Cond), w ∈ am_WS := am_pick [134, 103] rfl (by decide +kernel)
set_option maxRecDepth 20000 in
theorem am_i10 : ∀ w ∈ ([.instantiable RX11 11, .initialized RX11] : List Cond), w ∈ am_WS := am_pick [259, 106] rfl (by decide +kernel)
set_option maxRecDepth 20000 in
theorem am_i11 : ∀ w ∈ ([.instantiable RX12 12, .initialized RX12] : List Cond), w ∈ am_WS := am_pick [126, 102] rfl (by decide +kernel)
set_option maxRecDepth 20000 in
theorem am_i12 : ∀ w ∈ ([.instantiable RX13 67, .initialized RX13] : List Cond), w ∈ am_WS := am_pick [1335, 118] rfl (by decide +kernel)
def am_cls (ci : Nat) : vw_C := vwCl.getD ci (RX0, TX0, 2)
theorem am_cls_at {ci : Nat} (h : ci < 13) : vwCl[ci]? = some (am_cls ci) := by
  match ci, h with
  | 0, _ => rfl
  | 1, _ => rfl
  | 2, _ => rfl
  | 3, _ => rfl
  | 4, _ => rfl
  | 5, _ => rfl
  | 6, _ => rfl
  | 7, _ => rfl
  | 8, _ => rfl
  | 9, _ => rfl
  | 10, _ => rfl
  | 11, _ => rfl
  | 12, _ => rfl
  | n + 13, h => exact absurd h (by omega)
theorem am_gl {ws : List Cond} (h : (∀ w ∈ ws, w ∈ lw_tbl) ∧ ws.all goodWord = true) : ∀ w ∈ ws, w ∈ am_WS := fun w hw => List.mem_filter.mpr ⟨h.1 w hw, List.all_eq_true.mp h.2 w hw⟩
/-- what each kind of object has of words -/
theorem am_kin {ci : Nat} (h : ci < 13) : (∀ w ∈ u_ws (am_cls ci).1 (am_cls ci).2.1 (am_cls ci).2.2, w ∈ am_WS) ∧ (∀ k, k < (am_cls ci).2.2 → parseFieldDescriptor ((am_cls ci).2.1 k).2.2.1 = some (am_ty ci k)) ∧ (∀ a, a < (am_cls ci).2.2 → ∀ b, b < (am_cls ci).2.2 → a ≠ b → ((am_cls ci).2.1 a).2.1 ≠ ((am_cls ci).2.1 b).2.1) ∧ Cond.instantiable (am_cls ci).1 (am_cls ci).2.2 ∈ am_WS ∧ Cond.initialized (am_cls ci).1 ∈ am_WS := by
  match ci, h with
  | 0, _ => exact ⟨am_gl am_k0, tyX0_ok, nmX0, am_i0 _ (by simp [am_cls, vwCl]), am_i0 _ (by simp [am_cls, vwCl])⟩
  | 1, _ => exact ⟨am_gl am_k1, tyX1_ok, nmX1, am_i1 _ (by simp [am_cls, vwCl]), am_i1 _ (by simp [am_cls, vwCl])⟩
  | 2, _ => exact ⟨am_gl am_k2, tyX2_ok, nmX2, am_i2 _ (by simp [am_cls, vwCl]), am_i2 _ (by simp [am_cls, vwCl])⟩
  | 3, _ => exact ⟨am_gl am_k3, tyX3_ok, nmX3, am_i3 _ (by simp [am_cls, vwCl]), am_i3 _ (by simp [am_cls, vwCl])⟩
  | 4, _ => exact ⟨am_gl am_k4, tyX4_ok, nmX4, am_i4 _ (by simp [am_cls, vwCl]), am_i4 _ (by simp [am_cls, vwCl])⟩
  | 5, _ => exact ⟨am_gl am_k5, tyX5_ok, nmX5, am_i5 _ (by simp [am_cls, vwCl]), am_i5 _ (by simp [am_cls, vwCl])⟩
  | 6, _ => exact ⟨am_gl am_k6, tyX6_ok, nmX6, am_i6 _ (by simp [am_cls, vwCl]), am_i6 _ (by simp [am_cls, vwCl])⟩
  | 7, _ => exact ⟨am_gl am_k7, tyX7_ok, nmX7, am_i7 _ (by simp [am_cls, vwCl]), am_i7 _ (by simp [am_cls, vwCl])⟩
  | 8, _ => exact ⟨am_gl am_k8, tyX9_ok, nmX9, am_i8 _ (by simp [am_cls, vwCl]), am_i8 _ (by simp [am_cls, vwCl])⟩
  | 9, _ => exact ⟨am_gl am_k9, tyX10_ok, nmX10, am_i9 _ (by simp [am_cls, vwCl]), am_i9 _ (by simp [am_cls, vwCl])⟩
  | 10, _ => exact ⟨am_gl am_k10, tyX11_ok, nmX11, am_i10 _ (by simp [am_cls, vwCl]), am_i10 _ (by simp [am_cls, vwCl])⟩
  | 11, _ => exact ⟨am_gl am_k11, tyX12_ok, nmX12, am_i11 _ (by simp [am_cls, vwCl]), am_i11 _ (by simp [am_cls, vwCl])⟩
  | 12, _ => exact ⟨am_gl am_k12, tyX13_ok, nmX13, am_i12 _ (by simp [am_cls, vwCl]), am_i12 _ (by simp [am_cls, vwCl])⟩
  | n + 13, h => exact absurd h (by omega)
theorem am_cl_some {c i ci : Nat} (h : am_cl c i = some ci) : Cond.classLink (am_cn c) i (am_own ci) ∈ am_WS := by
  unfold am_cl at h
  cases hf : am_CL.find? (fun e => e.1 == c && e.2.1 == i) with
  | none => rw [hf] at h; cases h
  | some e =>
    rw [hf] at h
    have h1 := List.find?_some hf
    have h2 := List.mem_of_find?_eq_some hf
    simp only [Bool.and_eq_true, beq_iff_eq] at h1
    obtain ⟨a, b, r⟩ := e
    simp only [Option.map_some, Option.some.injEq] at h
    subst h
    obtain ⟨rfl, rfl⟩ := h1
    exact am_CLw0 _ (List.mem_map_of_mem (f := am_cw) h2)
theorem am_kc_some {c i : Nat} {v : Int32} (h : am_kc c i = some v) : Cond.constant (am_cn c) i v ∈ am_WS := by
  unfold am_kc at h
  cases hf : am_KC.find? (fun e => e.1 == c && e.2.1 == i) with
  | none => rw [hf] at h; cases h
  | some e =>
    rw [hf] at h
    have h1 := List.find?_some hf
    have h2 := List.mem_of_find?_eq_some hf
    simp only [Bool.and_eq_true, beq_iff_eq] at h1
    obtain ⟨a, b, r⟩ := e
    simp only [Option.map_some, Option.some.injEq] at h
    subst h
    obtain ⟨rfl, rfl⟩ := h1
    exact am_KCw0 _ (List.mem_map_of_mem (f := am_kw) h2)
