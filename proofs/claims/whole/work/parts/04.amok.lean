def am_own (ci : Nat) : String := match vwCl[ci]? with
  | some q => q.1
  | none => ""
def am_WS : List Cond := lw_tbl.filter goodWord
theorem am_WSg : GoodIn am_WS am_WS := fun w h => ⟨h, good_of_word (List.mem_filter.mp h).2⟩
theorem am_mem {l : List Cond} {w : Cond} (i : Nat) (h : l[i]? = some w) : w ∈ l := by first | exact List.mem_of_getElem? h | exact List.getElem?_mem h
theorem am_pick {ws : List Cond} (ps : List Nat) (hp : ws = ps.filterMap (fun i => lw_tbl[i]?)) (h : ws.all goodWord = true) : ∀ w ∈ ws, w ∈ am_WS := by
  intro w hw
  have h1 := List.all_eq_true.mp h w hw
  rw [hp] at hw
  obtain ⟨i, -, hi⟩ := List.mem_filterMap.mp hw
  exact List.mem_filter.mpr ⟨am_mem i hi, h1⟩
/-- the words of a link -/
def am_wds (e : Nat × Nat × Nat × Nat × am_MM) : List Cond := match e.2.2.1 with
  | 0 => [.methodLink (am_cn e.1) e.2.1 e.2.2.2.2.2.1, .instanceMethod e.2.2.2.2.2.1, .selects e.2.2.2.2.2.1.cls e.2.2.2.2.2.1 e.2.2.2.2.2.1, .initialized e.2.2.2.2.2.1.cls, .code e.2.2.2.2.2.1 e.2.2.2.2.2.2.1 e.2.2.2.2.2.2.2.1 e.2.2.2.2.2.2.2.2]
  | 1 => [.methodLink (am_cn e.1) e.2.1 e.2.2.2.2.2.1, .static e.2.2.2.2.2.1, .initialized e.2.2.2.2.2.1.cls, .code e.2.2.2.2.2.1 e.2.2.2.2.2.2.1 e.2.2.2.2.2.2.2.1 e.2.2.2.2.2.2.2.2]
  | 2 => [.methodLink (am_cn e.1) e.2.1 e.2.2.2.2.2.1, .instanceMethod e.2.2.2.2.2.1, .initialized e.2.2.2.2.2.1.cls, .code e.2.2.2.2.2.1 e.2.2.2.2.2.2.1 e.2.2.2.2.2.2.2.1 e.2.2.2.2.2.2.2.2]
  | 3 => [.instanceMethod e.2.2.2.2.2.1, .initialized e.2.2.2.2.2.1.cls, .code e.2.2.2.2.2.1 e.2.2.2.2.2.2.1 e.2.2.2.2.2.2.2.1 e.2.2.2.2.2.2.2.2]
  | 6 => [.methodLink (am_cn e.1) e.2.1 Lib.Math.max.name, .static Lib.Math.max.name, .initialized "java/lang/Math", .code Lib.Math.max.name Lib.Math.max.code 2 (some .int)]
  | 7 => [.methodLink (am_cn e.1) e.2.1 Lib.Math.min.name, .static Lib.Math.min.name, .initialized "java/lang/Math", .code Lib.Math.min.name Lib.Math.min.code 2 (some .int)]
  | 8 => [.methodLink (am_cn e.1) e.2.1 Lib.Math.abs.name, .static Lib.Math.abs.name, .initialized "java/lang/Math", .code Lib.Math.abs.name Lib.Math.abs.code 1 (some .int)]
  | 4 => [.methodLink (am_cn e.1) e.2.1 objectInit, .instanceMethod objectInit, .code objectInit ⟨#[0xb1]⟩ 1 none]
  | _ => [.methodLink (am_cn e.1) e.2.1 arraycopyName, .native arraycopyName, .static arraycopyName, .initialized "java/lang/System"]
/-- what a link's method is -/
def am_lkd (e : Nat × Nat × Nat × Nat × am_MM) : Bool := decide (3 < e.2.2.1) || (decide (e.2.2.1 < 4) && plainName e.2.2.2.2.2.1.cls && decide (e.2.2.2.2.2.1.cls = am_cn e.2.2.2.2.1) && decide (e.2.2.2.2.2.1.cls ≠ "java/lang/invoke/MethodHandle") && decide (e.2.2.2.2.2.1.cls ≠ "java/lang/invoke/VarHandle") && decide ((parseMethodDescriptor e.2.2.2.2.2.1.desc).map (fun d => d.parameters.length) = some e.2.2.2.1) && decide (e.2.2.2.2.2.2.2.1 ≤ 41) && (decide (e.2.2.1 < 2) || (decide (e.2.2.2.2.2.1.name = "<init>") && decide (e.2.2.2.2.2.2.2.2 = none))))
set_option maxRecDepth 20000 in
theorem am_l0 : ∀ w ∈ am_wds (30, 9, 2, 0, mX12_init), w ∈ am_WS := am_pick [126, 127, 101, 128] rfl (by decide +kernel)
set_option maxRecDepth 20000 in
theorem am_l1 : ∀ w ∈ am_wds (12, 1, 4, 0, mX8_xOf), w ∈ am_WS := am_pick [129, 130, 131] rfl (by decide +kernel)
set_option maxRecDepth 20000 in
theorem am_l2 : ∀ w ∈ am_wds (12, 22, 2, 0, mX10_init), w ∈ am_WS := am_pick [134, 135, 102, 136] rfl (by decide +kernel)
set_option maxRecDepth 20000 in
theorem am_l3 : ∀ w ∈ am_wds (10, 3, 4, 0, mX8_xOf), w ∈ am_WS := am_pick [137, 130, 131] rfl (by decide +kernel)
set_option maxRecDepth 20000 in
theorem am_l4 : ∀ w ∈ am_wds (1, 5, 4, 0, mX8_xOf), w ∈ am_WS := am_pick [143, 130, 131] rfl (by decide +kernel)
set_option maxRecDepth 20000 in
theorem am_l5 : ∀ w ∈ am_wds (10, 59, 0, 0, mX10_clear), w ∈ am_WS := am_pick [160, 161, 162, 102, 163] rfl (by decide +kernel)
set_option maxRecDepth 20000 in
theorem am_l6 : ∀ w ∈ am_wds (10, 62, 0, 0, mX1_clear), w ∈ am_WS := am_pick [164, 165, 166, 103, 167] rfl (by decide +kernel)
set_option maxRecDepth 20000 in
theorem am_l7 : ∀ w ∈ am_wds (1, 27, 0, 1, mX1_startLaw), w ∈ am_WS := am_pick [168, 169, 170, 103, 171] rfl (by decide +kernel)
set_option maxRecDepth 20000 in
theorem am_l8 : ∀ w ∈ am_wds (1, 31, 0, 2, mX1_addStep), w ∈ am_WS := am_pick [172, 173, 174, 103, 175] rfl (by decide +kernel)
set_option maxRecDepth 20000 in
theorem am_l9 : ∀ w ∈ am_wds (9, 3, 4, 0, mX8_xOf), w ∈ am_WS := am_pick [256, 130, 131] rfl (by decide +kernel)
set_option maxRecDepth 20000 in
theorem am_l10 : ∀ w ∈ am_wds (9, 11, 2, 0, mX11_init), w ∈ am_WS := am_pick [259, 260, 105, 261] rfl (by decide +kernel)
set_option maxRecDepth 20000 in
theorem am_l11 : ∀ w ∈ am_wds (11, 1, 4, 0, mX8_xOf), w ∈ am_WS := am_pick [262, 130, 131] rfl (by decide +kernel)
set_option maxRecDepth 20000 in
theorem am_l12 : ∀ w ∈ am_wds (11, 39, 0, 0, mJ0_length_8abf5), w ∈ am_WS := am_pick [264, 265, 266, 106, 267] rfl (by decide +kernel)
set_option maxRecDepth 20000 in
theorem am_l13 : ∀ w ∈ am_wds (20, 335, 0, 0, mJ0_coder_7d493), w ∈ am_WS := am_pick [268, 269, 270, 106, 271] rfl (by decide +kernel)
set_option maxRecDepth 20000 in
theorem am_l14 : ∀ w ∈ am_wds (11, 44, 0, 1, mJ0_charAt_5068e), w ∈ am_WS := am_pick [274, 275, 276, 106, 277] rfl (by decide +kernel)
set_option maxRecDepth 20000 in
theorem am_l15 : ∀ w ∈ am_wds (20, 492, 0, 0, mJ0_isLatin1_aae02), w ∈ am_WS := am_pick [278, 279, 280, 106, 281] rfl (by decide +kernel)
theorem am_LKc0 : ∀ e ∈ [(30, 9, 2, 0, mX12_init), (12, 1, 4, 0, mX8_xOf), (12, 22, 2, 0, mX10_init), (10, 3, 4, 0, mX8_xOf), (1, 5, 4, 0, mX8_xOf), (10, 59, 0, 0, mX10_clear), (10, 62, 0, 0, mX1_clear), (1, 27, 0, 1, mX1_startLaw), (1, 31, 0, 2, mX1_addStep), (9, 3, 4, 0, mX8_xOf), (9, 11, 2, 0, mX11_init), (11, 1, 4, 0, mX8_xOf), (11, 39, 0, 0, mJ0_length_8abf5), (20, 335, 0, 0, mJ0_coder_7d493), (11, 44, 0, 1, mJ0_charAt_5068e), (20, 492, 0, 0, mJ0_isLatin1_aae02)], ∀ w ∈ am_wds e, w ∈ am_WS := List.forall_mem_cons.mpr ⟨am_l0, List.forall_mem_cons.mpr ⟨am_l1, List.forall_mem_cons.mpr ⟨am_l2, List.forall_mem_cons.mpr ⟨am_l3, List.forall_mem_cons.mpr ⟨am_l4, List.forall_mem_cons.mpr ⟨am_l5, List.forall_mem_cons.mpr ⟨am_l6, List.forall_mem_cons.mpr ⟨am_l7, List.forall_mem_cons.mpr ⟨am_l8, List.forall_mem_cons.mpr ⟨am_l9, List.forall_mem_cons.mpr ⟨am_l10, List.forall_mem_cons.mpr ⟨am_l11, List.forall_mem_cons.mpr ⟨am_l12, List.forall_mem_cons.mpr ⟨am_l13, List.forall_mem_cons.mpr ⟨am_l14, List.forall_mem_cons.mpr ⟨am_l15, fun _ h => absurd h List.not_mem_nil⟩⟩⟩⟩⟩⟩⟩⟩⟩⟩⟩⟩⟩⟩⟩⟩
set_option maxRecDepth 20000 in
theorem am_l16 : ∀ w ∈ am_wds (20, 495, 1, 2, mJ1_charAt_3b067), w ∈ am_WS := am_pick [282, 283, 107, 284] rfl (by decide +kernel)
set_option maxRecDepth 20000 in
theorem am_l17 : ∀ w ∈ am_wds (21, 9, 1, 2, mJ0_checkIndex_df160), w ∈ am_WS := am_pick [285, 286, 106, 287] rfl (by decide +kernel)
set_option maxRecDepth 20000 in
theorem am_l18 : ∀ w ∈ am_wds (20, 1059, 1, 3, mJ3_checkIndex_8e157), w ∈ am_WS := am_pick [290, 291, 108, 292] rfl (by decide +kernel)
set_option maxRecDepth 20000 in
theorem am_l19 : ∀ w ∈ am_wds (20, 498, 1, 2, mJ2_charAt_3b067), w ∈ am_WS := am_pick [293, 294, 109, 295] rfl (by decide +kernel)
set_option maxRecDepth 20000 in
theorem am_l20 : ∀ w ∈ am_wds (22, 67, 1, 2, mJ2_checkIndex_2214a), w ∈ am_WS := am_pick [296, 297, 109, 298] rfl (by decide +kernel)
set_option maxRecDepth 20000 in
theorem am_l21 : ∀ w ∈ am_wds (22, 48, 1, 1, mJ2_length_9d52b), w ∈ am_WS := am_pick [299, 300, 109, 301] rfl (by decide +kernel)
set_option maxRecDepth 20000 in
theorem am_l22 : ∀ w ∈ am_wds (22, 414, 1, 2, mJ0_checkIndex_df160), w ∈ am_WS := am_pick [302, 286, 106, 287] rfl (by decide +kernel)
set_option maxRecDepth 20000 in
theorem am_l23 : ∀ w ∈ am_wds (22, 71, 1, 2, mJ2_getChar_3b067), w ∈ am_WS := am_pick [303, 304, 109, 305] rfl (by decide +kernel)
set_option maxRecDepth 20000 in
theorem am_l24 : ∀ w ∈ am_wds (9, 41, 2, 0, mX10_init), w ∈ am_WS := am_pick [343, 135, 102, 136] rfl (by decide +kernel)
set_option maxRecDepth 20000 in
theorem am_l25 : ∀ w ∈ am_wds (12, 36, 2, 1, mX0_init), w ∈ am_WS := am_pick [376, 377, 110, 378] rfl (by decide +kernel)
set_option maxRecDepth 20000 in
theorem am_l26 : ∀ w ∈ am_wds (0, 3, 4, 0, mX8_xOf), w ∈ am_WS := am_pick [379, 130, 131] rfl (by decide +kernel)
set_option maxRecDepth 20000 in
theorem am_l27 : ∀ w ∈ am_wds (3, 3, 4, 0, mX8_xOf), w ∈ am_WS := am_pick [392, 130, 131] rfl (by decide +kernel)
set_option maxRecDepth 20000 in
theorem am_l28 : ∀ w ∈ am_wds (6, 3, 4, 0, mX8_xOf), w ∈ am_WS := am_pick [465, 130, 131] rfl (by decide +kernel)
set_option maxRecDepth 20000 in
theorem am_l29 : ∀ w ∈ am_wds (12, 59, 2, 2, mX7_init), w ∈ am_WS := am_pick [487, 488, 113, 489] rfl (by decide +kernel)
set_option maxRecDepth 20000 in
theorem am_l30 : ∀ w ∈ am_wds (7, 3, 4, 0, mX8_xOf), w ∈ am_WS := am_pick [490, 130, 131] rfl (by decide +kernel)
set_option maxRecDepth 20000 in
theorem am_l31 : ∀ w ∈ am_wds (12, 68, 2, 2, mX4_init), w ∈ am_WS := am_pick [531, 532, 114, 533] rfl (by decide +kernel)
theorem am_LKc1 : ∀ e ∈ [(20, 495, 1, 2, mJ1_charAt_3b067), (21, 9, 1, 2, mJ0_checkIndex_df160), (20, 1059, 1, 3, mJ3_checkIndex_8e157), (20, 498, 1, 2, mJ2_charAt_3b067), (22, 67, 1, 2, mJ2_checkIndex_2214a), (22, 48, 1, 1, mJ2_length_9d52b), (22, 414, 1, 2, mJ0_checkIndex_df160), (22, 71, 1, 2, mJ2_getChar_3b067), (9, 41, 2, 0, mX10_init), (12, 36, 2, 1, mX0_init), (0, 3, 4, 0, mX8_xOf), (3, 3, 4, 0, mX8_xOf), (6, 3, 4, 0, mX8_xOf), (12, 59, 2, 2, mX7_init), (7, 3, 4, 0, mX8_xOf), (12, 68, 2, 2, mX4_init)], ∀ w ∈ am_wds e, w ∈ am_WS := List.forall_mem_cons.mpr ⟨am_l16, List.forall_mem_cons.mpr ⟨am_l17, List.forall_mem_cons.mpr ⟨am_l18, List.forall_mem_cons.mpr ⟨am_l19, List.forall_mem_cons.mpr ⟨am_l20, List.forall_mem_cons.mpr ⟨am_l21, List.forall_mem_cons.mpr ⟨am_l22, List.forall_mem_cons.mpr ⟨am_l23, List.forall_mem_cons.mpr ⟨am_l24, List.forall_mem_cons.mpr ⟨am_l25, List.forall_mem_cons.mpr ⟨am_l26, List.forall_mem_cons.mpr ⟨am_l27, List.forall_mem_cons.mpr ⟨am_l28, List.forall_mem_cons.mpr ⟨am_l29, List.forall_mem_cons.mpr ⟨am_l30, List.forall_mem_cons.mpr ⟨am_l31, fun _ h => absurd h List.not_mem_nil⟩⟩⟩⟩⟩⟩⟩⟩⟩⟩⟩⟩⟩⟩⟩⟩
set_option maxRecDepth 20000 in
theorem am_l32 : ∀ w ∈ am_wds (4, 3, 4, 0, mX8_xOf), w ∈ am_WS := am_pick [534, 130, 131] rfl (by decide +kernel)
set_option maxRecDepth 20000 in
theorem am_l33 : ∀ w ∈ am_wds (12, 75, 2, 2, mX5_init), w ∈ am_WS := am_pick [564, 565, 115, 566] rfl (by decide +kernel)
set_option maxRecDepth 20000 in
theorem am_l34 : ∀ w ∈ am_wds (5, 3, 4, 0, mX8_xOf), w ∈ am_WS := am_pick [567, 130, 131] rfl (by decide +kernel)
set_option maxRecDepth 20000 in
theorem am_l35 : ∀ w ∈ am_wds (12, 82, 2, 1, mX2_init), w ∈ am_WS := am_pick [583, 584, 116, 585] rfl (by decide +kernel)
set_option maxRecDepth 20000 in
theorem am_l36 : ∀ w ∈ am_wds (2, 3, 4, 0, mX8_xOf), w ∈ am_WS := am_pick [586, 130, 131] rfl (by decide +kernel)
set_option maxRecDepth 20000 in
theorem am_l37 : ∀ w ∈ am_wds (30, 13, 0, 5, mX12_feed), w ∈ am_WS := am_pick [662, 663, 664, 101, 665] rfl (by decide +kernel)
set_option maxRecDepth 20000 in
theorem am_l38 : ∀ w ∈ am_wds (12, 87, 0, 1, mX12_putWord), w ∈ am_WS := am_pick [666, 668, 0, 101, 669] rfl (by decide +kernel)
set_option maxRecDepth 20000 in
theorem am_l39 : ∀ w ∈ am_wds (30, 18, 0, 1, mX12_back), w ∈ am_WS := am_pick [670, 671, 672, 101, 673] rfl (by decide +kernel)
set_option maxRecDepth 20000 in
theorem am_l40 : ∀ w ∈ am_wds (30, 23, 0, 0, mX12_read), w ∈ am_WS := am_pick [674, 675, 676, 101, 677] rfl (by decide +kernel)
set_option maxRecDepth 20000 in
theorem am_l41 : ∀ w ∈ am_wds (12, 91, 0, 2, mX9_faultOf), w ∈ am_WS := am_pick [678, 679, 680, 104, 681] rfl (by decide +kernel)
set_option maxRecDepth 20000 in
theorem am_l42 : ∀ w ∈ am_wds (9, 49, 0, 0, mX10_clear), w ∈ am_WS := am_pick [682, 161, 162, 102, 163] rfl (by decide +kernel)
set_option maxRecDepth 20000 in
theorem am_l43 : ∀ w ∈ am_wds (9, 52, 0, 2, mX11_start), w ∈ am_WS := am_pick [683, 684, 685, 105, 686] rfl (by decide +kernel)
set_option maxRecDepth 20000 in
theorem am_l44 : ∀ w ∈ am_wds (11, 48, 7, 0, mX8_xOf), w ∈ am_WS := am_pick [687, 688, 118, 689] rfl (by decide +kernel)
set_option maxRecDepth 20000 in
theorem am_l45 : ∀ w ∈ am_wds (11, 54, 0, 0, mX11_advance), w ∈ am_WS := am_pick [690, 691, 692, 105, 693] rfl (by decide +kernel)
set_option maxRecDepth 20000 in
theorem am_l46 : ∀ w ∈ am_wds (11, 57, 1, 1, mX11_isBlank), w ∈ am_WS := am_pick [694, 695, 105, 696] rfl (by decide +kernel)
set_option maxRecDepth 20000 in
theorem am_l47 : ∀ w ∈ am_wds (11, 61, 0, 0, mX11_letters), w ∈ am_WS := am_pick [697, 699, 1, 105, 700] rfl (by decide +kernel)
theorem am_LKc2 : ∀ e ∈ [(4, 3, 4, 0, mX8_xOf), (12, 75, 2, 2, mX5_init), (5, 3, 4, 0, mX8_xOf), (12, 82, 2, 1, mX2_init), (2, 3, 4, 0, mX8_xOf), (30, 13, 0, 5, mX12_feed), (12, 87, 0, 1, mX12_putWord), (30, 18, 0, 1, mX12_back), (30, 23, 0, 0, mX12_read), (12, 91, 0, 2, mX9_faultOf), (9, 49, 0, 0, mX10_clear), (9, 52, 0, 2, mX11_start), (11, 48, 7, 0, mX8_xOf), (11, 54, 0, 0, mX11_advance), (11, 57, 1, 1, mX11_isBlank), (11, 61, 0, 0, mX11_letters)], ∀ w ∈ am_wds e, w ∈ am_WS := List.forall_mem_cons.mpr ⟨am_l32, List.forall_mem_cons.mpr ⟨am_l33, List.forall_mem_cons.mpr ⟨am_l34, List.forall_mem_cons.mpr ⟨am_l35, List.forall_mem_cons.mpr ⟨am_l36, List.forall_mem_cons.mpr ⟨am_l37, List.forall_mem_cons.mpr ⟨am_l38, List.forall_mem_cons.mpr ⟨am_l39, List.forall_mem_cons.mpr ⟨am_l40, List.forall_mem_cons.mpr ⟨am_l41, List.forall_mem_cons.mpr ⟨am_l42, List.forall_mem_cons.mpr ⟨am_l43, List.forall_mem_cons.mpr ⟨am_l44, List.forall_mem_cons.mpr ⟨am_l45, List.forall_mem_cons.mpr ⟨am_l46, List.forall_mem_cons.mpr ⟨am_l47, fun _ h => absurd h List.not_mem_nil⟩⟩⟩⟩⟩⟩⟩⟩⟩⟩⟩⟩⟩⟩⟩⟩
set_option maxRecDepth 20000 in
theorem am_l48 : ∀ w ∈ am_wds (11, 64, 0, 0, mX11_digits), w ∈ am_WS := am_pick [701, 703, 2, 105, 704] rfl (by decide +kernel)
set_option maxRecDepth 20000 in
theorem am_l49 : ∀ w ∈ am_wds (11, 69, 0, 1, mJ0_indexOf_0f7a4), w ∈ am_WS := am_pick [706, 707, 708, 106, 709] rfl (by decide +kernel)
set_option maxRecDepth 20000 in
theorem am_l50 : ∀ w ∈ am_wds (20, 633, 0, 2, mJ0_indexOf_7cf53), w ∈ am_WS := am_pick [710, 711, 712, 106, 713] rfl (by decide +kernel)
set_option maxRecDepth 20000 in
theorem am_l51 : ∀ w ∈ am_wds (20, 505, 0, 0, mJ0_length_8abf5), w ∈ am_WS := am_pick [714, 265, 266, 106, 267] rfl (by decide +kernel)
set_option maxRecDepth 20000 in
theorem am_l52 : ∀ w ∈ am_wds (20, 637, 1, 4, mJ1_indexOf_4cfef), w ∈ am_WS := am_pick [715, 716, 107, 717] rfl (by decide +kernel)
set_option maxRecDepth 20000 in
theorem am_l53 : ∀ w ∈ am_wds (21, 88, 1, 1, mJ1_canEncode_9a6ad), w ∈ am_WS := am_pick [718, 719, 107, 720] rfl (by decide +kernel)
set_option maxRecDepth 20000 in
theorem am_l54 : ∀ w ∈ am_wds (21, 92, 6, 0, mX8_xOf), w ∈ am_WS := am_pick [721, 722, 118, 723] rfl (by decide +kernel)
set_option maxRecDepth 20000 in
theorem am_l55 : ∀ w ∈ am_wds (21, 38, 7, 0, mX8_xOf), w ∈ am_WS := am_pick [724, 688, 118, 689] rfl (by decide +kernel)
set_option maxRecDepth 20000 in
theorem am_l56 : ∀ w ∈ am_wds (21, 95, 1, 4, mJ1_indexOfChar_4cfef), w ∈ am_WS := am_pick [725, 726, 107, 727] rfl (by decide +kernel)
set_option maxRecDepth 20000 in
theorem am_l57 : ∀ w ∈ am_wds (20, 640, 1, 4, mJ2_indexOf_4cfef), w ∈ am_WS := am_pick [728, 729, 109, 730] rfl (by decide +kernel)
set_option maxRecDepth 20000 in
theorem am_l58 : ∀ w ∈ am_wds (22, 224, 6, 0, mX8_xOf), w ∈ am_WS := am_pick [731, 722, 118, 723] rfl (by decide +kernel)
set_option maxRecDepth 20000 in
theorem am_l59 : ∀ w ∈ am_wds (22, 183, 7, 0, mX8_xOf), w ∈ am_WS := am_pick [732, 688, 118, 689] rfl (by decide +kernel)
set_option maxRecDepth 20000 in
theorem am_l60 : ∀ w ∈ am_wds (22, 228, 1, 4, mJ2_indexOfChar_4cfef), w ∈ am_WS := am_pick [734, 735, 109, 736] rfl (by decide +kernel)
set_option maxRecDepth 20000 in
theorem am_l61 : ∀ w ∈ am_wds (22, 96, 1, 3, mJ2_checkBoundsBeginEnd_d044e), w ∈ am_WS := am_pick [737, 738, 109, 739] rfl (by decide +kernel)
set_option maxRecDepth 20000 in
theorem am_l62 : ∀ w ∈ am_wds (22, 241, 1, 3, mJ0_checkBoundsBeginEnd_23922), w ∈ am_WS := am_pick [740, 741, 106, 742] rfl (by decide +kernel)
set_option maxRecDepth 20000 in
theorem am_l63 : ∀ w ∈ am_wds (20, 1062, 1, 4, mJ3_checkFromToIndex_8c36e), w ∈ am_WS := am_pick [743, 744, 108, 745] rfl (by decide +kernel)
theorem am_LKc3 : ∀ e ∈ [(11, 64, 0, 0, mX11_digits), (11, 69, 0, 1, mJ0_indexOf_0f7a4), (20, 633, 0, 2, mJ0_indexOf_7cf53), (20, 505, 0, 0, mJ0_length_8abf5), (20, 637, 1, 4, mJ1_indexOf_4cfef), (21, 88, 1, 1, mJ1_canEncode_9a6ad), (21, 92, 6, 0, mX8_xOf), (21, 38, 7, 0, mX8_xOf), (21, 95, 1, 4, mJ1_indexOfChar_4cfef), (20, 640, 1, 4, mJ2_indexOf_4cfef), (22, 224, 6, 0, mX8_xOf), (22, 183, 7, 0, mX8_xOf), (22, 228, 1, 4, mJ2_indexOfChar_4cfef), (22, 96, 1, 3, mJ2_checkBoundsBeginEnd_d044e), (22, 241, 1, 3, mJ0_checkBoundsBeginEnd_23922), (20, 1062, 1, 4, mJ3_checkFromToIndex_8c36e)], ∀ w ∈ am_wds e, w ∈ am_WS := List.forall_mem_cons.mpr ⟨am_l48, List.forall_mem_cons.mpr ⟨am_l49, List.forall_mem_cons.mpr ⟨am_l50, List.forall_mem_cons.mpr ⟨am_l51, List.forall_mem_cons.mpr ⟨am_l52, List.forall_mem_cons.mpr ⟨am_l53, List.forall_mem_cons.mpr ⟨am_l54, List.forall_mem_cons.mpr ⟨am_l55, List.forall_mem_cons.mpr ⟨am_l56, List.forall_mem_cons.mpr ⟨am_l57, List.forall_mem_cons.mpr ⟨am_l58, List.forall_mem_cons.mpr ⟨am_l59, List.forall_mem_cons.mpr ⟨am_l60, List.forall_mem_cons.mpr ⟨am_l61, List.forall_mem_cons.mpr ⟨am_l62, List.forall_mem_cons.mpr ⟨am_l63, fun _ h => absurd h List.not_mem_nil⟩⟩⟩⟩⟩⟩⟩⟩⟩⟩⟩⟩⟩⟩⟩⟩
set_option maxRecDepth 20000 in
theorem am_l64 : ∀ w ∈ am_wds (22, 244, 1, 4, mJ2_indexOfCharUnsafe_4cfef), w ∈ am_WS := am_pick [746, 747, 109, 748] rfl (by decide +kernel)
set_option maxRecDepth 20000 in
theorem am_l65 : ∀ w ∈ am_wds (22, 232, 1, 4, mJ2_indexOfSupplementary_4cfef), w ∈ am_WS := am_pick [749, 750, 109, 751] rfl (by decide +kernel)
set_option maxRecDepth 20000 in
theorem am_l66 : ∀ w ∈ am_wds (22, 164, 1, 1, mJ11_isValidCodePoint_9a6ad), w ∈ am_WS := am_pick [752, 753, 119, 754] rfl (by decide +kernel)
set_option maxRecDepth 20000 in
theorem am_l67 : ∀ w ∈ am_wds (22, 157, 1, 1, mJ11_highSurrogate_5068e), w ∈ am_WS := am_pick [755, 756, 119, 757] rfl (by decide +kernel)
set_option maxRecDepth 20000 in
theorem am_l68 : ∀ w ∈ am_wds (22, 161, 1, 1, mJ11_lowSurrogate_5068e), w ∈ am_WS := am_pick [759, 760, 119, 761] rfl (by decide +kernel)
set_option maxRecDepth 20000 in
theorem am_l69 : ∀ w ∈ am_wds (9, 59, 0, 0, mX9_puppetTold), w ∈ am_WS := am_pick [763, 765, 3, 104, 766] rfl (by decide +kernel)
set_option maxRecDepth 20000 in
theorem am_l70 : ∀ w ∈ am_wds (9, 79, 0, 1, mX9_fail), w ∈ am_WS := am_pick [767, 769, 4, 104, 770] rfl (by decide +kernel)
set_option maxRecDepth 20000 in
theorem am_l71 : ∀ w ∈ am_wds (9, 88, 0, 0, mX9_step), w ∈ am_WS := am_pick [771, 773, 5, 104, 774] rfl (by decide +kernel)
set_option maxRecDepth 20000 in
theorem am_l72 : ∀ w ∈ am_wds (9, 85, 0, 0, mX11_advance), w ∈ am_WS := am_pick [775, 691, 692, 105, 693] rfl (by decide +kernel)
set_option maxRecDepth 20000 in
theorem am_l73 : ∀ w ∈ am_wds (9, 107, 0, 1, mX9_takeNewName), w ∈ am_WS := am_pick [776, 778, 6, 104, 779] rfl (by decide +kernel)
set_option maxRecDepth 20000 in
theorem am_l74 : ∀ w ∈ am_wds (9, 96, 0, 0, mX9_indexOfName), w ∈ am_WS := am_pick [780, 782, 7, 104, 783] rfl (by decide +kernel)
set_option maxRecDepth 20000 in
theorem am_l75 : ∀ w ∈ am_wds (9, 92, 0, 1, mX9_note), w ∈ am_WS := am_pick [784, 786, 8, 104, 787] rfl (by decide +kernel)
set_option maxRecDepth 20000 in
theorem am_l76 : ∀ w ∈ am_wds (9, 110, 0, 1, mX9_takeInt), w ∈ am_WS := am_pick [788, 790, 9, 104, 791] rfl (by decide +kernel)
set_option maxRecDepth 20000 in
theorem am_l77 : ∀ w ∈ am_wds (9, 115, 1, 3, mX8_shifted), w ∈ am_WS := am_pick [792, 793, 120, 794] rfl (by decide +kernel)
set_option maxRecDepth 20000 in
theorem am_l78 : ∀ w ∈ am_wds (9, 124, 0, 1, mX9_take), w ∈ am_WS := am_pick [795, 797, 10, 104, 798] rfl (by decide +kernel)
set_option maxRecDepth 20000 in
theorem am_l79 : ∀ w ∈ am_wds (9, 63, 0, 0, mX9_stringTold), w ∈ am_WS := am_pick [799, 801, 11, 104, 802] rfl (by decide +kernel)
theorem am_LKc4 : ∀ e ∈ [(22, 244, 1, 4, mJ2_indexOfCharUnsafe_4cfef), (22, 232, 1, 4, mJ2_indexOfSupplementary_4cfef), (22, 164, 1, 1, mJ11_isValidCodePoint_9a6ad), (22, 157, 1, 1, mJ11_highSurrogate_5068e), (22, 161, 1, 1, mJ11_lowSurrogate_5068e), (9, 59, 0, 0, mX9_puppetTold), (9, 79, 0, 1, mX9_fail), (9, 88, 0, 0, mX9_step), (9, 85, 0, 0, mX11_advance), (9, 107, 0, 1, mX9_takeNewName), (9, 96, 0, 0, mX9_indexOfName), (9, 92, 0, 1, mX9_note), (9, 110, 0, 1, mX9_takeInt), (9, 115, 1, 3, mX8_shifted), (9, 124, 0, 1, mX9_take), (9, 63, 0, 0, mX9_stringTold)], ∀ w ∈ am_wds e, w ∈ am_WS := List.forall_mem_cons.mpr ⟨am_l64, List.forall_mem_cons.mpr ⟨am_l65, List.forall_mem_cons.mpr ⟨am_l66, List.forall_mem_cons.mpr ⟨am_l67, List.forall_mem_cons.mpr ⟨am_l68, List.forall_mem_cons.mpr ⟨am_l69, List.forall_mem_cons.mpr ⟨am_l70, List.forall_mem_cons.mpr ⟨am_l71, List.forall_mem_cons.mpr ⟨am_l72, List.forall_mem_cons.mpr ⟨am_l73, List.forall_mem_cons.mpr ⟨am_l74, List.forall_mem_cons.mpr ⟨am_l75, List.forall_mem_cons.mpr ⟨am_l76, List.forall_mem_cons.mpr ⟨am_l77, List.forall_mem_cons.mpr ⟨am_l78, List.forall_mem_cons.mpr ⟨am_l79, fun _ h => absurd h List.not_mem_nil⟩⟩⟩⟩⟩⟩⟩⟩⟩⟩⟩⟩⟩⟩⟩⟩
set_option maxRecDepth 20000 in
theorem am_l80 : ∀ w ∈ am_wds (9, 130, 0, 0, mX9_takePuppetName), w ∈ am_WS := am_pick [803, 805, 12, 104, 806] rfl (by decide +kernel)
set_option maxRecDepth 20000 in
theorem am_l81 : ∀ w ∈ am_wds (9, 66, 0, 0, mX9_childTold), w ∈ am_WS := am_pick [807, 809, 13, 104, 810] rfl (by decide +kernel)
set_option maxRecDepth 20000 in
theorem am_l82 : ∀ w ∈ am_wds (9, 69, 0, 1, mX9_lawTold), w ∈ am_WS := am_pick [811, 813, 14, 104, 814] rfl (by decide +kernel)
set_option maxRecDepth 20000 in
theorem am_l83 : ∀ w ∈ am_wds (9, 161, 0, 1, mX1_startLaw), w ∈ am_WS := am_pick [815, 169, 170, 103, 171] rfl (by decide +kernel)
set_option maxRecDepth 20000 in
theorem am_l84 : ∀ w ∈ am_wds (9, 166, 0, 1, mX9_sum), w ∈ am_WS := am_pick [816, 818, 15, 104, 819] rfl (by decide +kernel)
set_option maxRecDepth 20000 in
theorem am_l85 : ∀ w ∈ am_wds (9, 179, 0, 1, mX9_product), w ∈ am_WS := am_pick [820, 822, 16, 104, 823] rfl (by decide +kernel)
set_option maxRecDepth 20000 in
theorem am_l86 : ∀ w ∈ am_wds (9, 182, 0, 1, mX9_unit), w ∈ am_WS := am_pick [824, 826, 17, 104, 827] rfl (by decide +kernel)
set_option maxRecDepth 20000 in
theorem am_l87 : ∀ w ∈ am_wds (9, 172, 0, 2, mX1_addStep), w ∈ am_WS := am_pick [828, 173, 174, 103, 175] rfl (by decide +kernel)
set_option maxRecDepth 20000 in
theorem am_l88 : ∀ w ∈ am_wds (9, 176, 0, 1, mX1_landHere), w ∈ am_WS := am_pick [829, 830, 831, 103, 832] rfl (by decide +kernel)
set_option maxRecDepth 20000 in
theorem am_l89 : ∀ w ∈ am_wds (9, 73, 0, 0, mX9_stormTold), w ∈ am_WS := am_pick [833, 835, 18, 104, 836] rfl (by decide +kernel)
set_option maxRecDepth 20000 in
theorem am_l90 : ∀ w ∈ am_wds (9, 76, 0, 0, mX9_seedTold), w ∈ am_WS := am_pick [837, 839, 19, 104, 840] rfl (by decide +kernel)
set_option maxRecDepth 20000 in
theorem am_l91 : ∀ w ∈ am_wds (12, 99, 0, 1, mX10_copyFrom), w ∈ am_WS := am_pick [841, 842, 843, 102, 844] rfl (by decide +kernel)
set_option maxRecDepth 20000 in
theorem am_l92 : ∀ w ∈ am_wds (10, 63, 5, 0, mX8_xOf), w ∈ am_WS := am_pick [845, 847, 846, 121] rfl (by decide +kernel)
set_option maxRecDepth 20000 in
theorem am_l93 : ∀ w ∈ am_wds (10, 69, 0, 1, mX1_copyFrom), w ∈ am_WS := am_pick [848, 849, 850, 103, 851] rfl (by decide +kernel)
set_option maxRecDepth 20000 in
theorem am_l94 : ∀ w ∈ am_wds (1, 35, 5, 0, mX8_xOf), w ∈ am_WS := am_pick [852, 847, 846, 121] rfl (by decide +kernel)
set_option maxRecDepth 20000 in
theorem am_l95 : ∀ w ∈ am_wds (12, 105, 0, 1, mX3_begin), w ∈ am_WS := am_pick [853, 854, 855, 111, 856] rfl (by decide +kernel)
theorem am_LKc5 : ∀ e ∈ [(9, 130, 0, 0, mX9_takePuppetName), (9, 66, 0, 0, mX9_childTold), (9, 69, 0, 1, mX9_lawTold), (9, 161, 0, 1, mX1_startLaw), (9, 166, 0, 1, mX9_sum), (9, 179, 0, 1, mX9_product), (9, 182, 0, 1, mX9_unit), (9, 172, 0, 2, mX1_addStep), (9, 176, 0, 1, mX1_landHere), (9, 73, 0, 0, mX9_stormTold), (9, 76, 0, 0, mX9_seedTold), (12, 99, 0, 1, mX10_copyFrom), (10, 63, 5, 0, mX8_xOf), (10, 69, 0, 1, mX1_copyFrom), (1, 35, 5, 0, mX8_xOf), (12, 105, 0, 1, mX3_begin)], ∀ w ∈ am_wds e, w ∈ am_WS := List.forall_mem_cons.mpr ⟨am_l80, List.forall_mem_cons.mpr ⟨am_l81, List.forall_mem_cons.mpr ⟨am_l82, List.forall_mem_cons.mpr ⟨am_l83, List.forall_mem_cons.mpr ⟨am_l84, List.forall_mem_cons.mpr ⟨am_l85, List.forall_mem_cons.mpr ⟨am_l86, List.forall_mem_cons.mpr ⟨am_l87, List.forall_mem_cons.mpr ⟨am_l88, List.forall_mem_cons.mpr ⟨am_l89, List.forall_mem_cons.mpr ⟨am_l90, List.forall_mem_cons.mpr ⟨am_l91, List.forall_mem_cons.mpr ⟨am_l92, List.forall_mem_cons.mpr ⟨am_l93, List.forall_mem_cons.mpr ⟨am_l94, List.forall_mem_cons.mpr ⟨am_l95, fun _ h => absurd h List.not_mem_nil⟩⟩⟩⟩⟩⟩⟩⟩⟩⟩⟩⟩⟩⟩⟩⟩
set_option maxRecDepth 20000 in
theorem am_l96 : ∀ w ∈ am_wds (3, 55, 1, 2, mJ7_fill_53178), w ∈ am_WS := am_pick [857, 858, 122, 859] rfl (by decide +kernel)
set_option maxRecDepth 20000 in
theorem am_l97 : ∀ w ∈ am_wds (3, 61, 0, 1, mX3_openCase), w ∈ am_WS := am_pick [860, 861, 862, 111, 863] rfl (by decide +kernel)
set_option maxRecDepth 20000 in
theorem am_l98 : ∀ w ∈ am_wds (12, 108, 0, 0, mX6_clear), w ∈ am_WS := am_pick [864, 865, 866, 112, 867] rfl (by decide +kernel)
set_option maxRecDepth 20000 in
theorem am_l99 : ∀ w ∈ am_wds (30, 28, 0, 0, mX12_place), w ∈ am_WS := am_pick [868, 869, 870, 101, 871] rfl (by decide +kernel)
set_option maxRecDepth 20000 in
theorem am_l100 : ∀ w ∈ am_wds (30, 32, 0, 2, mX12_puppet), w ∈ am_WS := am_pick [872, 873, 874, 101, 875] rfl (by decide +kernel)
set_option maxRecDepth 20000 in
theorem am_l101 : ∀ w ∈ am_wds (12, 114, 0, 1, mX10_hasPuppet), w ∈ am_WS := am_pick [876, 877, 878, 102, 879] rfl (by decide +kernel)
set_option maxRecDepth 20000 in
theorem am_l102 : ∀ w ∈ am_wds (12, 121, 1, 2, mX8_xOf), w ∈ am_WS := am_pick [880, 881, 120, 882] rfl (by decide +kernel)
set_option maxRecDepth 20000 in
theorem am_l103 : ∀ w ∈ am_wds (12, 127, 1, 2, mX8_headOf), w ∈ am_WS := am_pick [883, 884, 120, 885] rfl (by decide +kernel)
set_option maxRecDepth 20000 in
theorem am_l104 : ∀ w ∈ am_wds (12, 130, 1, 2, mX8_handOf), w ∈ am_WS := am_pick [886, 887, 120, 888] rfl (by decide +kernel)
set_option maxRecDepth 20000 in
theorem am_l105 : ∀ w ∈ am_wds (12, 137, 0, 1, mX10_stringsOf), w ∈ am_WS := am_pick [889, 890, 891, 102, 892] rfl (by decide +kernel)
set_option maxRecDepth 20000 in
theorem am_l106 : ∀ w ∈ am_wds (30, 37, 0, 2, mX12_string), w ∈ am_WS := am_pick [893, 894, 895, 101, 896] rfl (by decide +kernel)
set_option maxRecDepth 20000 in
theorem am_l107 : ∀ w ∈ am_wds (12, 141, 0, 1, mX10_hasString), w ∈ am_WS := am_pick [897, 898, 899, 102, 900] rfl (by decide +kernel)
set_option maxRecDepth 20000 in
theorem am_l108 : ∀ w ∈ am_wds (30, 41, 0, 1, mX12_court), w ∈ am_WS := am_pick [901, 902, 903, 101, 904] rfl (by decide +kernel)
set_option maxRecDepth 20000 in
theorem am_l109 : ∀ w ∈ am_wds (12, 165, 1, 1, mX8_apart), w ∈ am_WS := am_pick [905, 906, 120, 907] rfl (by decide +kernel)
set_option maxRecDepth 20000 in
theorem am_l110 : ∀ w ∈ am_wds (8, 11, 1, 2, mX8_xOf), w ∈ am_WS := am_pick [908, 881, 120, 882] rfl (by decide +kernel)
set_option maxRecDepth 20000 in
theorem am_l111 : ∀ w ∈ am_wds (12, 168, 0, 1, mX10_tanglesIn), w ∈ am_WS := am_pick [909, 910, 911, 102, 912] rfl (by decide +kernel)
theorem am_LKc6 : ∀ e ∈ [(3, 55, 1, 2, mJ7_fill_53178), (3, 61, 0, 1, mX3_openCase), (12, 108, 0, 0, mX6_clear), (30, 28, 0, 0, mX12_place), (30, 32, 0, 2, mX12_puppet), (12, 114, 0, 1, mX10_hasPuppet), (12, 121, 1, 2, mX8_xOf), (12, 127, 1, 2, mX8_headOf), (12, 130, 1, 2, mX8_handOf), (12, 137, 0, 1, mX10_stringsOf), (30, 37, 0, 2, mX12_string), (12, 141, 0, 1, mX10_hasString), (30, 41, 0, 1, mX12_court), (12, 165, 1, 1, mX8_apart), (8, 11, 1, 2, mX8_xOf), (12, 168, 0, 1, mX10_tanglesIn)], ∀ w ∈ am_wds e, w ∈ am_WS := List.forall_mem_cons.mpr ⟨am_l96, List.forall_mem_cons.mpr ⟨am_l97, List.forall_mem_cons.mpr ⟨am_l98, List.forall_mem_cons.mpr ⟨am_l99, List.forall_mem_cons.mpr ⟨am_l100, List.forall_mem_cons.mpr ⟨am_l101, List.forall_mem_cons.mpr ⟨am_l102, List.forall_mem_cons.mpr ⟨am_l103, List.forall_mem_cons.mpr ⟨am_l104, List.forall_mem_cons.mpr ⟨am_l105, List.forall_mem_cons.mpr ⟨am_l106, List.forall_mem_cons.mpr ⟨am_l107, List.forall_mem_cons.mpr ⟨am_l108, List.forall_mem_cons.mpr ⟨am_l109, List.forall_mem_cons.mpr ⟨am_l110, List.forall_mem_cons.mpr ⟨am_l111, fun _ h => absurd h List.not_mem_nil⟩⟩⟩⟩⟩⟩⟩⟩⟩⟩⟩⟩⟩⟩⟩⟩
set_option maxRecDepth 20000 in
theorem am_l112 : ∀ w ∈ am_wds (10, 77, 1, 2, mX8_xOf), w ∈ am_WS := am_pick [913, 881, 120, 882] rfl (by decide +kernel)
set_option maxRecDepth 20000 in
theorem am_l113 : ∀ w ∈ am_wds (12, 171, 1, 1, mX8_nods), w ∈ am_WS := am_pick [914, 915, 120, 916] rfl (by decide +kernel)
set_option maxRecDepth 20000 in
theorem am_l114 : ∀ w ∈ am_wds (8, 15, 1, 1, mJ6_bitCount_0f7a4), w ∈ am_WS := am_pick [917, 918, 123, 919] rfl (by decide +kernel)
set_option maxRecDepth 20000 in
theorem am_l115 : ∀ w ∈ am_wds (30, 45, 0, 1, mX12_may), w ∈ am_WS := am_pick [923, 924, 925, 101, 926] rfl (by decide +kernel)
set_option maxRecDepth 20000 in
theorem am_l116 : ∀ w ∈ am_wds (12, 177, 0, 2, mX12_mayBy), w ∈ am_WS := am_pick [927, 929, 20, 101, 930] rfl (by decide +kernel)
set_option maxRecDepth 20000 in
theorem am_l117 : ∀ w ∈ am_wds (12, 181, 0, 4, mX0_allows), w ∈ am_WS := am_pick [931, 932, 933, 110, 934] rfl (by decide +kernel)
set_option maxRecDepth 20000 in
theorem am_l118 : ∀ w ∈ am_wds (0, 36, 0, 1, mX10_hasString), w ∈ am_WS := am_pick [935, 898, 899, 102, 900] rfl (by decide +kernel)
set_option maxRecDepth 20000 in
theorem am_l119 : ∀ w ∈ am_wds (0, 43, 0, 2, mX10_moved), w ∈ am_WS := am_pick [936, 937, 938, 102, 939] rfl (by decide +kernel)
set_option maxRecDepth 20000 in
theorem am_l120 : ∀ w ∈ am_wds (10, 73, 0, 1, mX10_hasString), w ∈ am_WS := am_pick [940, 898, 899, 102, 900] rfl (by decide +kernel)
set_option maxRecDepth 20000 in
theorem am_l121 : ∀ w ∈ am_wds (10, 83, 1, 3, mX8_shifted), w ∈ am_WS := am_pick [941, 793, 120, 794] rfl (by decide +kernel)
set_option maxRecDepth 20000 in
theorem am_l122 : ∀ w ∈ am_wds (10, 87, 1, 3, mX8_turned), w ∈ am_WS := am_pick [942, 943, 120, 944] rfl (by decide +kernel)
set_option maxRecDepth 20000 in
theorem am_l123 : ∀ w ∈ am_wds (0, 47, 0, 2, mX0_set), w ∈ am_WS := am_pick [945, 947, 21, 110, 948] rfl (by decide +kernel)
set_option maxRecDepth 20000 in
theorem am_l124 : ∀ w ∈ am_wds (0, 19, 1, 1, mX8_apart), w ∈ am_WS := am_pick [949, 906, 120, 907] rfl (by decide +kernel)
set_option maxRecDepth 20000 in
theorem am_l125 : ∀ w ∈ am_wds (0, 25, 0, 1, mX10_tanglesIn), w ∈ am_WS := am_pick [950, 910, 911, 102, 912] rfl (by decide +kernel)
set_option maxRecDepth 20000 in
theorem am_l126 : ∀ w ∈ am_wds (0, 30, 1, 1, mX8_nods), w ∈ am_WS := am_pick [951, 915, 120, 916] rfl (by decide +kernel)
set_option maxRecDepth 20000 in
theorem am_l127 : ∀ w ∈ am_wds (0, 33, 1, 1, mX8_judgesHand), w ∈ am_WS := am_pick [952, 953, 120, 954] rfl (by decide +kernel)
theorem am_LKc7 : ∀ e ∈ [(10, 77, 1, 2, mX8_xOf), (12, 171, 1, 1, mX8_nods), (8, 15, 1, 1, mJ6_bitCount_0f7a4), (30, 45, 0, 1, mX12_may), (12, 177, 0, 2, mX12_mayBy), (12, 181, 0, 4, mX0_allows), (0, 36, 0, 1, mX10_hasString), (0, 43, 0, 2, mX10_moved), (10, 73, 0, 1, mX10_hasString), (10, 83, 1, 3, mX8_shifted), (10, 87, 1, 3, mX8_turned), (0, 47, 0, 2, mX0_set), (0, 19, 1, 1, mX8_apart), (0, 25, 0, 1, mX10_tanglesIn), (0, 30, 1, 1, mX8_nods), (0, 33, 1, 1, mX8_judgesHand)], ∀ w ∈ am_wds e, w ∈ am_WS := List.forall_mem_cons.mpr ⟨am_l112, List.forall_mem_cons.mpr ⟨am_l113, List.forall_mem_cons.mpr ⟨am_l114, List.forall_mem_cons.mpr ⟨am_l115, List.forall_mem_cons.mpr ⟨am_l116, List.forall_mem_cons.mpr ⟨am_l117, List.forall_mem_cons.mpr ⟨am_l118, List.forall_mem_cons.mpr ⟨am_l119, List.forall_mem_cons.mpr ⟨am_l120, List.forall_mem_cons.mpr ⟨am_l121, List.forall_mem_cons.mpr ⟨am_l122, List.forall_mem_cons.mpr ⟨am_l123, List.forall_mem_cons.mpr ⟨am_l124, List.forall_mem_cons.mpr ⟨am_l125, List.forall_mem_cons.mpr ⟨am_l126, List.forall_mem_cons.mpr ⟨am_l127, fun _ h => absurd h List.not_mem_nil⟩⟩⟩⟩⟩⟩⟩⟩⟩⟩⟩⟩⟩⟩⟩⟩
set_option maxRecDepth 20000 in
theorem am_l128 : ∀ w ∈ am_wds (8, 21, 1, 2, mX8_handOf), w ∈ am_WS := am_pick [955, 887, 120, 888] rfl (by decide +kernel)
set_option maxRecDepth 20000 in
theorem am_l129 : ∀ w ∈ am_wds (0, 54, 1, 2, mX8_xOf), w ∈ am_WS := am_pick [956, 881, 120, 882] rfl (by decide +kernel)
set_option maxRecDepth 20000 in
theorem am_l130 : ∀ w ∈ am_wds (0, 61, 0, 2, mX1_valueOf), w ∈ am_WS := am_pick [957, 958, 959, 103, 960] rfl (by decide +kernel)
set_option maxRecDepth 20000 in
theorem am_l131 : ∀ w ∈ am_wds (1, 41, 1, 3, mX1_joined), w ∈ am_WS := am_pick [961, 962, 103, 963] rfl (by decide +kernel)
set_option maxRecDepth 20000 in
theorem am_l132 : ∀ w ∈ am_wds (30, 49, 0, 1, mX12_pull), w ∈ am_WS := am_pick [964, 965, 966, 101, 967] rfl (by decide +kernel)
set_option maxRecDepth 20000 in
theorem am_l133 : ∀ w ∈ am_wds (12, 185, 0, 1, mX6_remember), w ∈ am_WS := am_pick [968, 969, 970, 112, 971] rfl (by decide +kernel)
set_option maxRecDepth 20000 in
theorem am_l134 : ∀ w ∈ am_wds (6, 31, 0, 1, mX3_copyFrom), w ∈ am_WS := am_pick [973, 974, 975, 111, 976] rfl (by decide +kernel)
set_option maxRecDepth 20000 in
theorem am_l135 : ∀ w ∈ am_wds (3, 65, 5, 0, mX8_xOf), w ∈ am_WS := am_pick [977, 847, 846, 121] rfl (by decide +kernel)
set_option maxRecDepth 20000 in
theorem am_l136 : ∀ w ∈ am_wds (6, 35, 7, 0, mX8_xOf), w ∈ am_WS := am_pick [978, 688, 118, 689] rfl (by decide +kernel)
set_option maxRecDepth 20000 in
theorem am_l137 : ∀ w ∈ am_wds (12, 195, 0, 2, mX10_stormsAt), w ∈ am_WS := am_pick [979, 980, 981, 102, 982] rfl (by decide +kernel)
set_option maxRecDepth 20000 in
theorem am_l138 : ∀ w ∈ am_wds (10, 90, 1, 3, mX10_lot), w ∈ am_WS := am_pick [983, 984, 102, 985] rfl (by decide +kernel)
set_option maxRecDepth 20000 in
theorem am_l139 : ∀ w ∈ am_wds (10, 93, 1, 2, mX10_stirred), w ∈ am_WS := am_pick [986, 987, 102, 988] rfl (by decide +kernel)
set_option maxRecDepth 20000 in
theorem am_l140 : ∀ w ∈ am_wds (12, 201, 0, 2, mX10_drawnAt), w ∈ am_WS := am_pick [990, 991, 992, 102, 993] rfl (by decide +kernel)
set_option maxRecDepth 20000 in
theorem am_l141 : ∀ w ∈ am_wds (12, 204, 0, 2, mX10_moved), w ∈ am_WS := am_pick [994, 937, 938, 102, 939] rfl (by decide +kernel)
set_option maxRecDepth 20000 in
theorem am_l142 : ∀ w ∈ am_wds (12, 207, 0, 2, mX3_moveBy), w ∈ am_WS := am_pick [995, 996, 997, 111, 998] rfl (by decide +kernel)
set_option maxRecDepth 20000 in
theorem am_l143 : ∀ w ∈ am_wds (12, 211, 0, 0, mX12_endTurn), w ∈ am_WS := am_pick [999, 1001, 22, 101, 1002] rfl (by decide +kernel)
theorem am_LKc8 : ∀ e ∈ [(8, 21, 1, 2, mX8_handOf), (0, 54, 1, 2, mX8_xOf), (0, 61, 0, 2, mX1_valueOf), (1, 41, 1, 3, mX1_joined), (30, 49, 0, 1, mX12_pull), (12, 185, 0, 1, mX6_remember), (6, 31, 0, 1, mX3_copyFrom), (3, 65, 5, 0, mX8_xOf), (6, 35, 7, 0, mX8_xOf), (12, 195, 0, 2, mX10_stormsAt), (10, 90, 1, 3, mX10_lot), (10, 93, 1, 2, mX10_stirred), (12, 201, 0, 2, mX10_drawnAt), (12, 204, 0, 2, mX10_moved), (12, 207, 0, 2, mX3_moveBy), (12, 211, 0, 0, mX12_endTurn)], ∀ w ∈ am_wds e, w ∈ am_WS := List.forall_mem_cons.mpr ⟨am_l128, List.forall_mem_cons.mpr ⟨am_l129, List.forall_mem_cons.mpr ⟨am_l130, List.forall_mem_cons.mpr ⟨am_l131, List.forall_mem_cons.mpr ⟨am_l132, List.forall_mem_cons.mpr ⟨am_l133, List.forall_mem_cons.mpr ⟨am_l134, List.forall_mem_cons.mpr ⟨am_l135, List.forall_mem_cons.mpr ⟨am_l136, List.forall_mem_cons.mpr ⟨am_l137, List.forall_mem_cons.mpr ⟨am_l138, List.forall_mem_cons.mpr ⟨am_l139, List.forall_mem_cons.mpr ⟨am_l140, List.forall_mem_cons.mpr ⟨am_l141, List.forall_mem_cons.mpr ⟨am_l142, List.forall_mem_cons.mpr ⟨am_l143, fun _ h => absurd h List.not_mem_nil⟩⟩⟩⟩⟩⟩⟩⟩⟩⟩⟩⟩⟩⟩⟩⟩
set_option maxRecDepth 20000 in
theorem am_l144 : ∀ w ∈ am_wds (12, 214, 0, 0, mX3_turnOver), w ∈ am_WS := am_pick [1003, 1004, 1005, 111, 1006] rfl (by decide +kernel)
set_option maxRecDepth 20000 in
theorem am_l145 : ∀ w ∈ am_wds (12, 217, 0, 2, mX0_verdictOn), w ∈ am_WS := am_pick [1007, 1008, 1009, 110, 1010] rfl (by decide +kernel)
set_option maxRecDepth 20000 in
theorem am_l146 : ∀ w ∈ am_wds (12, 220, 0, 3, mX3_close), w ∈ am_WS := am_pick [1011, 1012, 1013, 111, 1014] rfl (by decide +kernel)
set_option maxRecDepth 20000 in
theorem am_l147 : ∀ w ∈ am_wds (3, 71, 0, 0, mX3_dropOldest), w ∈ am_WS := am_pick [1015, 1017, 23, 111, 1018] rfl (by decide +kernel)
set_option maxRecDepth 20000 in
theorem am_l148 : ∀ w ∈ am_wds (30, 53, 0, 0, mX12_pass), w ∈ am_WS := am_pick [1019, 1020, 1021, 101, 1022] rfl (by decide +kernel)
set_option maxRecDepth 20000 in
theorem am_l149 : ∀ w ∈ am_wds (30, 57, 0, 0, mX12_open), w ∈ am_WS := am_pick [1023, 1024, 1025, 101, 1026] rfl (by decide +kernel)
set_option maxRecDepth 20000 in
theorem am_l150 : ∀ w ∈ am_wds (12, 224, 0, 1, mX3_openCase), w ∈ am_WS := am_pick [1027, 861, 862, 111, 863] rfl (by decide +kernel)
set_option maxRecDepth 20000 in
theorem am_l151 : ∀ w ∈ am_wds (30, 61, 0, 0, mX12_undo), w ∈ am_WS := am_pick [1028, 1029, 1030, 101, 1031] rfl (by decide +kernel)
set_option maxRecDepth 20000 in
theorem am_l152 : ∀ w ∈ am_wds (12, 230, 0, 1, mX6_takeBack), w ∈ am_WS := am_pick [1032, 1033, 1034, 112, 1035] rfl (by decide +kernel)
set_option maxRecDepth 20000 in
theorem am_l153 : ∀ w ∈ am_wds (30, 66, 0, 2, mX12_after), w ∈ am_WS := am_pick [1036, 1037, 1038, 101, 1039] rfl (by decide +kernel)
set_option maxRecDepth 20000 in
theorem am_l154 : ∀ w ∈ am_wds (30, 70, 0, 2, mX12_shortest), w ∈ am_WS := am_pick [1040, 1041, 1042, 101, 1043] rfl (by decide +kernel)
set_option maxRecDepth 20000 in
theorem am_l155 : ∀ w ∈ am_wds (12, 234, 0, 3, mX7_aimAt), w ∈ am_WS := am_pick [1044, 1045, 1046, 113, 1047] rfl (by decide +kernel)
set_option maxRecDepth 20000 in
theorem am_l156 : ∀ w ∈ am_wds (12, 237, 0, 1, mX7_fewest), w ∈ am_WS := am_pick [1048, 1049, 1050, 113, 1051] rfl (by decide +kernel)
set_option maxRecDepth 20000 in
theorem am_l157 : ∀ w ∈ am_wds (7, 71, 0, 2, mX7_isGoal), w ∈ am_WS := am_pick [1052, 1054, 24, 113, 1055] rfl (by decide +kernel)
set_option maxRecDepth 20000 in
theorem am_l158 : ∀ w ∈ am_wds (7, 51, 1, 2, mX8_xOf), w ∈ am_WS := am_pick [1056, 881, 120, 882] rfl (by decide +kernel)
set_option maxRecDepth 20000 in
theorem am_l159 : ∀ w ∈ am_wds (7, 57, 0, 1, mX10_tanglesIn), w ∈ am_WS := am_pick [1057, 910, 911, 102, 912] rfl (by decide +kernel)
theorem am_LKc9 : ∀ e ∈ [(12, 214, 0, 0, mX3_turnOver), (12, 217, 0, 2, mX0_verdictOn), (12, 220, 0, 3, mX3_close), (3, 71, 0, 0, mX3_dropOldest), (30, 53, 0, 0, mX12_pass), (30, 57, 0, 0, mX12_open), (12, 224, 0, 1, mX3_openCase), (30, 61, 0, 0, mX12_undo), (12, 230, 0, 1, mX6_takeBack), (30, 66, 0, 2, mX12_after), (30, 70, 0, 2, mX12_shortest), (12, 234, 0, 3, mX7_aimAt), (12, 237, 0, 1, mX7_fewest), (7, 71, 0, 2, mX7_isGoal), (7, 51, 1, 2, mX8_xOf), (7, 57, 0, 1, mX10_tanglesIn)], ∀ w ∈ am_wds e, w ∈ am_WS := List.forall_mem_cons.mpr ⟨am_l144, List.forall_mem_cons.mpr ⟨am_l145, List.forall_mem_cons.mpr ⟨am_l146, List.forall_mem_cons.mpr ⟨am_l147, List.forall_mem_cons.mpr ⟨am_l148, List.forall_mem_cons.mpr ⟨am_l149, List.forall_mem_cons.mpr ⟨am_l150, List.forall_mem_cons.mpr ⟨am_l151, List.forall_mem_cons.mpr ⟨am_l152, List.forall_mem_cons.mpr ⟨am_l153, List.forall_mem_cons.mpr ⟨am_l154, List.forall_mem_cons.mpr ⟨am_l155, List.forall_mem_cons.mpr ⟨am_l156, List.forall_mem_cons.mpr ⟨am_l157, List.forall_mem_cons.mpr ⟨am_l158, List.forall_mem_cons.mpr ⟨am_l159, fun _ h => absurd h List.not_mem_nil⟩⟩⟩⟩⟩⟩⟩⟩⟩⟩⟩⟩⟩⟩⟩⟩
set_option maxRecDepth 20000 in
theorem am_l160 : ∀ w ∈ am_wds (7, 81, 0, 2, mX7_oneMore), w ∈ am_WS := am_pick [1058, 1060, 25, 113, 1061] rfl (by decide +kernel)
set_option maxRecDepth 20000 in
theorem am_l161 : ∀ w ∈ am_wds (7, 87, 0, 4, mX0_allows), w ∈ am_WS := am_pick [1062, 932, 933, 110, 934] rfl (by decide +kernel)
set_option maxRecDepth 20000 in
theorem am_l162 : ∀ w ∈ am_wds (7, 93, 0, 2, mX10_moved), w ∈ am_WS := am_pick [1063, 937, 938, 102, 939] rfl (by decide +kernel)
set_option maxRecDepth 20000 in
theorem am_l163 : ∀ w ∈ am_wds (7, 96, 0, 3, mX7_reaches), w ∈ am_WS := am_pick [1064, 1066, 26, 113, 1067] rfl (by decide +kernel)
set_option maxRecDepth 20000 in
theorem am_l164 : ∀ w ∈ am_wds (7, 103, 0, 1, mX7_isNext), w ∈ am_WS := am_pick [1068, 1070, 27, 113, 1071] rfl (by decide +kernel)
set_option maxRecDepth 20000 in
theorem am_l165 : ∀ w ∈ am_wds (7, 107, 0, 2, mX0_verdictOn), w ∈ am_WS := am_pick [1072, 1008, 1009, 110, 1010] rfl (by decide +kernel)
set_option maxRecDepth 20000 in
theorem am_l166 : ∀ w ∈ am_wds (7, 100, 0, 0, mX7_swap), w ∈ am_WS := am_pick [1073, 1075, 28, 113, 1076] rfl (by decide +kernel)
set_option maxRecDepth 20000 in
theorem am_l167 : ∀ w ∈ am_wds (30, 74, 0, 2, mX12_force), w ∈ am_WS := am_pick [1077, 1078, 1079, 101, 1080] rfl (by decide +kernel)
set_option maxRecDepth 20000 in
theorem am_l168 : ∀ w ∈ am_wds (12, 244, 0, 3, mX4_forces), w ∈ am_WS := am_pick [1081, 1082, 1083, 114, 1084] rfl (by decide +kernel)
set_option maxRecDepth 20000 in
theorem am_l169 : ∀ w ∈ am_wds (4, 41, 0, 3, mX4_start), w ∈ am_WS := am_pick [1085, 1087, 29, 114, 1088] rfl (by decide +kernel)
set_option maxRecDepth 20000 in
theorem am_l170 : ∀ w ∈ am_wds (4, 81, 1, 2, mJ7_fill_53178), w ∈ am_WS := am_pick [1089, 858, 122, 859] rfl (by decide +kernel)
set_option maxRecDepth 20000 in
theorem am_l171 : ∀ w ∈ am_wds (4, 87, 7, 0, mX8_xOf), w ∈ am_WS := am_pick [1090, 688, 118, 689] rfl (by decide +kernel)
set_option maxRecDepth 20000 in
theorem am_l172 : ∀ w ∈ am_wds (4, 53, 0, 2, mX4_tryAll), w ∈ am_WS := am_pick [1091, 1093, 30, 114, 1094] rfl (by decide +kernel)
set_option maxRecDepth 20000 in
theorem am_l173 : ∀ w ∈ am_wds (4, 68, 0, 4, mX0_allows), w ∈ am_WS := am_pick [1095, 932, 933, 110, 934] rfl (by decide +kernel)
set_option maxRecDepth 20000 in
theorem am_l174 : ∀ w ∈ am_wds (4, 74, 0, 2, mX10_moved), w ∈ am_WS := am_pick [1096, 937, 938, 102, 939] rfl (by decide +kernel)
set_option maxRecDepth 20000 in
theorem am_l175 : ∀ w ∈ am_wds (4, 78, 0, 2, mX4_isWon), w ∈ am_WS := am_pick [1097, 1099, 31, 114, 1100] rfl (by decide +kernel)
theorem am_LKc10 : ∀ e ∈ [(7, 81, 0, 2, mX7_oneMore), (7, 87, 0, 4, mX0_allows), (7, 93, 0, 2, mX10_moved), (7, 96, 0, 3, mX7_reaches), (7, 103, 0, 1, mX7_isNext), (7, 107, 0, 2, mX0_verdictOn), (7, 100, 0, 0, mX7_swap), (30, 74, 0, 2, mX12_force), (12, 244, 0, 3, mX4_forces), (4, 41, 0, 3, mX4_start), (4, 81, 1, 2, mJ7_fill_53178), (4, 87, 7, 0, mX8_xOf), (4, 53, 0, 2, mX4_tryAll), (4, 68, 0, 4, mX0_allows), (4, 74, 0, 2, mX10_moved), (4, 78, 0, 2, mX4_isWon)], ∀ w ∈ am_wds e, w ∈ am_WS := List.forall_mem_cons.mpr ⟨am_l160, List.forall_mem_cons.mpr ⟨am_l161, List.forall_mem_cons.mpr ⟨am_l162, List.forall_mem_cons.mpr ⟨am_l163, List.forall_mem_cons.mpr ⟨am_l164, List.forall_mem_cons.mpr ⟨am_l165, List.forall_mem_cons.mpr ⟨am_l166, List.forall_mem_cons.mpr ⟨am_l167, List.forall_mem_cons.mpr ⟨am_l168, List.forall_mem_cons.mpr ⟨am_l169, List.forall_mem_cons.mpr ⟨am_l170, List.forall_mem_cons.mpr ⟨am_l171, List.forall_mem_cons.mpr ⟨am_l172, List.forall_mem_cons.mpr ⟨am_l173, List.forall_mem_cons.mpr ⟨am_l174, List.forall_mem_cons.mpr ⟨am_l175, fun _ h => absurd h List.not_mem_nil⟩⟩⟩⟩⟩⟩⟩⟩⟩⟩⟩⟩⟩⟩⟩⟩
set_option maxRecDepth 20000 in
theorem am_l176 : ∀ w ∈ am_wds (4, 92, 0, 2, mX0_verdictOn), w ∈ am_WS := am_pick [1101, 1008, 1009, 110, 1010] rfl (by decide +kernel)
set_option maxRecDepth 20000 in
theorem am_l177 : ∀ w ∈ am_wds (4, 95, 0, 2, mX4_recalled), w ∈ am_WS := am_pick [1102, 1104, 32, 114, 1105] rfl (by decide +kernel)
set_option maxRecDepth 20000 in
theorem am_l178 : ∀ w ∈ am_wds (4, 98, 0, 3, mX4_note), w ∈ am_WS := am_pick [1106, 1108, 33, 114, 1109] rfl (by decide +kernel)
set_option maxRecDepth 20000 in
theorem am_l179 : ∀ w ∈ am_wds (30, 78, 0, 0, mX12_straight), w ∈ am_WS := am_pick [1110, 1111, 1112, 101, 1113] rfl (by decide +kernel)
set_option maxRecDepth 20000 in
theorem am_l180 : ∀ w ∈ am_wds (30, 82, 0, 2, mX12_reach), w ∈ am_WS := am_pick [1114, 1115, 1116, 101, 1117] rfl (by decide +kernel)
set_option maxRecDepth 20000 in
theorem am_l181 : ∀ w ∈ am_wds (30, 86, 0, 1, mX12_strong), w ∈ am_WS := am_pick [1118, 1119, 1120, 101, 1121] rfl (by decide +kernel)
set_option maxRecDepth 20000 in
theorem am_l182 : ∀ w ∈ am_wds (12, 248, 0, 2, mX4_strongString), w ∈ am_WS := am_pick [1122, 1123, 1124, 114, 1125] rfl (by decide +kernel)
set_option maxRecDepth 20000 in
theorem am_l183 : ∀ w ∈ am_wds (30, 90, 0, 1, mX12_free), w ∈ am_WS := am_pick [1126, 1127, 1128, 101, 1129] rfl (by decide +kernel)
set_option maxRecDepth 20000 in
theorem am_l184 : ∀ w ∈ am_wds (30, 94, 0, 0, mX12_worn), w ∈ am_WS := am_pick [1130, 1131, 1132, 101, 1133] rfl (by decide +kernel)
set_option maxRecDepth 20000 in
theorem am_l185 : ∀ w ∈ am_wds (30, 98, 0, 0, mX12_verdicts), w ∈ am_WS := am_pick [1134, 1135, 1136, 101, 1137] rfl (by decide +kernel)
set_option maxRecDepth 20000 in
theorem am_l186 : ∀ w ∈ am_wds (12, 255, 0, 1, mX5_poll), w ∈ am_WS := am_pick [1138, 1139, 1140, 115, 1141] rfl (by decide +kernel)
set_option maxRecDepth 20000 in
theorem am_l187 : ∀ w ∈ am_wds (5, 27, 1, 2, mJ7_fill_53178), w ∈ am_WS := am_pick [1142, 858, 122, 859] rfl (by decide +kernel)
set_option maxRecDepth 20000 in
theorem am_l188 : ∀ w ∈ am_wds (5, 46, 0, 3, mX0_votesOf), w ∈ am_WS := am_pick [1143, 1144, 1145, 110, 1146] rfl (by decide +kernel)
set_option maxRecDepth 20000 in
theorem am_l189 : ∀ w ∈ am_wds (0, 67, 0, 1, mX10_hasChild), w ∈ am_WS := am_pick [1147, 1148, 1149, 102, 1150] rfl (by decide +kernel)
set_option maxRecDepth 20000 in
theorem am_l190 : ∀ w ∈ am_wds (0, 73, 7, 0, mX8_xOf), w ∈ am_WS := am_pick [1151, 688, 118, 689] rfl (by decide +kernel)
set_option maxRecDepth 20000 in
theorem am_l191 : ∀ w ∈ am_wds (0, 78, 6, 0, mX8_xOf), w ∈ am_WS := am_pick [1152, 722, 118, 723] rfl (by decide +kernel)
theorem am_LKc11 : ∀ e ∈ [(4, 92, 0, 2, mX0_verdictOn), (4, 95, 0, 2, mX4_recalled), (4, 98, 0, 3, mX4_note), (30, 78, 0, 0, mX12_straight), (30, 82, 0, 2, mX12_reach), (30, 86, 0, 1, mX12_strong), (12, 248, 0, 2, mX4_strongString), (30, 90, 0, 1, mX12_free), (30, 94, 0, 0, mX12_worn), (30, 98, 0, 0, mX12_verdicts), (12, 255, 0, 1, mX5_poll), (5, 27, 1, 2, mJ7_fill_53178), (5, 46, 0, 3, mX0_votesOf), (0, 67, 0, 1, mX10_hasChild), (0, 73, 7, 0, mX8_xOf), (0, 78, 6, 0, mX8_xOf)], ∀ w ∈ am_wds e, w ∈ am_WS := List.forall_mem_cons.mpr ⟨am_l176, List.forall_mem_cons.mpr ⟨am_l177, List.forall_mem_cons.mpr ⟨am_l178, List.forall_mem_cons.mpr ⟨am_l179, List.forall_mem_cons.mpr ⟨am_l180, List.forall_mem_cons.mpr ⟨am_l181, List.forall_mem_cons.mpr ⟨am_l182, List.forall_mem_cons.mpr ⟨am_l183, List.forall_mem_cons.mpr ⟨am_l184, List.forall_mem_cons.mpr ⟨am_l185, List.forall_mem_cons.mpr ⟨am_l186, List.forall_mem_cons.mpr ⟨am_l187, List.forall_mem_cons.mpr ⟨am_l188, List.forall_mem_cons.mpr ⟨am_l189, List.forall_mem_cons.mpr ⟨am_l190, List.forall_mem_cons.mpr ⟨am_l191, fun _ h => absurd h List.not_mem_nil⟩⟩⟩⟩⟩⟩⟩⟩⟩⟩⟩⟩⟩⟩⟩⟩
set_option maxRecDepth 20000 in
theorem am_l192 : ∀ w ∈ am_wds (12, 258, 0, 0, mX5_likeliest), w ∈ am_WS := am_pick [1153, 1154, 1155, 115, 1156] rfl (by decide +kernel)
set_option maxRecDepth 20000 in
theorem am_l193 : ∀ w ∈ am_wds (30, 102, 0, 1, mX12_half), w ∈ am_WS := am_pick [1157, 1158, 1159, 101, 1160] rfl (by decide +kernel)
set_option maxRecDepth 20000 in
theorem am_l194 : ∀ w ∈ am_wds (12, 262, 0, 0, mX5_waysOfMost), w ∈ am_WS := am_pick [1161, 1162, 1163, 115, 1164] rfl (by decide +kernel)
set_option maxRecDepth 20000 in
theorem am_l195 : ∀ w ∈ am_wds (5, 52, 0, 1, mX5_waysOf), w ∈ am_WS := am_pick [1165, 1166, 1167, 115, 1168] rfl (by decide +kernel)
set_option maxRecDepth 20000 in
theorem am_l196 : ∀ w ∈ am_wds (12, 265, 0, 2, mX5_share), w ∈ am_WS := am_pick [1169, 1170, 1171, 115, 1172] rfl (by decide +kernel)
set_option maxRecDepth 20000 in
theorem am_l197 : ∀ w ∈ am_wds (5, 56, 1, 2, mX5_greatestDivisor), w ∈ am_WS := am_pick [1173, 1174, 115, 1175] rfl (by decide +kernel)
set_option maxRecDepth 20000 in
theorem am_l198 : ∀ w ∈ am_wds (30, 107, 0, 2, mX12_jury), w ∈ am_WS := am_pick [1176, 1177, 1178, 101, 1179] rfl (by decide +kernel)
set_option maxRecDepth 20000 in
theorem am_l199 : ∀ w ∈ am_wds (12, 272, 0, 1, mX5_waysOf), w ∈ am_WS := am_pick [1180, 1166, 1167, 115, 1168] rfl (by decide +kernel)
set_option maxRecDepth 20000 in
theorem am_l200 : ∀ w ∈ am_wds (30, 112, 0, 2, mX12_precedent), w ∈ am_WS := am_pick [1181, 1182, 1183, 101, 1184] rfl (by decide +kernel)
set_option maxRecDepth 20000 in
theorem am_l201 : ∀ w ∈ am_wds (12, 278, 0, 1, mX3_hasPrecedent), w ∈ am_WS := am_pick [1185, 1186, 1187, 111, 1188] rfl (by decide +kernel)
set_option maxRecDepth 20000 in
theorem am_l202 : ∀ w ∈ am_wds (30, 116, 0, 1, mX12_nearest), w ∈ am_WS := am_pick [1189, 1190, 1191, 101, 1192] rfl (by decide +kernel)
set_option maxRecDepth 20000 in
theorem am_l203 : ∀ w ∈ am_wds (12, 290, 0, 2, mX3_nearestTo), w ∈ am_WS := am_pick [1193, 1194, 1195, 111, 1196] rfl (by decide +kernel)
set_option maxRecDepth 20000 in
theorem am_l204 : ∀ w ∈ am_wds (3, 84, 0, 3, mX3_distance), w ∈ am_WS := am_pick [1197, 1198, 1199, 111, 1200] rfl (by decide +kernel)
set_option maxRecDepth 20000 in
theorem am_l205 : ∀ w ∈ am_wds (3, 74, 0, 1, mX3_hasPrecedent), w ∈ am_WS := am_pick [1201, 1186, 1187, 111, 1188] rfl (by decide +kernel)
set_option maxRecDepth 20000 in
theorem am_l206 : ∀ w ∈ am_wds (3, 78, 8, 0, mX8_xOf), w ∈ am_WS := am_pick [1202, 1203, 118, 1204] rfl (by decide +kernel)
set_option maxRecDepth 20000 in
theorem am_l207 : ∀ w ∈ am_wds (12, 293, 0, 3, mX3_distance), w ∈ am_WS := am_pick [1205, 1198, 1199, 111, 1200] rfl (by decide +kernel)
theorem am_LKc12 : ∀ e ∈ [(12, 258, 0, 0, mX5_likeliest), (30, 102, 0, 1, mX12_half), (12, 262, 0, 0, mX5_waysOfMost), (5, 52, 0, 1, mX5_waysOf), (12, 265, 0, 2, mX5_share), (5, 56, 1, 2, mX5_greatestDivisor), (30, 107, 0, 2, mX12_jury), (12, 272, 0, 1, mX5_waysOf), (30, 112, 0, 2, mX12_precedent), (12, 278, 0, 1, mX3_hasPrecedent), (30, 116, 0, 1, mX12_nearest), (12, 290, 0, 2, mX3_nearestTo), (3, 84, 0, 3, mX3_distance), (3, 74, 0, 1, mX3_hasPrecedent), (3, 78, 8, 0, mX8_xOf), (12, 293, 0, 3, mX3_distance)], ∀ w ∈ am_wds e, w ∈ am_WS := List.forall_mem_cons.mpr ⟨am_l192, List.forall_mem_cons.mpr ⟨am_l193, List.forall_mem_cons.mpr ⟨am_l194, List.forall_mem_cons.mpr ⟨am_l195, List.forall_mem_cons.mpr ⟨am_l196, List.forall_mem_cons.mpr ⟨am_l197, List.forall_mem_cons.mpr ⟨am_l198, List.forall_mem_cons.mpr ⟨am_l199, List.forall_mem_cons.mpr ⟨am_l200, List.forall_mem_cons.mpr ⟨am_l201, List.forall_mem_cons.mpr ⟨am_l202, List.forall_mem_cons.mpr ⟨am_l203, List.forall_mem_cons.mpr ⟨am_l204, List.forall_mem_cons.mpr ⟨am_l205, List.forall_mem_cons.mpr ⟨am_l206, List.forall_mem_cons.mpr ⟨am_l207, fun _ h => absurd h List.not_mem_nil⟩⟩⟩⟩⟩⟩⟩⟩⟩⟩⟩⟩⟩⟩⟩⟩
set_option maxRecDepth 20000 in
theorem am_l208 : ∀ w ∈ am_wds (30, 120, 0, 0, mX12_clashes), w ∈ am_WS := am_pick [1206, 1207, 1208, 101, 1209] rfl (by decide +kernel)
set_option maxRecDepth 20000 in
theorem am_l209 : ∀ w ∈ am_wds (12, 297, 0, 0, mX3_clashing), w ∈ am_WS := am_pick [1210, 1211, 1212, 111, 1213] rfl (by decide +kernel)
set_option maxRecDepth 20000 in
theorem am_l210 : ∀ w ∈ am_wds (30, 124, 0, 1, mX12_paint), w ∈ am_WS := am_pick [1214, 1215, 1216, 101, 1217] rfl (by decide +kernel)
set_option maxRecDepth 20000 in
theorem am_l211 : ∀ w ∈ am_wds (12, 303, 0, 1, mX10_bestPainted), w ∈ am_WS := am_pick [1218, 1219, 1220, 102, 1221] rfl (by decide +kernel)
set_option maxRecDepth 20000 in
theorem am_l212 : ∀ w ∈ am_wds (10, 98, 0, 2, mX10_paintGap), w ∈ am_WS := am_pick [1223, 1225, 34, 102, 1226] rfl (by decide +kernel)
set_option maxRecDepth 20000 in
theorem am_l213 : ∀ w ∈ am_wds (10, 101, 0, 1, mX10_hasPuppet), w ∈ am_WS := am_pick [1227, 877, 878, 102, 879] rfl (by decide +kernel)
set_option maxRecDepth 20000 in
theorem am_l214 : ∀ w ∈ am_wds (10, 104, 8, 0, mX8_xOf), w ∈ am_WS := am_pick [1228, 1203, 118, 1204] rfl (by decide +kernel)
set_option maxRecDepth 20000 in
theorem am_l215 : ∀ w ∈ am_wds (30, 128, 0, 3, mX12_storms), w ∈ am_WS := am_pick [1229, 1230, 1231, 101, 1232] rfl (by decide +kernel)
set_option maxRecDepth 20000 in
theorem am_l216 : ∀ w ∈ am_wds (12, 306, 0, 2, mX12_verdictBySeed), w ∈ am_WS := am_pick [1233, 1235, 35, 101, 1236] rfl (by decide +kernel)
set_option maxRecDepth 20000 in
theorem am_l217 : ∀ w ∈ am_wds (30, 133, 0, 3, mX12_tell), w ∈ am_WS := am_pick [1237, 1238, 1239, 101, 1240] rfl (by decide +kernel)
set_option maxRecDepth 20000 in
theorem am_l218 : ∀ w ∈ am_wds (12, 309, 0, 3, mX2_add), w ∈ am_WS := am_pick [1241, 1242, 1243, 116, 1244] rfl (by decide +kernel)
set_option maxRecDepth 20000 in
theorem am_l219 : ∀ w ∈ am_wds (30, 137, 0, 0, mX12_forget), w ∈ am_WS := am_pick [1245, 1246, 1247, 101, 1248] rfl (by decide +kernel)
set_option maxRecDepth 20000 in
theorem am_l220 : ∀ w ∈ am_wds (30, 141, 0, 2, mX12_cloth), w ∈ am_WS := am_pick [1249, 1250, 1251, 101, 1252] rfl (by decide +kernel)
set_option maxRecDepth 20000 in
theorem am_l221 : ∀ w ∈ am_wds (12, 312, 0, 2, mX2_asks), w ∈ am_WS := am_pick [1253, 1254, 1255, 116, 1256] rfl (by decide +kernel)
set_option maxRecDepth 20000 in
theorem am_l222 : ∀ w ∈ am_wds (12, 315, 0, 3, mX2_walk), w ∈ am_WS := am_pick [1257, 1258, 1259, 116, 1260] rfl (by decide +kernel)
set_option maxRecDepth 20000 in
theorem am_l223 : ∀ w ∈ am_wds (2, 49, 7, 0, mX8_xOf), w ∈ am_WS := am_pick [1261, 688, 118, 689] rfl (by decide +kernel)
theorem am_LKc13 : ∀ e ∈ [(30, 120, 0, 0, mX12_clashes), (12, 297, 0, 0, mX3_clashing), (30, 124, 0, 1, mX12_paint), (12, 303, 0, 1, mX10_bestPainted), (10, 98, 0, 2, mX10_paintGap), (10, 101, 0, 1, mX10_hasPuppet), (10, 104, 8, 0, mX8_xOf), (30, 128, 0, 3, mX12_storms), (12, 306, 0, 2, mX12_verdictBySeed), (30, 133, 0, 3, mX12_tell), (12, 309, 0, 3, mX2_add), (30, 137, 0, 0, mX12_forget), (30, 141, 0, 2, mX12_cloth), (12, 312, 0, 2, mX2_asks), (12, 315, 0, 3, mX2_walk), (2, 49, 7, 0, mX8_xOf)], ∀ w ∈ am_wds e, w ∈ am_WS := List.forall_mem_cons.mpr ⟨am_l208, List.forall_mem_cons.mpr ⟨am_l209, List.forall_mem_cons.mpr ⟨am_l210, List.forall_mem_cons.mpr ⟨am_l211, List.forall_mem_cons.mpr ⟨am_l212, List.forall_mem_cons.mpr ⟨am_l213, List.forall_mem_cons.mpr ⟨am_l214, List.forall_mem_cons.mpr ⟨am_l215, List.forall_mem_cons.mpr ⟨am_l216, List.forall_mem_cons.mpr ⟨am_l217, List.forall_mem_cons.mpr ⟨am_l218, List.forall_mem_cons.mpr ⟨am_l219, List.forall_mem_cons.mpr ⟨am_l220, List.forall_mem_cons.mpr ⟨am_l221, List.forall_mem_cons.mpr ⟨am_l222, List.forall_mem_cons.mpr ⟨am_l223, fun _ h => absurd h List.not_mem_nil⟩⟩⟩⟩⟩⟩⟩⟩⟩⟩⟩⟩⟩⟩⟩⟩
set_option maxRecDepth 20000 in
theorem am_l224 : ∀ w ∈ am_wds (2, 55, 1, 2, mJ7_fill_53178), w ∈ am_WS := am_pick [1262, 858, 122, 859] rfl (by decide +kernel)
set_option maxRecDepth 20000 in
theorem am_l225 : ∀ w ∈ am_wds (2, 61, 0, 2, mX2_goOn), w ∈ am_WS := am_pick [1263, 1265, 36, 116, 1266] rfl (by decide +kernel)
set_option maxRecDepth 20000 in
theorem am_l226 : ∀ w ∈ am_wds (2, 65, 0, 1, mX2_countRow), w ∈ am_WS := am_pick [1267, 1269, 37, 116, 1270] rfl (by decide +kernel)
set_option maxRecDepth 20000 in
theorem am_l227 : ∀ w ∈ am_wds (2, 81, 1, 2, mX8_xOf), w ∈ am_WS := am_pick [1271, 881, 120, 882] rfl (by decide +kernel)
set_option maxRecDepth 20000 in
theorem am_l228 : ∀ w ∈ am_wds (2, 74, 0, 2, mX10_moved), w ∈ am_WS := am_pick [1272, 937, 938, 102, 939] rfl (by decide +kernel)
set_option maxRecDepth 20000 in
theorem am_l229 : ∀ w ∈ am_wds (2, 77, 0, 2, mX2_fits), w ∈ am_WS := am_pick [1273, 1275, 38, 116, 1276] rfl (by decide +kernel)
set_option maxRecDepth 20000 in
theorem am_l230 : ∀ w ∈ am_wds (30, 145, 0, 3, mX12_sure), w ∈ am_WS := am_pick [1277, 1278, 1279, 101, 1280] rfl (by decide +kernel)
set_option maxRecDepth 20000 in
theorem am_l231 : ∀ w ∈ am_wds (30, 149, 0, 2, mX12_look), w ∈ am_WS := am_pick [1281, 1282, 1283, 101, 1284] rfl (by decide +kernel)
set_option maxRecDepth 20000 in
theorem am_l232 : ∀ w ∈ am_wds (12, 324, 0, 0, mX2_tellingPuppet), w ∈ am_WS := am_pick [1285, 1286, 1287, 116, 1288] rfl (by decide +kernel)
set_option maxRecDepth 20000 in
theorem am_l233 : ∀ w ∈ am_wds (2, 90, 6, 0, mX8_xOf), w ∈ am_WS := am_pick [1290, 722, 118, 723] rfl (by decide +kernel)
set_option maxRecDepth 20000 in
theorem am_l234 : ∀ w ∈ am_wds (30, 153, 0, 1, mX12_hold), w ∈ am_WS := am_pick [1291, 1292, 1293, 101, 1294] rfl (by decide +kernel)
set_option maxRecDepth 20000 in
theorem am_l235 : ∀ w ∈ am_wds (12, 327, 0, 2, mX6_putInSlot), w ∈ am_WS := am_pick [1295, 1296, 1297, 112, 1298] rfl (by decide +kernel)
set_option maxRecDepth 20000 in
theorem am_l236 : ∀ w ∈ am_wds (30, 158, 0, 1, mX12_restore), w ∈ am_WS := am_pick [1299, 1300, 1301, 101, 1302] rfl (by decide +kernel)
set_option maxRecDepth 20000 in
theorem am_l237 : ∀ w ∈ am_wds (12, 331, 0, 2, mX6_takeFromSlot), w ∈ am_WS := am_pick [1303, 1304, 1305, 112, 1306] rfl (by decide +kernel)
set_option maxRecDepth 20000 in
theorem am_l238 : ∀ w ∈ am_wds (30, 162, 0, 1, mX12_count), w ∈ am_WS := am_pick [1307, 1308, 1309, 101, 1310] rfl (by decide +kernel)
set_option maxRecDepth 20000 in
theorem am_l239 : ∀ w ∈ am_wds (12, 337, 0, 0, mX6_slotsHeld), w ∈ am_WS := am_pick [1311, 1312, 1313, 112, 1314] rfl (by decide +kernel)
theorem am_LKc14 : ∀ e ∈ [(2, 55, 1, 2, mJ7_fill_53178), (2, 61, 0, 2, mX2_goOn), (2, 65, 0, 1, mX2_countRow), (2, 81, 1, 2, mX8_xOf), (2, 74, 0, 2, mX10_moved), (2, 77, 0, 2, mX2_fits), (30, 145, 0, 3, mX12_sure), (30, 149, 0, 2, mX12_look), (12, 324, 0, 0, mX2_tellingPuppet), (2, 90, 6, 0, mX8_xOf), (30, 153, 0, 1, mX12_hold), (12, 327, 0, 2, mX6_putInSlot), (30, 158, 0, 1, mX12_restore), (12, 331, 0, 2, mX6_takeFromSlot), (30, 162, 0, 1, mX12_count), (12, 337, 0, 0, mX6_slotsHeld)], ∀ w ∈ am_wds e, w ∈ am_WS := List.forall_mem_cons.mpr ⟨am_l224, List.forall_mem_cons.mpr ⟨am_l225, List.forall_mem_cons.mpr ⟨am_l226, List.forall_mem_cons.mpr ⟨am_l227, List.forall_mem_cons.mpr ⟨am_l228, List.forall_mem_cons.mpr ⟨am_l229, List.forall_mem_cons.mpr ⟨am_l230, List.forall_mem_cons.mpr ⟨am_l231, List.forall_mem_cons.mpr ⟨am_l232, List.forall_mem_cons.mpr ⟨am_l233, List.forall_mem_cons.mpr ⟨am_l234, List.forall_mem_cons.mpr ⟨am_l235, List.forall_mem_cons.mpr ⟨am_l236, List.forall_mem_cons.mpr ⟨am_l237, List.forall_mem_cons.mpr ⟨am_l238, List.forall_mem_cons.mpr ⟨am_l239, fun _ h => absurd h List.not_mem_nil⟩⟩⟩⟩⟩⟩⟩⟩⟩⟩⟩⟩⟩⟩⟩⟩
set_option maxRecDepth 20000 in
theorem am_l240 : ∀ w ∈ am_wds (6, 41, 1, 1, mJ6_bitCount_0f7a4), w ∈ am_WS := am_pick [1315, 918, 123, 919] rfl (by decide +kernel)
set_option maxRecDepth 20000 in
theorem am_l241 : ∀ w ∈ am_wds (12, 346, 0, 0, mX12_mayBits), w ∈ am_WS := am_pick [1316, 1318, 39, 101, 1319] rfl (by decide +kernel)
set_option maxRecDepth 20000 in
theorem am_l242 : ∀ w ∈ am_wds (30, 12, 2, 0, mX13_init), w ∈ am_WS := am_pick [1322, 1323, 117, 1324] rfl (by decide +kernel)
set_option maxRecDepth 20000 in
theorem am_l243 : ∀ w ∈ am_wds (13, 7, 4, 0, mX8_xOf), w ∈ am_WS := am_pick [1325, 130, 131] rfl (by decide +kernel)
set_option maxRecDepth 20000 in
theorem am_l244 : ∀ w ∈ am_wds (13, 158, 0, 1, mX13_plain), w ∈ am_WS := am_pick [1326, 1328, 40, 117, 1329] rfl (by decide +kernel)
set_option maxRecDepth 20000 in
theorem am_l245 : ∀ w ∈ am_wds (13, 162, 1, 7, mX13_word), w ∈ am_WS := am_pick [1330, 1331, 117, 1332] rfl (by decide +kernel)
set_option maxRecDepth 20000 in
theorem am_l246 : ∀ w ∈ am_wds (13, 183, 1, 2, mX13_appends), w ∈ am_WS := am_pick [1333, 1334, 117, 1335] rfl (by decide +kernel)
set_option maxRecDepth 20000 in
theorem am_l247 : ∀ w ∈ am_wds (13, 166, 0, 0, mX13_begins), w ∈ am_WS := am_pick [1337, 1339, 41, 117, 1340] rfl (by decide +kernel)
set_option maxRecDepth 20000 in
theorem am_l248 : ∀ w ∈ am_wds (13, 323, 0, 0, mX13_opens), w ∈ am_WS := am_pick [1341, 1343, 42, 117, 1344] rfl (by decide +kernel)
set_option maxRecDepth 20000 in
theorem am_l249 : ∀ w ∈ am_wds (13, 169, 0, 0, mX13_keepsRow), w ∈ am_WS := am_pick [1345, 1347, 43, 117, 1348] rfl (by decide +kernel)
set_option maxRecDepth 20000 in
theorem am_l250 : ∀ w ∈ am_wds (30, 17, 0, 5, mX13_feed), w ∈ am_WS := am_pick [1551, 1552, 1553, 117, 1554] rfl (by decide +kernel)
set_option maxRecDepth 20000 in
theorem am_l251 : ∀ w ∈ am_wds (13, 175, 0, 1, mX13_put), w ∈ am_WS := am_pick [1555, 1557, 44, 117, 1558] rfl (by decide +kernel)
set_option maxRecDepth 20000 in
theorem am_l252 : ∀ w ∈ am_wds (30, 22, 0, 1, mX13_back), w ∈ am_WS := am_pick [1559, 1560, 1561, 117, 1562] rfl (by decide +kernel)
set_option maxRecDepth 20000 in
theorem am_l253 : ∀ w ∈ am_wds (30, 27, 0, 0, mX13_read), w ∈ am_WS := am_pick [1563, 1564, 1565, 117, 1566] rfl (by decide +kernel)
set_option maxRecDepth 20000 in
theorem am_l254 : ∀ w ∈ am_wds (13, 233, 0, 0, mX13_cut), w ∈ am_WS := am_pick [1567, 1569, 45, 117, 1570] rfl (by decide +kernel)
set_option maxRecDepth 20000 in
theorem am_l255 : ∀ w ∈ am_wds (13, 190, 0, 1, mX13_byteAt), w ∈ am_WS := am_pick [1571, 1573, 46, 117, 1574] rfl (by decide +kernel)
theorem am_LKc15 : ∀ e ∈ [(6, 41, 1, 1, mJ6_bitCount_0f7a4), (12, 346, 0, 0, mX12_mayBits), (30, 12, 2, 0, mX13_init), (13, 7, 4, 0, mX8_xOf), (13, 158, 0, 1, mX13_plain), (13, 162, 1, 7, mX13_word), (13, 183, 1, 2, mX13_appends), (13, 166, 0, 0, mX13_begins), (13, 323, 0, 0, mX13_opens), (13, 169, 0, 0, mX13_keepsRow), (30, 17, 0, 5, mX13_feed), (13, 175, 0, 1, mX13_put), (30, 22, 0, 1, mX13_back), (30, 27, 0, 0, mX13_read), (13, 233, 0, 0, mX13_cut), (13, 190, 0, 1, mX13_byteAt)], ∀ w ∈ am_wds e, w ∈ am_WS := List.forall_mem_cons.mpr ⟨am_l240, List.forall_mem_cons.mpr ⟨am_l241, List.forall_mem_cons.mpr ⟨am_l242, List.forall_mem_cons.mpr ⟨am_l243, List.forall_mem_cons.mpr ⟨am_l244, List.forall_mem_cons.mpr ⟨am_l245, List.forall_mem_cons.mpr ⟨am_l246, List.forall_mem_cons.mpr ⟨am_l247, List.forall_mem_cons.mpr ⟨am_l248, List.forall_mem_cons.mpr ⟨am_l249, List.forall_mem_cons.mpr ⟨am_l250, List.forall_mem_cons.mpr ⟨am_l251, List.forall_mem_cons.mpr ⟨am_l252, List.forall_mem_cons.mpr ⟨am_l253, List.forall_mem_cons.mpr ⟨am_l254, List.forall_mem_cons.mpr ⟨am_l255, fun _ h => absurd h List.not_mem_nil⟩⟩⟩⟩⟩⟩⟩⟩⟩⟩⟩⟩⟩⟩⟩⟩
set_option maxRecDepth 20000 in
theorem am_l256 : ∀ w ∈ am_wds (13, 194, 0, 4, mX13_token), w ∈ am_WS := am_pick [1575, 1577, 47, 117, 1578] rfl (by decide +kernel)
set_option maxRecDepth 20000 in
theorem am_l257 : ∀ w ∈ am_wds (13, 198, 1, 1, mX13_isLetter), w ∈ am_WS := am_pick [1579, 1580, 117, 1581] rfl (by decide +kernel)
set_option maxRecDepth 20000 in
theorem am_l258 : ∀ w ∈ am_wds (13, 202, 1, 1, mX13_isDigit), w ∈ am_WS := am_pick [1582, 1583, 117, 1584] rfl (by decide +kernel)
set_option maxRecDepth 20000 in
theorem am_l259 : ∀ w ∈ am_wds (13, 205, 0, 3, mX13_sign), w ∈ am_WS := am_pick [1585, 1587, 48, 117, 1588] rfl (by decide +kernel)
set_option maxRecDepth 20000 in
theorem am_l260 : ∀ w ∈ am_wds (13, 227, 0, 1, mX13_is), w ∈ am_WS := am_pick [1589, 1591, 49, 117, 1592] rfl (by decide +kernel)
set_option maxRecDepth 20000 in
theorem am_l261 : ∀ w ∈ am_wds (13, 254, 0, 0, mX13_tellOne), w ∈ am_WS := am_pick [1593, 1595, 50, 117, 1596] rfl (by decide +kernel)
set_option maxRecDepth 20000 in
theorem am_l262 : ∀ w ∈ am_wds (13, 263, 0, 2, mX13_roomFor), w ∈ am_WS := am_pick [1597, 1599, 51, 117, 1600] rfl (by decide +kernel)
set_option maxRecDepth 20000 in
theorem am_l263 : ∀ w ∈ am_wds (13, 224, 0, 1, mX13_fail), w ∈ am_WS := am_pick [1601, 1603, 52, 117, 1604] rfl (by decide +kernel)
set_option maxRecDepth 20000 in
theorem am_l264 : ∀ w ∈ am_wds (13, 230, 0, 0, mX13_goesOn), w ∈ am_WS := am_pick [1605, 1607, 53, 117, 1608] rfl (by decide +kernel)
set_option maxRecDepth 20000 in
theorem am_l265 : ∀ w ∈ am_wds (13, 267, 0, 0, mX13_tellPuppet), w ∈ am_WS := am_pick [1609, 1611, 54, 117, 1612] rfl (by decide +kernel)
set_option maxRecDepth 20000 in
theorem am_l266 : ∀ w ∈ am_wds (13, 286, 0, 0, mX13_named), w ∈ am_WS := am_pick [1613, 1615, 55, 117, 1616] rfl (by decide +kernel)
set_option maxRecDepth 20000 in
theorem am_l267 : ∀ w ∈ am_wds (13, 277, 0, 1, mX13_must), w ∈ am_WS := am_pick [1617, 1619, 56, 117, 1620] rfl (by decide +kernel)
set_option maxRecDepth 20000 in
theorem am_l268 : ∀ w ∈ am_wds (13, 283, 0, 2, mX13_wrong), w ∈ am_WS := am_pick [1621, 1623, 57, 117, 1624] rfl (by decide +kernel)
set_option maxRecDepth 20000 in
theorem am_l269 : ∀ w ∈ am_wds (13, 273, 0, 2, mX13_bounded), w ∈ am_WS := am_pick [1625, 1627, 58, 117, 1628] rfl (by decide +kernel)
set_option maxRecDepth 20000 in
theorem am_l270 : ∀ w ∈ am_wds (13, 290, 0, 2, mX13_ends), w ∈ am_WS := am_pick [1629, 1631, 59, 117, 1632] rfl (by decide +kernel)
set_option maxRecDepth 20000 in
theorem am_l271 : ∀ w ∈ am_wds (13, 270, 0, 0, mX13_tellString), w ∈ am_WS := am_pick [1633, 1635, 60, 117, 1636] rfl (by decide +kernel)
theorem am_LKc16 : ∀ e ∈ [(13, 194, 0, 4, mX13_token), (13, 198, 1, 1, mX13_isLetter), (13, 202, 1, 1, mX13_isDigit), (13, 205, 0, 3, mX13_sign), (13, 227, 0, 1, mX13_is), (13, 254, 0, 0, mX13_tellOne), (13, 263, 0, 2, mX13_roomFor), (13, 224, 0, 1, mX13_fail), (13, 230, 0, 0, mX13_goesOn), (13, 267, 0, 0, mX13_tellPuppet), (13, 286, 0, 0, mX13_named), (13, 277, 0, 1, mX13_must), (13, 283, 0, 2, mX13_wrong), (13, 273, 0, 2, mX13_bounded), (13, 290, 0, 2, mX13_ends), (13, 270, 0, 0, mX13_tellString)], ∀ w ∈ am_wds e, w ∈ am_WS := List.forall_mem_cons.mpr ⟨am_l256, List.forall_mem_cons.mpr ⟨am_l257, List.forall_mem_cons.mpr ⟨am_l258, List.forall_mem_cons.mpr ⟨am_l259, List.forall_mem_cons.mpr ⟨am_l260, List.forall_mem_cons.mpr ⟨am_l261, List.forall_mem_cons.mpr ⟨am_l262, List.forall_mem_cons.mpr ⟨am_l263, List.forall_mem_cons.mpr ⟨am_l264, List.forall_mem_cons.mpr ⟨am_l265, List.forall_mem_cons.mpr ⟨am_l266, List.forall_mem_cons.mpr ⟨am_l267, List.forall_mem_cons.mpr ⟨am_l268, List.forall_mem_cons.mpr ⟨am_l269, List.forall_mem_cons.mpr ⟨am_l270, List.forall_mem_cons.mpr ⟨am_l271, fun _ h => absurd h List.not_mem_nil⟩⟩⟩⟩⟩⟩⟩⟩⟩⟩⟩⟩⟩⟩⟩⟩
set_option maxRecDepth 20000 in
theorem am_l272 : ∀ w ∈ am_wds (13, 293, 0, 0, mX13_knownPuppet), w ∈ am_WS := am_pick [1637, 1639, 61, 117, 1640] rfl (by decide +kernel)
set_option maxRecDepth 20000 in
theorem am_l273 : ∀ w ∈ am_wds (13, 280, 0, 1, mX13_tellLaw), w ∈ am_WS := am_pick [1641, 1643, 62, 117, 1644] rfl (by decide +kernel)
set_option maxRecDepth 20000 in
theorem am_l274 : ∀ w ∈ am_wds (13, 296, 0, 0, mX13_expression), w ∈ am_WS := am_pick [1645, 1647, 63, 117, 1648] rfl (by decide +kernel)
set_option maxRecDepth 20000 in
theorem am_l275 : ∀ w ∈ am_wds (13, 308, 0, 0, mX13_unit), w ∈ am_WS := am_pick [1649, 1651, 64, 117, 1652] rfl (by decide +kernel)
set_option maxRecDepth 20000 in
theorem am_l276 : ∀ w ∈ am_wds (13, 305, 0, 2, mX13_emit), w ∈ am_WS := am_pick [1653, 1655, 65, 117, 1656] rfl (by decide +kernel)
set_option maxRecDepth 20000 in
theorem am_l277 : ∀ w ∈ am_wds (13, 311, 0, 1, mX13_comesOut), w ∈ am_WS := am_pick [1657, 1659, 66, 117, 1660] rfl (by decide +kernel)
set_option maxRecDepth 20000 in
theorem am_l278 : ∀ w ∈ am_wds (13, 299, 0, 0, mX13_term), w ∈ am_WS := am_pick [1661, 1663, 67, 117, 1664] rfl (by decide +kernel)
set_option maxRecDepth 20000 in
theorem am_l279 : ∀ w ∈ am_wds (30, 31, 0, 0, mX13_place), w ∈ am_WS := am_pick [1665, 1666, 1667, 117, 1668] rfl (by decide +kernel)
set_option maxRecDepth 20000 in
theorem am_l280 : ∀ w ∈ am_wds (30, 36, 0, 2, mX13_puppet), w ∈ am_WS := am_pick [1669, 1670, 1671, 117, 1672] rfl (by decide +kernel)
set_option maxRecDepth 20000 in
theorem am_l281 : ∀ w ∈ am_wds (13, 333, 0, 1, mX13_isPuppet), w ∈ am_WS := am_pick [1673, 1675, 68, 117, 1676] rfl (by decide +kernel)
set_option maxRecDepth 20000 in
theorem am_l282 : ∀ w ∈ am_wds (13, 319, 1, 3, mX13_in), w ∈ am_WS := am_pick [1677, 1678, 117, 1679] rfl (by decide +kernel)
set_option maxRecDepth 20000 in
theorem am_l283 : ∀ w ∈ am_wds (30, 40, 0, 2, mX13_string), w ∈ am_WS := am_pick [1680, 1681, 1682, 117, 1683] rfl (by decide +kernel)
set_option maxRecDepth 20000 in
theorem am_l284 : ∀ w ∈ am_wds (13, 379, 0, 1, mX13_isString), w ∈ am_WS := am_pick [1684, 1686, 69, 117, 1687] rfl (by decide +kernel)
set_option maxRecDepth 20000 in
theorem am_l285 : ∀ w ∈ am_wds (30, 44, 0, 1, mX13_court), w ∈ am_WS := am_pick [1688, 1689, 1690, 117, 1691] rfl (by decide +kernel)
set_option maxRecDepth 20000 in
theorem am_l286 : ∀ w ∈ am_wds (13, 382, 0, 0, mX13_copies), w ∈ am_WS := am_pick [1692, 1694, 70, 117, 1695] rfl (by decide +kernel)
set_option maxRecDepth 20000 in
theorem am_l287 : ∀ w ∈ am_wds (13, 336, 0, 0, mX13_apartNow), w ∈ am_WS := am_pick [1696, 1698, 71, 117, 1699] rfl (by decide +kernel)
theorem am_LKc17 : ∀ e ∈ [(13, 293, 0, 0, mX13_knownPuppet), (13, 280, 0, 1, mX13_tellLaw), (13, 296, 0, 0, mX13_expression), (13, 308, 0, 0, mX13_unit), (13, 305, 0, 2, mX13_emit), (13, 311, 0, 1, mX13_comesOut), (13, 299, 0, 0, mX13_term), (30, 31, 0, 0, mX13_place), (30, 36, 0, 2, mX13_puppet), (13, 333, 0, 1, mX13_isPuppet), (13, 319, 1, 3, mX13_in), (30, 40, 0, 2, mX13_string), (13, 379, 0, 1, mX13_isString), (30, 44, 0, 1, mX13_court), (13, 382, 0, 0, mX13_copies), (13, 336, 0, 0, mX13_apartNow)], ∀ w ∈ am_wds e, w ∈ am_WS := List.forall_mem_cons.mpr ⟨am_l272, List.forall_mem_cons.mpr ⟨am_l273, List.forall_mem_cons.mpr ⟨am_l274, List.forall_mem_cons.mpr ⟨am_l275, List.forall_mem_cons.mpr ⟨am_l276, List.forall_mem_cons.mpr ⟨am_l277, List.forall_mem_cons.mpr ⟨am_l278, List.forall_mem_cons.mpr ⟨am_l279, List.forall_mem_cons.mpr ⟨am_l280, List.forall_mem_cons.mpr ⟨am_l281, List.forall_mem_cons.mpr ⟨am_l282, List.forall_mem_cons.mpr ⟨am_l283, List.forall_mem_cons.mpr ⟨am_l284, List.forall_mem_cons.mpr ⟨am_l285, List.forall_mem_cons.mpr ⟨am_l286, List.forall_mem_cons.mpr ⟨am_l287, fun _ h => absurd h List.not_mem_nil⟩⟩⟩⟩⟩⟩⟩⟩⟩⟩⟩⟩⟩⟩⟩⟩
set_option maxRecDepth 20000 in
theorem am_l288 : ∀ w ∈ am_wds (13, 339, 0, 0, mX13_tanglesNow), w ∈ am_WS := am_pick [1700, 1702, 72, 117, 1703] rfl (by decide +kernel)
set_option maxRecDepth 20000 in
theorem am_l289 : ∀ w ∈ am_wds (13, 342, 0, 0, mX13_nodsNow), w ∈ am_WS := am_pick [1704, 1706, 73, 117, 1707] rfl (by decide +kernel)
set_option maxRecDepth 20000 in
theorem am_l290 : ∀ w ∈ am_wds (30, 48, 0, 1, mX13_may), w ∈ am_WS := am_pick [1708, 1709, 1710, 117, 1711] rfl (by decide +kernel)
set_option maxRecDepth 20000 in
theorem am_l291 : ∀ w ∈ am_wds (13, 385, 0, 1, mX13_mayNow), w ∈ am_WS := am_pick [1712, 1714, 74, 117, 1715] rfl (by decide +kernel)
set_option maxRecDepth 20000 in
theorem am_l292 : ∀ w ∈ am_wds (13, 360, 0, 2, mX13_mayPull), w ∈ am_WS := am_pick [1716, 1718, 75, 117, 1719] rfl (by decide +kernel)
set_option maxRecDepth 20000 in
theorem am_l293 : ∀ w ∈ am_wds (13, 351, 0, 1, mX13_staysWithin), w ∈ am_WS := am_pick [1720, 1722, 76, 117, 1723] rfl (by decide +kernel)
set_option maxRecDepth 20000 in
theorem am_l294 : ∀ w ∈ am_wds (13, 348, 0, 1, mX13_goesTo), w ∈ am_WS := am_pick [1724, 1726, 77, 117, 1727] rfl (by decide +kernel)
set_option maxRecDepth 20000 in
theorem am_l295 : ∀ w ∈ am_wds (13, 354, 0, 0, mX13_looks), w ∈ am_WS := am_pick [1728, 1730, 78, 117, 1731] rfl (by decide +kernel)
set_option maxRecDepth 20000 in
theorem am_l296 : ∀ w ∈ am_wds (13, 357, 0, 2, mX13_asks), w ∈ am_WS := am_pick [1732, 1734, 79, 117, 1735] rfl (by decide +kernel)
set_option maxRecDepth 20000 in
theorem am_l297 : ∀ w ∈ am_wds (13, 345, 0, 2, mX13_termOf), w ∈ am_WS := am_pick [1736, 1738, 80, 117, 1739] rfl (by decide +kernel)
set_option maxRecDepth 20000 in
theorem am_l298 : ∀ w ∈ am_wds (30, 52, 0, 1, mX13_pull), w ∈ am_WS := am_pick [1740, 1741, 1742, 117, 1743] rfl (by decide +kernel)
set_option maxRecDepth 20000 in
theorem am_l299 : ∀ w ∈ am_wds (13, 388, 0, 1, mX13_pulls), w ∈ am_WS := am_pick [1744, 1746, 81, 117, 1747] rfl (by decide +kernel)
set_option maxRecDepth 20000 in
theorem am_l300 : ∀ w ∈ am_wds (13, 373, 0, 2, mX13_lotOf), w ∈ am_WS := am_pick [1748, 1750, 82, 117, 1751] rfl (by decide +kernel)
set_option maxRecDepth 20000 in
theorem am_l301 : ∀ w ∈ am_wds (13, 330, 1, 2, mX13_mixed), w ∈ am_WS := am_pick [1752, 1753, 117, 1754] rfl (by decide +kernel)
set_option maxRecDepth 20000 in
theorem am_l302 : ∀ w ∈ am_wds (13, 367, 0, 1, mX13_moves), w ∈ am_WS := am_pick [1756, 1758, 83, 117, 1759] rfl (by decide +kernel)
set_option maxRecDepth 20000 in
theorem am_l303 : ∀ w ∈ am_wds (13, 370, 0, 0, mX13_turnEnds), w ∈ am_WS := am_pick [1760, 1762, 84, 117, 1763] rfl (by decide +kernel)
theorem am_LKc18 : ∀ e ∈ [(13, 339, 0, 0, mX13_tanglesNow), (13, 342, 0, 0, mX13_nodsNow), (30, 48, 0, 1, mX13_may), (13, 385, 0, 1, mX13_mayNow), (13, 360, 0, 2, mX13_mayPull), (13, 351, 0, 1, mX13_staysWithin), (13, 348, 0, 1, mX13_goesTo), (13, 354, 0, 0, mX13_looks), (13, 357, 0, 2, mX13_asks), (13, 345, 0, 2, mX13_termOf), (30, 52, 0, 1, mX13_pull), (13, 388, 0, 1, mX13_pulls), (13, 373, 0, 2, mX13_lotOf), (13, 330, 1, 2, mX13_mixed), (13, 367, 0, 1, mX13_moves), (13, 370, 0, 0, mX13_turnEnds)], ∀ w ∈ am_wds e, w ∈ am_WS := List.forall_mem_cons.mpr ⟨am_l288, List.forall_mem_cons.mpr ⟨am_l289, List.forall_mem_cons.mpr ⟨am_l290, List.forall_mem_cons.mpr ⟨am_l291, List.forall_mem_cons.mpr ⟨am_l292, List.forall_mem_cons.mpr ⟨am_l293, List.forall_mem_cons.mpr ⟨am_l294, List.forall_mem_cons.mpr ⟨am_l295, List.forall_mem_cons.mpr ⟨am_l296, List.forall_mem_cons.mpr ⟨am_l297, List.forall_mem_cons.mpr ⟨am_l298, List.forall_mem_cons.mpr ⟨am_l299, List.forall_mem_cons.mpr ⟨am_l300, List.forall_mem_cons.mpr ⟨am_l301, List.forall_mem_cons.mpr ⟨am_l302, List.forall_mem_cons.mpr ⟨am_l303, fun _ h => absurd h List.not_mem_nil⟩⟩⟩⟩⟩⟩⟩⟩⟩⟩⟩⟩⟩⟩⟩⟩
set_option maxRecDepth 20000 in
theorem am_l304 : ∀ w ∈ am_wds (13, 364, 0, 0, mX13_verdictNow), w ∈ am_WS := am_pick [1764, 1766, 85, 117, 1767] rfl (by decide +kernel)
set_option maxRecDepth 20000 in
theorem am_l305 : ∀ w ∈ am_wds (13, 376, 0, 0, mX13_keepsCase), w ∈ am_WS := am_pick [1768, 1770, 86, 117, 1771] rfl (by decide +kernel)
set_option maxRecDepth 20000 in
theorem am_l306 : ∀ w ∈ am_wds (13, 391, 0, 0, mX13_keeps), w ∈ am_WS := am_pick [1772, 1774, 87, 117, 1775] rfl (by decide +kernel)
set_option maxRecDepth 20000 in
theorem am_l307 : ∀ w ∈ am_wds (30, 56, 0, 0, mX13_pass), w ∈ am_WS := am_pick [1776, 1777, 1778, 117, 1779] rfl (by decide +kernel)
set_option maxRecDepth 20000 in
theorem am_l308 : ∀ w ∈ am_wds (30, 60, 0, 0, mX13_open), w ∈ am_WS := am_pick [1780, 1781, 1782, 117, 1783] rfl (by decide +kernel)
set_option maxRecDepth 20000 in
theorem am_l309 : ∀ w ∈ am_wds (30, 65, 0, 0, mX13_undo), w ∈ am_WS := am_pick [1784, 1785, 1786, 117, 1787] rfl (by decide +kernel)
set_option maxRecDepth 20000 in
theorem am_l310 : ∀ w ∈ am_wds (30, 69, 0, 2, mX13_after), w ∈ am_WS := am_pick [1788, 1789, 1790, 117, 1791] rfl (by decide +kernel)
set_option maxRecDepth 20000 in
theorem am_l311 : ∀ w ∈ am_wds (13, 394, 0, 1, mX13_plays), w ∈ am_WS := am_pick [1792, 1794, 88, 117, 1795] rfl (by decide +kernel)
set_option maxRecDepth 20000 in
theorem am_l312 : ∀ w ∈ am_wds (30, 73, 0, 2, mX13_shortest), w ∈ am_WS := am_pick [1796, 1797, 1798, 117, 1799] rfl (by decide +kernel)
set_option maxRecDepth 20000 in
theorem am_l313 : ∀ w ∈ am_wds (13, 397, 1, 1, mX13_sevens), w ∈ am_WS := am_pick [1800, 1801, 117, 1802] rfl (by decide +kernel)
set_option maxRecDepth 20000 in
theorem am_l314 : ∀ w ∈ am_wds (13, 400, 0, 2, mX13_isPlayed), w ∈ am_WS := am_pick [1803, 1805, 89, 117, 1806] rfl (by decide +kernel)
set_option maxRecDepth 20000 in
theorem am_l315 : ∀ w ∈ am_wds (30, 77, 0, 2, mX13_force), w ∈ am_WS := am_pick [1807, 1808, 1809, 117, 1810] rfl (by decide +kernel)
set_option maxRecDepth 20000 in
theorem am_l316 : ∀ w ∈ am_wds (13, 406, 0, 2, mX13_forces), w ∈ am_WS := am_pick [1811, 1813, 90, 117, 1814] rfl (by decide +kernel)
set_option maxRecDepth 20000 in
theorem am_l317 : ∀ w ∈ am_wds (13, 403, 0, 1, mX13_piles), w ∈ am_WS := am_pick [1815, 1817, 91, 117, 1818] rfl (by decide +kernel)
set_option maxRecDepth 20000 in
theorem am_l318 : ∀ w ∈ am_wds (30, 89, 0, 1, mX13_strong), w ∈ am_WS := am_pick [1819, 1820, 1821, 117, 1822] rfl (by decide +kernel)
set_option maxRecDepth 20000 in
theorem am_l319 : ∀ w ∈ am_wds (30, 81, 0, 0, mX13_straight), w ∈ am_WS := am_pick [1823, 1824, 1825, 117, 1826] rfl (by decide +kernel)
theorem am_LKc19 : ∀ e ∈ [(13, 364, 0, 0, mX13_verdictNow), (13, 376, 0, 0, mX13_keepsCase), (13, 391, 0, 0, mX13_keeps), (30, 56, 0, 0, mX13_pass), (30, 60, 0, 0, mX13_open), (30, 65, 0, 0, mX13_undo), (30, 69, 0, 2, mX13_after), (13, 394, 0, 1, mX13_plays), (30, 73, 0, 2, mX13_shortest), (13, 397, 1, 1, mX13_sevens), (13, 400, 0, 2, mX13_isPlayed), (30, 77, 0, 2, mX13_force), (13, 406, 0, 2, mX13_forces), (13, 403, 0, 1, mX13_piles), (30, 89, 0, 1, mX13_strong), (30, 81, 0, 0, mX13_straight)], ∀ w ∈ am_wds e, w ∈ am_WS := List.forall_mem_cons.mpr ⟨am_l304, List.forall_mem_cons.mpr ⟨am_l305, List.forall_mem_cons.mpr ⟨am_l306, List.forall_mem_cons.mpr ⟨am_l307, List.forall_mem_cons.mpr ⟨am_l308, List.forall_mem_cons.mpr ⟨am_l309, List.forall_mem_cons.mpr ⟨am_l310, List.forall_mem_cons.mpr ⟨am_l311, List.forall_mem_cons.mpr ⟨am_l312, List.forall_mem_cons.mpr ⟨am_l313, List.forall_mem_cons.mpr ⟨am_l314, List.forall_mem_cons.mpr ⟨am_l315, List.forall_mem_cons.mpr ⟨am_l316, List.forall_mem_cons.mpr ⟨am_l317, List.forall_mem_cons.mpr ⟨am_l318, List.forall_mem_cons.mpr ⟨am_l319, fun _ h => absurd h List.not_mem_nil⟩⟩⟩⟩⟩⟩⟩⟩⟩⟩⟩⟩⟩⟩⟩⟩
set_option maxRecDepth 20000 in
theorem am_l320 : ∀ w ∈ am_wds (13, 413, 0, 2, mX13_fewest), w ∈ am_WS := am_pick [1827, 1829, 92, 117, 1830] rfl (by decide +kernel)
set_option maxRecDepth 20000 in
theorem am_l321 : ∀ w ∈ am_wds (13, 409, 0, 4, mX13_leadsTo), w ∈ am_WS := am_pick [1831, 1833, 93, 117, 1834] rfl (by decide +kernel)
set_option maxRecDepth 20000 in
theorem am_l322 : ∀ w ∈ am_wds (30, 85, 0, 2, mX13_reach), w ∈ am_WS := am_pick [1835, 1836, 1837, 117, 1838] rfl (by decide +kernel)
set_option maxRecDepth 20000 in
theorem am_l323 : ∀ w ∈ am_wds (30, 93, 0, 1, mX13_free), w ∈ am_WS := am_pick [1839, 1840, 1841, 117, 1842] rfl (by decide +kernel)
set_option maxRecDepth 20000 in
theorem am_l324 : ∀ w ∈ am_wds (30, 97, 0, 0, mX13_worn), w ∈ am_WS := am_pick [1843, 1844, 1845, 117, 1846] rfl (by decide +kernel)
set_option maxRecDepth 20000 in
theorem am_l325 : ∀ w ∈ am_wds (30, 111, 0, 2, mX13_jury), w ∈ am_WS := am_pick [1847, 1848, 1849, 117, 1850] rfl (by decide +kernel)
set_option maxRecDepth 20000 in
theorem am_l326 : ∀ w ∈ am_wds (13, 419, 0, 0, mX13_fillsVotes), w ∈ am_WS := am_pick [1851, 1853, 94, 117, 1854] rfl (by decide +kernel)
set_option maxRecDepth 20000 in
theorem am_l327 : ∀ w ∈ am_wds (13, 422, 0, 2, mX13_lineOf), w ∈ am_WS := am_pick [1855, 1857, 95, 117, 1858] rfl (by decide +kernel)
set_option maxRecDepth 20000 in
theorem am_l328 : ∀ w ∈ am_wds (13, 416, 1, 2, mX13_common), w ∈ am_WS := am_pick [1859, 1860, 117, 1861] rfl (by decide +kernel)
set_option maxRecDepth 20000 in
theorem am_l329 : ∀ w ∈ am_wds (30, 101, 0, 0, mX13_verdicts), w ∈ am_WS := am_pick [1862, 1863, 1864, 117, 1865] rfl (by decide +kernel)
set_option maxRecDepth 20000 in
theorem am_l330 : ∀ w ∈ am_wds (30, 106, 0, 1, mX13_half), w ∈ am_WS := am_pick [1866, 1867, 1868, 117, 1869] rfl (by decide +kernel)
set_option maxRecDepth 20000 in
theorem am_l331 : ∀ w ∈ am_wds (30, 115, 0, 2, mX13_precedent), w ∈ am_WS := am_pick [1870, 1871, 1872, 117, 1873] rfl (by decide +kernel)
set_option maxRecDepth 20000 in
theorem am_l332 : ∀ w ∈ am_wds (30, 119, 0, 1, mX13_nearest), w ∈ am_WS := am_pick [1874, 1875, 1876, 117, 1877] rfl (by decide +kernel)
set_option maxRecDepth 20000 in
theorem am_l333 : ∀ w ∈ am_wds (13, 426, 1, 2, mX13_off), w ∈ am_WS := am_pick [1878, 1879, 117, 1880] rfl (by decide +kernel)
set_option maxRecDepth 20000 in
theorem am_l334 : ∀ w ∈ am_wds (30, 123, 0, 0, mX13_clashes), w ∈ am_WS := am_pick [1881, 1882, 1883, 117, 1884] rfl (by decide +kernel)
set_option maxRecDepth 20000 in
theorem am_l335 : ∀ w ∈ am_wds (30, 127, 0, 1, mX13_paint), w ∈ am_WS := am_pick [1885, 1886, 1887, 117, 1888] rfl (by decide +kernel)
theorem am_LKc20 : ∀ e ∈ [(13, 413, 0, 2, mX13_fewest), (13, 409, 0, 4, mX13_leadsTo), (30, 85, 0, 2, mX13_reach), (30, 93, 0, 1, mX13_free), (30, 97, 0, 0, mX13_worn), (30, 111, 0, 2, mX13_jury), (13, 419, 0, 0, mX13_fillsVotes), (13, 422, 0, 2, mX13_lineOf), (13, 416, 1, 2, mX13_common), (30, 101, 0, 0, mX13_verdicts), (30, 106, 0, 1, mX13_half), (30, 115, 0, 2, mX13_precedent), (30, 119, 0, 1, mX13_nearest), (13, 426, 1, 2, mX13_off), (30, 123, 0, 0, mX13_clashes), (30, 127, 0, 1, mX13_paint)], ∀ w ∈ am_wds e, w ∈ am_WS := List.forall_mem_cons.mpr ⟨am_l320, List.forall_mem_cons.mpr ⟨am_l321, List.forall_mem_cons.mpr ⟨am_l322, List.forall_mem_cons.mpr ⟨am_l323, List.forall_mem_cons.mpr ⟨am_l324, List.forall_mem_cons.mpr ⟨am_l325, List.forall_mem_cons.mpr ⟨am_l326, List.forall_mem_cons.mpr ⟨am_l327, List.forall_mem_cons.mpr ⟨am_l328, List.forall_mem_cons.mpr ⟨am_l329, List.forall_mem_cons.mpr ⟨am_l330, List.forall_mem_cons.mpr ⟨am_l331, List.forall_mem_cons.mpr ⟨am_l332, List.forall_mem_cons.mpr ⟨am_l333, List.forall_mem_cons.mpr ⟨am_l334, List.forall_mem_cons.mpr ⟨am_l335, fun _ h => absurd h List.not_mem_nil⟩⟩⟩⟩⟩⟩⟩⟩⟩⟩⟩⟩⟩⟩⟩⟩
set_option maxRecDepth 20000 in
theorem am_l336 : ∀ w ∈ am_wds (13, 429, 0, 2, mX13_offPaint), w ∈ am_WS := am_pick [1889, 1891, 96, 117, 1892] rfl (by decide +kernel)
set_option maxRecDepth 20000 in
theorem am_l337 : ∀ w ∈ am_wds (30, 132, 0, 3, mX13_storms), w ∈ am_WS := am_pick [1893, 1894, 1895, 117, 1896] rfl (by decide +kernel)
set_option maxRecDepth 20000 in
theorem am_l338 : ∀ w ∈ am_wds (30, 136, 0, 3, mX13_tell), w ∈ am_WS := am_pick [1897, 1898, 1899, 117, 1900] rfl (by decide +kernel)
set_option maxRecDepth 20000 in
theorem am_l339 : ∀ w ∈ am_wds (30, 140, 0, 0, mX13_forget), w ∈ am_WS := am_pick [1901, 1902, 1903, 117, 1904] rfl (by decide +kernel)
set_option maxRecDepth 20000 in
theorem am_l340 : ∀ w ∈ am_wds (30, 144, 0, 2, mX13_cloth), w ∈ am_WS := am_pick [1905, 1906, 1907, 117, 1908] rfl (by decide +kernel)
set_option maxRecDepth 20000 in
theorem am_l341 : ∀ w ∈ am_wds (13, 435, 0, 2, mX13_isAsked), w ∈ am_WS := am_pick [1909, 1911, 97, 117, 1912] rfl (by decide +kernel)
set_option maxRecDepth 20000 in
theorem am_l342 : ∀ w ∈ am_wds (13, 438, 0, 3, mX13_isCloth), w ∈ am_WS := am_pick [1913, 1915, 98, 117, 1916] rfl (by decide +kernel)
set_option maxRecDepth 20000 in
theorem am_l343 : ∀ w ∈ am_wds (13, 432, 0, 2, mX13_isSeen), w ∈ am_WS := am_pick [1917, 1919, 99, 117, 1920] rfl (by decide +kernel)
set_option maxRecDepth 20000 in
theorem am_l344 : ∀ w ∈ am_wds (30, 148, 0, 3, mX13_sure), w ∈ am_WS := am_pick [1921, 1922, 1923, 117, 1924] rfl (by decide +kernel)
set_option maxRecDepth 20000 in
theorem am_l345 : ∀ w ∈ am_wds (30, 152, 0, 2, mX13_look), w ∈ am_WS := am_pick [1925, 1926, 1927, 117, 1928] rfl (by decide +kernel)
set_option maxRecDepth 20000 in
theorem am_l346 : ∀ w ∈ am_wds (30, 157, 0, 1, mX13_hold), w ∈ am_WS := am_pick [1929, 1930, 1931, 117, 1932] rfl (by decide +kernel)
set_option maxRecDepth 20000 in
theorem am_l347 : ∀ w ∈ am_wds (30, 161, 0, 1, mX13_restore), w ∈ am_WS := am_pick [1933, 1934, 1935, 117, 1936] rfl (by decide +kernel)
set_option maxRecDepth 20000 in
theorem am_l348 : ∀ w ∈ am_wds (30, 165, 0, 1, mX13_count), w ∈ am_WS := am_pick [1937, 1938, 1939, 117, 1940] rfl (by decide +kernel)
set_option maxRecDepth 20000 in
theorem am_l349 : ∀ w ∈ am_wds (10, 51, 3, 0, mX1_init), w ∈ am_WS := am_pick [141, 103, 142] rfl (by decide +kernel)
set_option maxRecDepth 20000 in
theorem am_l350 : ∀ w ∈ am_wds (12, 29, 3, 0, mX9_init), w ∈ am_WS := am_pick [254, 104, 255] rfl (by decide +kernel)
set_option maxRecDepth 20000 in
theorem am_l351 : ∀ w ∈ am_wds (12, 45, 3, 0, mX3_init), w ∈ am_WS := am_pick [390, 111, 391] rfl (by decide +kernel)
theorem am_LKc21 : ∀ e ∈ [(13, 429, 0, 2, mX13_offPaint), (30, 132, 0, 3, mX13_storms), (30, 136, 0, 3, mX13_tell), (30, 140, 0, 0, mX13_forget), (30, 144, 0, 2, mX13_cloth), (13, 435, 0, 2, mX13_isAsked), (13, 438, 0, 3, mX13_isCloth), (13, 432, 0, 2, mX13_isSeen), (30, 148, 0, 3, mX13_sure), (30, 152, 0, 2, mX13_look), (30, 157, 0, 1, mX13_hold), (30, 161, 0, 1, mX13_restore), (30, 165, 0, 1, mX13_count), (10, 51, 3, 0, mX1_init), (12, 29, 3, 0, mX9_init), (12, 45, 3, 0, mX3_init)], ∀ w ∈ am_wds e, w ∈ am_WS := List.forall_mem_cons.mpr ⟨am_l336, List.forall_mem_cons.mpr ⟨am_l337, List.forall_mem_cons.mpr ⟨am_l338, List.forall_mem_cons.mpr ⟨am_l339, List.forall_mem_cons.mpr ⟨am_l340, List.forall_mem_cons.mpr ⟨am_l341, List.forall_mem_cons.mpr ⟨am_l342, List.forall_mem_cons.mpr ⟨am_l343, List.forall_mem_cons.mpr ⟨am_l344, List.forall_mem_cons.mpr ⟨am_l345, List.forall_mem_cons.mpr ⟨am_l346, List.forall_mem_cons.mpr ⟨am_l347, List.forall_mem_cons.mpr ⟨am_l348, List.forall_mem_cons.mpr ⟨am_l349, List.forall_mem_cons.mpr ⟨am_l350, List.forall_mem_cons.mpr ⟨am_l351, fun _ h => absurd h List.not_mem_nil⟩⟩⟩⟩⟩⟩⟩⟩⟩⟩⟩⟩⟩⟩⟩⟩
set_option maxRecDepth 20000 in
theorem am_l352 : ∀ w ∈ am_wds (12, 52, 3, 0, mX6_init), w ∈ am_WS := am_pick [463, 112, 464] rfl (by decide +kernel)
set_option maxRecDepth 20000 in
theorem am_l353 : ∀ w ∈ am_wds (6, 30, 3, 0, mX3_init), w ∈ am_WS := am_pick [390, 111, 391] rfl (by decide +kernel)
theorem am_LKc22 : ∀ e ∈ [(12, 52, 3, 0, mX6_init), (6, 30, 3, 0, mX3_init)], ∀ w ∈ am_wds e, w ∈ am_WS := List.forall_mem_cons.mpr ⟨am_l352, List.forall_mem_cons.mpr ⟨am_l353, fun _ h => absurd h List.not_mem_nil⟩⟩
theorem am_app {α : Type} {p : α → Prop} {a b : List α} (ha : ∀ e ∈ a, p e) (hb : ∀ e ∈ b, p e) : ∀ e ∈ a ++ b, p e := fun e h => (List.mem_append.mp h).elim (ha e) (hb e)
set_option maxRecDepth 20000 in
theorem am_LKw : ∀ e ∈ am_LK, ∀ w ∈ am_wds e, w ∈ am_WS := am_app am_LKc0 (am_app am_LKc1 (am_app am_LKc2 (am_app am_LKc3 (am_app am_LKc4 (am_app am_LKc5 (am_app am_LKc6 (am_app am_LKc7 (am_app am_LKc8 (am_app am_LKc9 (am_app am_LKc10 (am_app am_LKc11 (am_app am_LKc12 (am_app am_LKc13 (am_app am_LKc14 (am_app am_LKc15 (am_app am_LKc16 (am_app am_LKc17 (am_app am_LKc18 (am_app am_LKc19 (am_app am_LKc20 (am_app am_LKc21 (am_LKc22))))))))))))))))))))))
def am_fw (e : Nat × Nat × Nat × Nat) : Cond := .fieldLink (am_cn e.1) e.2.1 (am_own e.2.2.1) ((vwCl[e.2.2.1]?).elim "" (fun q => (q.2.1 e.2.2.2).2.1)) ((vwCl[e.2.2.1]?).elim "" (fun q => (q.2.1 e.2.2.2).2.2.1))
set_option maxRecDepth 20000 in
theorem am_fc0 : ∀ e ∈ [(1, 11, 1, 0), (1, 15, 1, 1), (1, 18, 1, 2), (1, 21, 1, 3), (9, 169, 1, 3), (10, 9, 9, 0), (2, 86, 9, 0), (9, 104, 9, 0), (12, 300, 9, 0), (10, 15, 9, 1), (4, 60, 9, 1), (2, 69, 9, 1), (7, 84, 9, 1), (9, 127, 9, 1), (12, 252, 9, 1), (10, 18, 9, 2)], am_fw e ∈ am_WS := fun e he => am_pick (ws := List.map am_fw [(1, 11, 1, 0), (1, 15, 1, 1), (1, 18, 1, 2), (1, 21, 1, 3), (9, 169, 1, 3), (10, 9, 9, 0), (2, 86, 9, 0), (9, 104, 9, 0), (12, 300, 9, 0), (10, 15, 9, 1), (4, 60, 9, 1), (2, 69, 9, 1), (7, 84, 9, 1), (9, 127, 9, 1), (12, 252, 9, 1), (10, 18, 9, 2)]) [144, 145, 146, 147, 148, 176, 177, 178, 179, 180, 181, 182, 183, 184, 185, 186] rfl (by decide +kernel) _ (List.mem_map_of_mem he)
set_option maxRecDepth 20000 in
theorem am_fc1 : ∀ e ∈ [(5, 33, 9, 2), (9, 145, 9, 2), (12, 269, 9, 2), (10, 21, 9, 3), (9, 151, 9, 3), (10, 24, 9, 4), (12, 189, 9, 4), (9, 154, 9, 4), (10, 27, 9, 5), (12, 102, 9, 5), (9, 113, 9, 5), (10, 30, 9, 6), (12, 133, 9, 6), (9, 121, 9, 6), (10, 34, 9, 7), (0, 51, 9, 7)], am_fw e ∈ am_WS := fun e he => am_pick (ws := List.map am_fw [(5, 33, 9, 2), (9, 145, 9, 2), (12, 269, 9, 2), (10, 21, 9, 3), (9, 151, 9, 3), (10, 24, 9, 4), (12, 189, 9, 4), (9, 154, 9, 4), (10, 27, 9, 5), (12, 102, 9, 5), (9, 113, 9, 5), (10, 30, 9, 6), (12, 133, 9, 6), (9, 121, 9, 6), (10, 34, 9, 7), (0, 51, 9, 7)]) [187, 188, 189, 190, 191, 192, 193, 194, 195, 196, 197, 198, 199, 200, 201, 202] rfl (by decide +kernel) _ (List.mem_map_of_mem he)
set_option maxRecDepth 20000 in
theorem am_fc2 : ∀ e ∈ [(12, 144, 9, 7), (9, 133, 9, 7), (10, 37, 9, 8), (0, 40, 9, 8), (12, 147, 9, 8), (9, 136, 9, 8), (10, 40, 9, 9), (12, 150, 9, 9), (9, 139, 9, 9), (10, 43, 9, 10), (12, 153, 9, 10), (9, 142, 9, 10), (10, 46, 9, 11), (0, 70, 9, 11), (9, 148, 9, 11), (10, 52, 9, 12)], am_fw e ∈ am_WS := fun e he => am_pick (ws := List.map am_fw [(12, 144, 9, 7), (9, 133, 9, 7), (10, 37, 9, 8), (0, 40, 9, 8), (12, 147, 9, 8), (9, 136, 9, 8), (10, 40, 9, 9), (12, 150, 9, 9), (9, 139, 9, 9), (10, 43, 9, 10), (12, 153, 9, 10), (9, 142, 9, 10), (10, 46, 9, 11), (0, 70, 9, 11), (9, 148, 9, 11), (10, 52, 9, 12)]) [203, 204, 205, 206, 207, 208, 209, 210, 211, 212, 213, 214, 215, 216, 217, 218] rfl (by decide +kernel) _ (List.mem_map_of_mem he)
set_option maxRecDepth 20000 in
theorem am_fc3 : ∀ e ∈ [(0, 57, 9, 12), (9, 157, 9, 12), (10, 56, 9, 13), (11, 9, 10, 0), (11, 13, 10, 1), (11, 17, 10, 2), (11, 21, 10, 3), (11, 24, 10, 4), (9, 56, 10, 4), (11, 27, 10, 5), (9, 82, 10, 5), (11, 30, 10, 6), (9, 91, 10, 6), (11, 33, 10, 7), (9, 100, 10, 7), (9, 12, 8, 0)], am_fw e ∈ am_WS := fun e he => am_pick (ws := List.map am_fw [(0, 57, 9, 12), (9, 157, 9, 12), (10, 56, 9, 13), (11, 9, 10, 0), (11, 13, 10, 1), (11, 17, 10, 2), (11, 21, 10, 3), (11, 24, 10, 4), (9, 56, 10, 4), (11, 27, 10, 5), (9, 82, 10, 5), (11, 30, 10, 6), (9, 91, 10, 6), (11, 33, 10, 7), (9, 100, 10, 7), (9, 12, 8, 0)]) [219, 220, 221, 312, 313, 314, 315, 316, 317, 318, 319, 320, 321, 322, 323, 344] rfl (by decide +kernel) _ (List.mem_map_of_mem he)
set_option maxRecDepth 20000 in
theorem am_fc4 : ∀ e ∈ [(9, 18, 8, 1), (9, 22, 8, 2), (9, 26, 8, 3), (9, 30, 8, 4), (9, 33, 8, 5), (9, 36, 8, 6), (9, 42, 8, 7), (12, 96, 8, 7), (9, 46, 8, 8), (12, 95, 8, 8), (0, 15, 0, 0), (0, 11, 0, 1), (3, 9, 3, 0), (4, 50, 3, 0), (5, 38, 3, 0), (7, 68, 3, 0)], am_fw e ∈ am_WS := fun e he => am_pick (ws := List.map am_fw [(9, 18, 8, 1), (9, 22, 8, 2), (9, 26, 8, 3), (9, 30, 8, 4), (9, 33, 8, 5), (9, 36, 8, 6), (9, 42, 8, 7), (12, 96, 8, 7), (9, 46, 8, 8), (12, 95, 8, 8), (0, 15, 0, 0), (0, 11, 0, 1), (3, 9, 3, 0), (4, 50, 3, 0), (5, 38, 3, 0), (7, 68, 3, 0)]) [345, 346, 347, 348, 349, 350, 351, 352, 353, 354, 380, 381, 393, 394, 395, 396] rfl (by decide +kernel) _ (List.mem_map_of_mem he)
set_option maxRecDepth 20000 in
theorem am_fc5 : ∀ e ∈ [(12, 118, 3, 0), (3, 15, 3, 1), (5, 43, 3, 1), (4, 65, 3, 1), (7, 75, 3, 1), (12, 162, 3, 1), (3, 18, 3, 2), (4, 57, 3, 2), (7, 78, 3, 2), (12, 159, 3, 2), (3, 21, 3, 3), (4, 45, 3, 3), (7, 63, 3, 3), (12, 174, 3, 3), (3, 24, 3, 4), (12, 227, 3, 4)], am_fw e ∈ am_WS := fun e he => am_pick (ws := List.map am_fw [(12, 118, 3, 0), (3, 15, 3, 1), (5, 43, 3, 1), (4, 65, 3, 1), (7, 75, 3, 1), (12, 162, 3, 1), (3, 18, 3, 2), (4, 57, 3, 2), (7, 78, 3, 2), (12, 159, 3, 2), (3, 21, 3, 3), (4, 45, 3, 3), (7, 63, 3, 3), (12, 174, 3, 3), (3, 24, 3, 4), (12, 227, 3, 4)]) [397, 398, 399, 400, 401, 402, 403, 404, 405, 406, 407, 408, 409, 410, 411, 412] rfl (by decide +kernel) _ (List.mem_map_of_mem he)
set_option maxRecDepth 20000 in
theorem am_fc6 : ∀ e ∈ [(3, 27, 3, 5), (12, 192, 3, 5), (3, 30, 3, 6), (12, 198, 3, 6), (3, 33, 3, 7), (12, 340, 3, 7), (3, 36, 3, 8), (12, 343, 3, 8), (3, 39, 3, 9), (12, 275, 3, 9), (3, 42, 3, 10), (12, 156, 3, 10), (3, 46, 3, 11), (12, 281, 3, 11), (3, 49, 3, 12), (12, 284, 3, 12)], am_fw e ∈ am_WS := fun e he => am_pick (ws := List.map am_fw [(3, 27, 3, 5), (12, 192, 3, 5), (3, 30, 3, 6), (12, 198, 3, 6), (3, 33, 3, 7), (12, 340, 3, 7), (3, 36, 3, 8), (12, 343, 3, 8), (3, 39, 3, 9), (12, 275, 3, 9), (3, 42, 3, 10), (12, 156, 3, 10), (3, 46, 3, 11), (12, 281, 3, 11), (3, 49, 3, 12), (12, 284, 3, 12)]) [413, 414, 415, 416, 417, 418, 419, 420, 421, 422, 423, 424, 425, 426, 427, 428] rfl (by decide +kernel) _ (List.mem_map_of_mem he)
set_option maxRecDepth 20000 in
theorem am_fc7 : ∀ e ∈ [(3, 52, 3, 13), (12, 287, 3, 13), (6, 11, 6, 0), (6, 17, 6, 1), (6, 20, 6, 2), (6, 24, 6, 3), (6, 27, 6, 4), (12, 334, 6, 4), (7, 43, 7, 0), (7, 47, 7, 1), (7, 11, 7, 2), (7, 15, 7, 3), (7, 18, 7, 4), (7, 21, 7, 5), (7, 24, 7, 6), (7, 28, 7, 7)], am_fw e ∈ am_WS := fun e he => am_pick (ws := List.map am_fw [(3, 52, 3, 13), (12, 287, 3, 13), (6, 11, 6, 0), (6, 17, 6, 1), (6, 20, 6, 2), (6, 24, 6, 3), (6, 27, 6, 4), (12, 334, 6, 4), (7, 43, 7, 0), (7, 47, 7, 1), (7, 11, 7, 2), (7, 15, 7, 3), (7, 18, 7, 4), (7, 21, 7, 5), (7, 24, 7, 6), (7, 28, 7, 7)]) [429, 430, 468, 469, 470, 471, 472, 473, 491, 492, 493, 494, 495, 496, 497, 498] rfl (by decide +kernel) _ (List.mem_map_of_mem he)
set_option maxRecDepth 20000 in
theorem am_fc8 : ∀ e ∈ [(7, 31, 7, 8), (7, 34, 7, 9), (7, 37, 7, 10), (7, 40, 7, 11), (12, 241, 7, 11), (4, 33, 4, 0), (4, 37, 4, 1), (4, 13, 4, 2), (4, 16, 4, 3), (4, 20, 4, 4), (4, 24, 4, 5), (4, 27, 4, 6), (4, 30, 4, 7), (5, 19, 5, 0), (5, 23, 5, 1), (5, 9, 5, 2)], am_fw e ∈ am_WS := fun e he => am_pick (ws := List.map am_fw [(7, 31, 7, 8), (7, 34, 7, 9), (7, 37, 7, 10), (7, 40, 7, 11), (12, 241, 7, 11), (4, 33, 4, 0), (4, 37, 4, 1), (4, 13, 4, 2), (4, 16, 4, 3), (4, 20, 4, 4), (4, 24, 4, 5), (4, 27, 4, 6), (4, 30, 4, 7), (5, 19, 5, 0), (5, 23, 5, 1), (5, 9, 5, 2)]) [499, 500, 501, 502, 503, 537, 538, 539, 540, 541, 542, 543, 544, 568, 569, 570] rfl (by decide +kernel) _ (List.mem_map_of_mem he)
set_option maxRecDepth 20000 in
theorem am_fc9 : ∀ e ∈ [(5, 15, 5, 3), (2, 45, 2, 0), (2, 9, 2, 1), (2, 15, 2, 2), (2, 18, 2, 3), (2, 21, 2, 4), (2, 26, 2, 5), (2, 29, 2, 6), (2, 33, 2, 7), (2, 36, 2, 8), (12, 321, 2, 8), (2, 39, 2, 9), (12, 318, 2, 9), (2, 42, 2, 10), (12, 111, 2, 10), (12, 9, 11, 0)], am_fw e ∈ am_WS := fun e he => am_pick (ws := List.map am_fw [(5, 15, 5, 3), (2, 45, 2, 0), (2, 9, 2, 1), (2, 15, 2, 2), (2, 18, 2, 3), (2, 21, 2, 4), (2, 26, 2, 5), (2, 29, 2, 6), (2, 33, 2, 7), (2, 36, 2, 8), (12, 321, 2, 8), (2, 39, 2, 9), (12, 318, 2, 9), (2, 42, 2, 10), (12, 111, 2, 10), (12, 9, 11, 0)]) [571, 588, 589, 590, 591, 592, 593, 594, 595, 596, 597, 598, 599, 600, 601, 625] rfl (by decide +kernel) _ (List.mem_map_of_mem he)
set_option maxRecDepth 20000 in
theorem am_fc10 : ∀ e ∈ [(12, 13, 11, 1), (12, 17, 11, 2), (12, 23, 11, 3), (12, 30, 11, 4), (12, 39, 11, 5), (12, 46, 11, 6), (12, 53, 11, 7), (12, 62, 11, 8), (12, 69, 11, 9), (12, 76, 11, 10), (12, 83, 11, 11), (13, 13, 12, 1), (13, 172, 12, 2), (13, 17, 12, 3), (13, 178, 12, 4), (13, 20, 12, 5)], am_fw e ∈ am_WS := fun e he => am_pick (ws := List.map am_fw [(12, 13, 11, 1), (12, 17, 11, 2), (12, 23, 11, 3), (12, 30, 11, 4), (12, 39, 11, 5), (12, 46, 11, 6), (12, 53, 11, 7), (12, 62, 11, 8), (12, 69, 11, 9), (12, 76, 11, 10), (12, 83, 11, 11), (13, 13, 12, 1), (13, 172, 12, 2), (13, 17, 12, 3), (13, 178, 12, 4), (13, 20, 12, 5)]) [626, 627, 628, 629, 630, 631, 632, 633, 634, 635, 636, 1349, 1350, 1351, 1352, 1353] rfl (by decide +kernel) _ (List.mem_map_of_mem he)
set_option maxRecDepth 20000 in
theorem am_fc11 : ∀ e ∈ [(13, 24, 12, 6), (13, 27, 12, 7), (13, 30, 12, 8), (13, 34, 12, 9), (13, 187, 12, 10), (13, 212, 12, 11), (13, 236, 12, 12), (13, 209, 12, 13), (13, 215, 12, 14), (13, 218, 12, 15), (13, 221, 12, 16), (13, 37, 12, 17), (13, 239, 12, 18), (13, 242, 12, 19), (13, 245, 12, 20), (13, 40, 12, 21)], am_fw e ∈ am_WS := fun e he => am_pick (ws := List.map am_fw [(13, 24, 12, 6), (13, 27, 12, 7), (13, 30, 12, 8), (13, 34, 12, 9), (13, 187, 12, 10), (13, 212, 12, 11), (13, 236, 12, 12), (13, 209, 12, 13), (13, 215, 12, 14), (13, 218, 12, 15), (13, 221, 12, 16), (13, 37, 12, 17), (13, 239, 12, 18), (13, 242, 12, 19), (13, 245, 12, 20), (13, 40, 12, 21)]) [1354, 1355, 1356, 1357, 1358, 1359, 1360, 1361, 1362, 1363, 1364, 1365, 1366, 1367, 1368, 1369] rfl (by decide +kernel) _ (List.mem_map_of_mem he)
set_option maxRecDepth 20000 in
theorem am_fc12 : ∀ e ∈ [(13, 43, 12, 22), (13, 46, 12, 23), (13, 49, 12, 24), (13, 52, 12, 25), (13, 55, 12, 26), (13, 58, 12, 27), (13, 61, 12, 28), (13, 64, 12, 29), (13, 67, 12, 30), (13, 70, 12, 31), (13, 73, 12, 32), (13, 76, 12, 33), (13, 79, 12, 34), (13, 82, 12, 35), (13, 85, 12, 36), (13, 248, 12, 37)], am_fw e ∈ am_WS := fun e he => am_pick (ws := List.map am_fw [(13, 43, 12, 22), (13, 46, 12, 23), (13, 49, 12, 24), (13, 52, 12, 25), (13, 55, 12, 26), (13, 58, 12, 27), (13, 61, 12, 28), (13, 64, 12, 29), (13, 67, 12, 30), (13, 70, 12, 31), (13, 73, 12, 32), (13, 76, 12, 33), (13, 79, 12, 34), (13, 82, 12, 35), (13, 85, 12, 36), (13, 248, 12, 37)]) [1370, 1371, 1372, 1373, 1374, 1375, 1376, 1377, 1378, 1379, 1380, 1381, 1382, 1383, 1384, 1385] rfl (by decide +kernel) _ (List.mem_map_of_mem he)
set_option maxRecDepth 20000 in
theorem am_fc13 : ∀ e ∈ [(13, 88, 12, 38), (13, 92, 12, 39), (13, 95, 12, 40), (13, 98, 12, 41), (13, 101, 12, 42), (13, 251, 12, 43), (13, 104, 12, 44), (13, 107, 12, 45), (13, 110, 12, 46), (13, 302, 12, 47), (13, 113, 12, 48), (13, 116, 12, 49), (13, 315, 12, 50), (13, 119, 12, 51), (13, 122, 12, 52), (13, 326, 12, 53)], am_fw e ∈ am_WS := fun e he => am_pick (ws := List.map am_fw [(13, 88, 12, 38), (13, 92, 12, 39), (13, 95, 12, 40), (13, 98, 12, 41), (13, 101, 12, 42), (13, 251, 12, 43), (13, 104, 12, 44), (13, 107, 12, 45), (13, 110, 12, 46), (13, 302, 12, 47), (13, 113, 12, 48), (13, 116, 12, 49), (13, 315, 12, 50), (13, 119, 12, 51), (13, 122, 12, 52), (13, 326, 12, 53)]) [1386, 1387, 1388, 1389, 1390, 1391, 1392, 1393, 1394, 1395, 1396, 1397, 1398, 1399, 1400, 1401] rfl (by decide +kernel) _ (List.mem_map_of_mem he)
set_option maxRecDepth 20000 in
theorem am_fc14 : ∀ e ∈ [(13, 257, 12, 54), (13, 125, 12, 55), (13, 128, 12, 56), (13, 131, 12, 57), (13, 134, 12, 58), (13, 137, 12, 59), (13, 260, 12, 60), (13, 140, 12, 61), (13, 143, 12, 62), (13, 146, 12, 63), (13, 149, 12, 64), (13, 152, 12, 65), (13, 155, 12, 66)], am_fw e ∈ am_WS := fun e he => am_pick (ws := List.map am_fw [(13, 257, 12, 54), (13, 125, 12, 55), (13, 128, 12, 56), (13, 131, 12, 57), (13, 134, 12, 58), (13, 137, 12, 59), (13, 260, 12, 60), (13, 140, 12, 61), (13, 143, 12, 62), (13, 146, 12, 63), (13, 149, 12, 64), (13, 152, 12, 65), (13, 155, 12, 66)]) [1402, 1403, 1404, 1405, 1406, 1407, 1408, 1409, 1410, 1411, 1412, 1413, 1414] rfl (by decide +kernel) _ (List.mem_map_of_mem he)
set_option maxRecDepth 20000 in
theorem am_FLw : ∀ e ∈ am_FL, am_fw e ∈ am_WS := am_app am_fc0 (am_app am_fc1 (am_app am_fc2 (am_app am_fc3 (am_app am_fc4 (am_app am_fc5 (am_app am_fc6 (am_app am_fc7 (am_app am_fc8 (am_app am_fc9 (am_app am_fc10 (am_app am_fc11 (am_app am_fc12 (am_app am_fc13 (am_fc14))))))))))))))
set_option maxRecDepth 20000 in
theorem am_FLd : am_FL.all (fun e => decide (e.2.2.1 < 13) && ((vwCl[e.2.2.1]?).any (fun q => decide (e.2.2.2 < q.2.2) && decide ((q.2.1 e.2.2.2).1 = q.1)))) = true := by decide +kernel
theorem am_fl_some {c i ci j : Nat} (h : am_fl c i = some (ci, j)) : am_fw (c, i, ci, j) ∈ am_WS ∧ ∃ q, vwCl[ci]? = some q ∧ j < q.2.2 ∧ (q.2.1 j).1 = q.1 := by
  unfold am_fl at h
  cases hf : am_FL.find? (fun e => e.1 == c && e.2.1 == i) with
  | none => rw [hf] at h; cases h
  | some e =>
    rw [hf] at h
    have h1 := List.find?_some hf
    have h2 := List.mem_of_find?_eq_some hf
    simp only [Bool.and_eq_true, beq_iff_eq] at h1
    obtain ⟨a, b, r⟩ := e
    simp only [Option.map_some, Option.some.injEq] at h
    subst h
    obtain ⟨rfl, rfl⟩ := h1
    refine ⟨am_FLw _ h2, ?_⟩
    have h3 := List.all_eq_true.mp am_FLd _ h2
    simp only [Bool.and_eq_true, decide_eq_true_eq, Option.any_eq_true] at h3
    obtain ⟨-, q, hq, h4, h5⟩ := h3
    exact ⟨q, hq, h4, h5⟩
theorem am_k0 : (∀ w ∈ u_ws RX0 TX0 2, w ∈ lw_tbl) ∧ (u_ws RX0 TX0 2).all goodWord = true := by decide +kernel
theorem am_k1 : (∀ w ∈ u_ws RX1 TX1 4, w ∈ lw_tbl) ∧ (u_ws RX1 TX1 4).all goodWord = true := by decide +kernel
theorem am_k2 : (∀ w ∈ u_ws RX2 TX2 11, w ∈ lw_tbl) ∧ (u_ws RX2 TX2 11).all goodWord = true := by decide +kernel
theorem am_k3 : (∀ w ∈ u_ws RX3 TX3 14, w ∈ lw_tbl) ∧ (u_ws RX3 TX3 14).all goodWord = true := by decide +kernel
theorem am_k4 : (∀ w ∈ u_ws RX4 TX4 8, w ∈ lw_tbl) ∧ (u_ws RX4 TX4 8).all goodWord = true := by decide +kernel
theorem am_k5 : (∀ w ∈ u_ws RX5 TX5 4, w ∈ lw_tbl) ∧ (u_ws RX5 TX5 4).all goodWord = true := by decide +kernel
theorem am_k6 : (∀ w ∈ u_ws RX6 TX6 5, w ∈ lw_tbl) ∧ (u_ws RX6 TX6 5).all goodWord = true := by decide +kernel
theorem am_k7 : (∀ w ∈ u_ws RX7 TX7 12, w ∈ lw_tbl) ∧ (u_ws RX7 TX7 12).all goodWord = true := by decide +kernel
theorem am_k8 : (∀ w ∈ u_ws RX9 TX9 9, w ∈ lw_tbl) ∧ (u_ws RX9 TX9 9).all goodWord = true := by decide +kernel
theorem am_k9 : (∀ w ∈ u_ws RX10 TX10 14, w ∈ lw_tbl) ∧ (u_ws RX10 TX10 14).all goodWord = true := by decide +kernel
theorem am_k10 : (∀ w ∈ u_ws RX11 TX11 8, w ∈ lw_tbl) ∧ (u_ws RX11 TX11 8).all goodWord = true := by decide +kernel
theorem am_k11 : (∀ w ∈ u_ws RX12 TX12 12, w ∈ lw_tbl) ∧ (u_ws RX12 TX12 12).all goodWord = true := by decide +kernel
theorem am_k12 : (∀ w ∈ u_ws RX13 TX13 67, w ∈ lw_tbl) ∧ (u_ws RX13 TX13 67).all goodWord = true := by decide +kernel
