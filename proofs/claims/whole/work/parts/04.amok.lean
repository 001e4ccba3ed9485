def am_own (ci : Nat) : String := match vwCl[ci]? with
  | some q => q.1
  | none => ""
def am_WS : List Cond := lw_tbl.filter goodWord
theorem am_WSg : GoodIn am_WS am_WS := fun w h => ⟨h, good_of_word (List.mem_filter.mp h).2⟩
theorem am_mem {l : List Cond} {w : Cond} (i : Nat) (h : l[i]? = some w) : w ∈ l := by first | exact List.mem_of_getElem? h | exact List.getElem?_mem h
theorem am_pick {ws : List Cond} (ps : List Nat) (hp : ws = ps.filterMap (fun i => lw_tbl[i]?)) (h : ws.all goodWord = true) : ∀ w ∈ ws, w ∈ am_WS := by
  intro w hw
  have h1 := List.all_eq_true.mp h w hw
  rw [hp] at hw
  obtain ⟨i, -, hi⟩ := List.mem_filterMap.mp hw
  exact List.mem_filter.mpr ⟨am_mem i hi, h1⟩
/-- the words of a link -/
def am_wds (e : Nat × Nat × Nat × Nat × am_MM) : List Cond := match e.2.2.1 with
  | 0 => [.methodLink (am_cn e.1) e.2.1 e.2.2.2.2.2.1, .instanceMethod e.2.2.2.2.2.1, .selects e.2.2.2.2.2.1.cls e.2.2.2.2.2.1 e.2.2.2.2.2.1, .initialized e.2.2.2.2.2.1.cls, .code e.2.2.2.2.2.1 e.2.2.2.2.2.2.1 e.2.2.2.2.2.2.2.1 e.2.2.2.2.2.2.2.2]
  | 1 => [.methodLink (am_cn e.1) e.2.1 e.2.2.2.2.2.1, .static e.2.2.2.2.2.1, .initialized e.2.2.2.2.2.1.cls, .code e.2.2.2.2.2.1 e.2.2.2.2.2.2.1 e.2.2.2.2.2.2.2.1 e.2.2.2.2.2.2.2.2]
  | 2 => [.methodLink (am_cn e.1) e.2.1 e.2.2.2.2.2.1, .instanceMethod e.2.2.2.2.2.1, .initialized e.2.2.2.2.2.1.cls, .code e.2.2.2.2.2.1 e.2.2.2.2.2.2.1 e.2.2.2.2.2.2.2.1 e.2.2.2.2.2.2.2.2]
  | 3 => [.instanceMethod e.2.2.2.2.2.1, .initialized e.2.2.2.2.2.1.cls, .code e.2.2.2.2.2.1 e.2.2.2.2.2.2.1 e.2.2.2.2.2.2.2.1 e.2.2.2.2.2.2.2.2]
  | 6 => [.methodLink (am_cn e.1) e.2.1 Lib.Math.max.name, .static Lib.Math.max.name, .initialized "java/lang/Math", .code Lib.Math.max.name Lib.Math.max.code 2 (some .int)]
  | 7 => [.methodLink (am_cn e.1) e.2.1 Lib.Math.min.name, .static Lib.Math.min.name, .initialized "java/lang/Math", .code Lib.Math.min.name Lib.Math.min.code 2 (some .int)]
  | 8 => [.methodLink (am_cn e.1) e.2.1 Lib.Math.abs.name, .static Lib.Math.abs.name, .initialized "java/lang/Math", .code Lib.Math.abs.name Lib.Math.abs.code 1 (some .int)]
  | 4 => [.methodLink (am_cn e.1) e.2.1 objectInit, .instanceMethod objectInit, .code objectInit ⟨#[0xb1]⟩ 1 none]
  | _ => [.methodLink (am_cn e.1) e.2.1 arraycopyName, .native arraycopyName, .static arraycopyName, .initialized "java/lang/System"]
/-- what a link's method is -/
def am_lkd (e : Nat × Nat × Nat × Nat × am_MM) : Bool := decide (3 < e.2.2.1) || (decide (e.2.2.1 < 4) && plainName e.2.2.2.2.2.1.cls && decide (e.2.2.2.2.2.1.cls = am_cn e.2.2.2.2.1) && decide (e.2.2.2.2.2.1.cls ≠ "java/lang/invoke/MethodHandle") && decide (e.2.2.2.2.2.1.cls ≠ "java/lang/invoke/VarHandle") && decide ((parseMethodDescriptor e.2.2.2.2.2.1.desc).map (fun d => d.parameters.length) = some e.2.2.2.1) && decide (e.2.2.2.2.2.2.2.1 ≤ 41) && (decide (e.2.2.1 < 2) || (decide (e.2.2.2.2.2.1.name = "<init>") && decide (e.2.2.2.2.2.2.2.2 = none))))
set_option maxRecDepth 20000 in
theorem am_l0 : ∀ w ∈ am_wds (30, 9, 2, 0, mX12_init), w ∈ am_WS := am_pick [127, 128, 102, 129] rfl (by decide +kernel)
set_option maxRecDepth 20000 in
theorem am_l1 : ∀ w ∈ am_wds (12, 1, 4, 0, mX8_xOf), w ∈ am_WS := am_pick [130, 131, 132] rfl (by decide +kernel)
set_option maxRecDepth 20000 in
theorem am_l2 : ∀ w ∈ am_wds (12, 22, 2, 0, mX10_init), w ∈ am_WS := am_pick [135, 136, 103, 137] rfl (by decide +kernel)
set_option maxRecDepth 20000 in
theorem am_l3 : ∀ w ∈ am_wds (10, 3, 4, 0, mX8_xOf), w ∈ am_WS := am_pick [138, 131, 132] rfl (by decide +kernel)
set_option maxRecDepth 20000 in
theorem am_l4 : ∀ w ∈ am_wds (1, 5, 4, 0, mX8_xOf), w ∈ am_WS := am_pick [144, 131, 132] rfl (by decide +kernel)
set_option maxRecDepth 20000 in
theorem am_l5 : ∀ w ∈ am_wds (10, 59, 0, 0, mX10_clear), w ∈ am_WS := am_pick [161, 162, 163, 103, 164] rfl (by decide +kernel)
set_option maxRecDepth 20000 in
theorem am_l6 : ∀ w ∈ am_wds (10, 62, 0, 0, mX1_clear), w ∈ am_WS := am_pick [165, 166, 167, 104, 168] rfl (by decide +kernel)
set_option maxRecDepth 20000 in
theorem am_l7 : ∀ w ∈ am_wds (1, 27, 0, 1, mX1_startLaw), w ∈ am_WS := am_pick [169, 170, 171, 104, 172] rfl (by decide +kernel)
set_option maxRecDepth 20000 in
theorem am_l8 : ∀ w ∈ am_wds (1, 31, 0, 2, mX1_addStep), w ∈ am_WS := am_pick [173, 174, 175, 104, 176] rfl (by decide +kernel)
set_option maxRecDepth 20000 in
theorem am_l9 : ∀ w ∈ am_wds (9, 3, 4, 0, mX8_xOf), w ∈ am_WS := am_pick [257, 131, 132] rfl (by decide +kernel)
set_option maxRecDepth 20000 in
theorem am_l10 : ∀ w ∈ am_wds (9, 11, 2, 0, mX11_init), w ∈ am_WS := am_pick [260, 261, 106, 262] rfl (by decide +kernel)
set_option maxRecDepth 20000 in
theorem am_l11 : ∀ w ∈ am_wds (11, 3, 4, 0, mX8_xOf), w ∈ am_WS := am_pick [263, 131, 132] rfl (by decide +kernel)
set_option maxRecDepth 20000 in
theorem am_l12 : ∀ w ∈ am_wds (11, 51, 0, 0, mJ0_length_8abf5), w ∈ am_WS := am_pick [265, 266, 267, 107, 268] rfl (by decide +kernel)
set_option maxRecDepth 20000 in
theorem am_l13 : ∀ w ∈ am_wds (20, 335, 0, 0, mJ0_coder_7d493), w ∈ am_WS := am_pick [269, 270, 271, 107, 272] rfl (by decide +kernel)
set_option maxRecDepth 20000 in
theorem am_l14 : ∀ w ∈ am_wds (11, 56, 0, 1, mJ0_charAt_5068e), w ∈ am_WS := am_pick [275, 276, 277, 107, 278] rfl (by decide +kernel)
set_option maxRecDepth 20000 in
theorem am_l15 : ∀ w ∈ am_wds (20, 492, 0, 0, mJ0_isLatin1_aae02), w ∈ am_WS := am_pick [279, 280, 281, 107, 282] rfl (by decide +kernel)
theorem am_LKc0 : ∀ e ∈ [(30, 9, 2, 0, mX12_init), (12, 1, 4, 0, mX8_xOf), (12, 22, 2, 0, mX10_init), (10, 3, 4, 0, mX8_xOf), (1, 5, 4, 0, mX8_xOf), (10, 59, 0, 0, mX10_clear), (10, 62, 0, 0, mX1_clear), (1, 27, 0, 1, mX1_startLaw), (1, 31, 0, 2, mX1_addStep), (9, 3, 4, 0, mX8_xOf), (9, 11, 2, 0, mX11_init), (11, 3, 4, 0, mX8_xOf), (11, 51, 0, 0, mJ0_length_8abf5), (20, 335, 0, 0, mJ0_coder_7d493), (11, 56, 0, 1, mJ0_charAt_5068e), (20, 492, 0, 0, mJ0_isLatin1_aae02)], ∀ w ∈ am_wds e, w ∈ am_WS := List.forall_mem_cons.mpr ⟨am_l0, List.forall_mem_cons.mpr ⟨am_l1, List.forall_mem_cons.mpr ⟨am_l2, List.forall_mem_cons.mpr ⟨am_l3, List.forall_mem_cons.mpr ⟨am_l4, List.forall_mem_cons.mpr ⟨am_l5, List.forall_mem_cons.mpr ⟨am_l6, List.forall_mem_cons.mpr ⟨am_l7, List.forall_mem_cons.mpr ⟨am_l8, List.forall_mem_cons.mpr ⟨am_l9, List.forall_mem_cons.mpr ⟨am_l10, List.forall_mem_cons.mpr ⟨am_l11, List.forall_mem_cons.mpr ⟨am_l12, List.forall_mem_cons.mpr ⟨am_l13, List.forall_mem_cons.mpr ⟨am_l14, List.forall_mem_cons.mpr ⟨am_l15, fun _ h => absurd h List.not_mem_nil⟩⟩⟩⟩⟩⟩⟩⟩⟩⟩⟩⟩⟩⟩⟩⟩
set_option maxRecDepth 20000 in
theorem am_l16 : ∀ w ∈ am_wds (20, 495, 1, 2, mJ1_charAt_3b067), w ∈ am_WS := am_pick [283, 284, 108, 285] rfl (by decide +kernel)
set_option maxRecDepth 20000 in
theorem am_l17 : ∀ w ∈ am_wds (21, 9, 1, 2, mJ0_checkIndex_df160), w ∈ am_WS := am_pick [286, 287, 107, 288] rfl (by decide +kernel)
set_option maxRecDepth 20000 in
theorem am_l18 : ∀ w ∈ am_wds (20, 1059, 1, 3, mJ3_checkIndex_8e157), w ∈ am_WS := am_pick [291, 292, 109, 293] rfl (by decide +kernel)
set_option maxRecDepth 20000 in
theorem am_l19 : ∀ w ∈ am_wds (20, 498, 1, 2, mJ2_charAt_3b067), w ∈ am_WS := am_pick [294, 295, 110, 296] rfl (by decide +kernel)
set_option maxRecDepth 20000 in
theorem am_l20 : ∀ w ∈ am_wds (22, 67, 1, 2, mJ2_checkIndex_2214a), w ∈ am_WS := am_pick [297, 298, 110, 299] rfl (by decide +kernel)
set_option maxRecDepth 20000 in
theorem am_l21 : ∀ w ∈ am_wds (22, 48, 1, 1, mJ2_length_9d52b), w ∈ am_WS := am_pick [300, 301, 110, 302] rfl (by decide +kernel)
set_option maxRecDepth 20000 in
theorem am_l22 : ∀ w ∈ am_wds (22, 414, 1, 2, mJ0_checkIndex_df160), w ∈ am_WS := am_pick [303, 287, 107, 288] rfl (by decide +kernel)
set_option maxRecDepth 20000 in
theorem am_l23 : ∀ w ∈ am_wds (22, 71, 1, 2, mJ2_getChar_3b067), w ∈ am_WS := am_pick [304, 305, 110, 306] rfl (by decide +kernel)
set_option maxRecDepth 20000 in
theorem am_l24 : ∀ w ∈ am_wds (9, 41, 2, 0, mX10_init), w ∈ am_WS := am_pick [352, 136, 103, 137] rfl (by decide +kernel)
set_option maxRecDepth 20000 in
theorem am_l25 : ∀ w ∈ am_wds (12, 36, 2, 1, mX0_init), w ∈ am_WS := am_pick [385, 386, 111, 387] rfl (by decide +kernel)
set_option maxRecDepth 20000 in
theorem am_l26 : ∀ w ∈ am_wds (0, 3, 4, 0, mX8_xOf), w ∈ am_WS := am_pick [388, 131, 132] rfl (by decide +kernel)
set_option maxRecDepth 20000 in
theorem am_l27 : ∀ w ∈ am_wds (3, 3, 4, 0, mX8_xOf), w ∈ am_WS := am_pick [401, 131, 132] rfl (by decide +kernel)
set_option maxRecDepth 20000 in
theorem am_l28 : ∀ w ∈ am_wds (6, 3, 4, 0, mX8_xOf), w ∈ am_WS := am_pick [474, 131, 132] rfl (by decide +kernel)
set_option maxRecDepth 20000 in
theorem am_l29 : ∀ w ∈ am_wds (12, 59, 2, 2, mX7_init), w ∈ am_WS := am_pick [496, 497, 114, 498] rfl (by decide +kernel)
set_option maxRecDepth 20000 in
theorem am_l30 : ∀ w ∈ am_wds (7, 3, 4, 0, mX8_xOf), w ∈ am_WS := am_pick [499, 131, 132] rfl (by decide +kernel)
set_option maxRecDepth 20000 in
theorem am_l31 : ∀ w ∈ am_wds (12, 68, 2, 2, mX4_init), w ∈ am_WS := am_pick [540, 541, 115, 542] rfl (by decide +kernel)
theorem am_LKc1 : ∀ e ∈ [(20, 495, 1, 2, mJ1_charAt_3b067), (21, 9, 1, 2, mJ0_checkIndex_df160), (20, 1059, 1, 3, mJ3_checkIndex_8e157), (20, 498, 1, 2, mJ2_charAt_3b067), (22, 67, 1, 2, mJ2_checkIndex_2214a), (22, 48, 1, 1, mJ2_length_9d52b), (22, 414, 1, 2, mJ0_checkIndex_df160), (22, 71, 1, 2, mJ2_getChar_3b067), (9, 41, 2, 0, mX10_init), (12, 36, 2, 1, mX0_init), (0, 3, 4, 0, mX8_xOf), (3, 3, 4, 0, mX8_xOf), (6, 3, 4, 0, mX8_xOf), (12, 59, 2, 2, mX7_init), (7, 3, 4, 0, mX8_xOf), (12, 68, 2, 2, mX4_init)], ∀ w ∈ am_wds e, w ∈ am_WS := List.forall_mem_cons.mpr ⟨am_l16, List.forall_mem_cons.mpr ⟨am_l17, List.forall_mem_cons.mpr ⟨am_l18, List.forall_mem_cons.mpr ⟨am_l19, List.forall_mem_cons.mpr ⟨am_l20, List.forall_mem_cons.mpr ⟨am_l21, List.forall_mem_cons.mpr ⟨am_l22, List.forall_mem_cons.mpr ⟨am_l23, List.forall_mem_cons.mpr ⟨am_l24, List.forall_mem_cons.mpr ⟨am_l25, List.forall_mem_cons.mpr ⟨am_l26, List.forall_mem_cons.mpr ⟨am_l27, List.forall_mem_cons.mpr ⟨am_l28, List.forall_mem_cons.mpr ⟨am_l29, List.forall_mem_cons.mpr ⟨am_l30, List.forall_mem_cons.mpr ⟨am_l31, fun _ h => absurd h List.not_mem_nil⟩⟩⟩⟩⟩⟩⟩⟩⟩⟩⟩⟩⟩⟩⟩⟩
set_option maxRecDepth 20000 in
theorem am_l32 : ∀ w ∈ am_wds (4, 3, 4, 0, mX8_xOf), w ∈ am_WS := am_pick [543, 131, 132] rfl (by decide +kernel)
set_option maxRecDepth 20000 in
theorem am_l33 : ∀ w ∈ am_wds (12, 75, 2, 2, mX5_init), w ∈ am_WS := am_pick [573, 574, 116, 575] rfl (by decide +kernel)
set_option maxRecDepth 20000 in
theorem am_l34 : ∀ w ∈ am_wds (5, 3, 4, 0, mX8_xOf), w ∈ am_WS := am_pick [576, 131, 132] rfl (by decide +kernel)
set_option maxRecDepth 20000 in
theorem am_l35 : ∀ w ∈ am_wds (12, 82, 2, 1, mX2_init), w ∈ am_WS := am_pick [592, 593, 117, 594] rfl (by decide +kernel)
set_option maxRecDepth 20000 in
theorem am_l36 : ∀ w ∈ am_wds (2, 3, 4, 0, mX8_xOf), w ∈ am_WS := am_pick [595, 131, 132] rfl (by decide +kernel)
set_option maxRecDepth 20000 in
theorem am_l37 : ∀ w ∈ am_wds (30, 13, 0, 5, mX12_feed), w ∈ am_WS := am_pick [671, 672, 673, 102, 674] rfl (by decide +kernel)
set_option maxRecDepth 20000 in
theorem am_l38 : ∀ w ∈ am_wds (12, 87, 0, 1, mX12_putWord), w ∈ am_WS := am_pick [675, 677, 0, 102, 678] rfl (by decide +kernel)
set_option maxRecDepth 20000 in
theorem am_l39 : ∀ w ∈ am_wds (30, 18, 0, 1, mX12_back), w ∈ am_WS := am_pick [679, 680, 681, 102, 682] rfl (by decide +kernel)
set_option maxRecDepth 20000 in
theorem am_l40 : ∀ w ∈ am_wds (30, 23, 0, 0, mX12_read), w ∈ am_WS := am_pick [683, 684, 685, 102, 686] rfl (by decide +kernel)
set_option maxRecDepth 20000 in
theorem am_l41 : ∀ w ∈ am_wds (12, 91, 0, 2, mX9_faultOf), w ∈ am_WS := am_pick [687, 688, 689, 105, 690] rfl (by decide +kernel)
set_option maxRecDepth 20000 in
theorem am_l42 : ∀ w ∈ am_wds (9, 49, 0, 0, mX10_clear), w ∈ am_WS := am_pick [691, 162, 163, 103, 164] rfl (by decide +kernel)
set_option maxRecDepth 20000 in
theorem am_l43 : ∀ w ∈ am_wds (9, 52, 0, 2, mX11_cut), w ∈ am_WS := am_pick [692, 693, 694, 106, 695] rfl (by decide +kernel)
set_option maxRecDepth 20000 in
theorem am_l44 : ∀ w ∈ am_wds (11, 60, 7, 0, mX8_xOf), w ∈ am_WS := am_pick [696, 697, 119, 698] rfl (by decide +kernel)
set_option maxRecDepth 20000 in
theorem am_l45 : ∀ w ∈ am_wds (11, 66, 0, 0, mX11_cutOne), w ∈ am_WS := am_pick [699, 701, 1, 106, 702] rfl (by decide +kernel)
set_option maxRecDepth 20000 in
theorem am_l46 : ∀ w ∈ am_wds (11, 72, 1, 1, mX11_isBlank), w ∈ am_WS := am_pick [703, 704, 106, 705] rfl (by decide +kernel)
set_option maxRecDepth 20000 in
theorem am_l47 : ∀ w ∈ am_wds (11, 76, 0, 0, mX11_cutLetters), w ∈ am_WS := am_pick [706, 708, 2, 106, 709] rfl (by decide +kernel)
theorem am_LKc2 : ∀ e ∈ [(4, 3, 4, 0, mX8_xOf), (12, 75, 2, 2, mX5_init), (5, 3, 4, 0, mX8_xOf), (12, 82, 2, 1, mX2_init), (2, 3, 4, 0, mX8_xOf), (30, 13, 0, 5, mX12_feed), (12, 87, 0, 1, mX12_putWord), (30, 18, 0, 1, mX12_back), (30, 23, 0, 0, mX12_read), (12, 91, 0, 2, mX9_faultOf), (9, 49, 0, 0, mX10_clear), (9, 52, 0, 2, mX11_cut), (11, 60, 7, 0, mX8_xOf), (11, 66, 0, 0, mX11_cutOne), (11, 72, 1, 1, mX11_isBlank), (11, 76, 0, 0, mX11_cutLetters)], ∀ w ∈ am_wds e, w ∈ am_WS := List.forall_mem_cons.mpr ⟨am_l32, List.forall_mem_cons.mpr ⟨am_l33, List.forall_mem_cons.mpr ⟨am_l34, List.forall_mem_cons.mpr ⟨am_l35, List.forall_mem_cons.mpr ⟨am_l36, List.forall_mem_cons.mpr ⟨am_l37, List.forall_mem_cons.mpr ⟨am_l38, List.forall_mem_cons.mpr ⟨am_l39, List.forall_mem_cons.mpr ⟨am_l40, List.forall_mem_cons.mpr ⟨am_l41, List.forall_mem_cons.mpr ⟨am_l42, List.forall_mem_cons.mpr ⟨am_l43, List.forall_mem_cons.mpr ⟨am_l44, List.forall_mem_cons.mpr ⟨am_l45, List.forall_mem_cons.mpr ⟨am_l46, List.forall_mem_cons.mpr ⟨am_l47, fun _ h => absurd h List.not_mem_nil⟩⟩⟩⟩⟩⟩⟩⟩⟩⟩⟩⟩⟩⟩⟩⟩
set_option maxRecDepth 20000 in
theorem am_l48 : ∀ w ∈ am_wds (11, 79, 0, 0, mX11_cutDigits), w ∈ am_WS := am_pick [710, 712, 3, 106, 713] rfl (by decide +kernel)
set_option maxRecDepth 20000 in
theorem am_l49 : ∀ w ∈ am_wds (11, 84, 0, 1, mJ0_indexOf_0f7a4), w ∈ am_WS := am_pick [716, 717, 718, 107, 719] rfl (by decide +kernel)
set_option maxRecDepth 20000 in
theorem am_l50 : ∀ w ∈ am_wds (20, 633, 0, 2, mJ0_indexOf_7cf53), w ∈ am_WS := am_pick [720, 721, 722, 107, 723] rfl (by decide +kernel)
set_option maxRecDepth 20000 in
theorem am_l51 : ∀ w ∈ am_wds (20, 505, 0, 0, mJ0_length_8abf5), w ∈ am_WS := am_pick [724, 266, 267, 107, 268] rfl (by decide +kernel)
set_option maxRecDepth 20000 in
theorem am_l52 : ∀ w ∈ am_wds (20, 637, 1, 4, mJ1_indexOf_4cfef), w ∈ am_WS := am_pick [725, 726, 108, 727] rfl (by decide +kernel)
set_option maxRecDepth 20000 in
theorem am_l53 : ∀ w ∈ am_wds (21, 88, 1, 1, mJ1_canEncode_9a6ad), w ∈ am_WS := am_pick [728, 729, 108, 730] rfl (by decide +kernel)
set_option maxRecDepth 20000 in
theorem am_l54 : ∀ w ∈ am_wds (21, 92, 6, 0, mX8_xOf), w ∈ am_WS := am_pick [731, 732, 119, 733] rfl (by decide +kernel)
set_option maxRecDepth 20000 in
theorem am_l55 : ∀ w ∈ am_wds (21, 38, 7, 0, mX8_xOf), w ∈ am_WS := am_pick [734, 697, 119, 698] rfl (by decide +kernel)
set_option maxRecDepth 20000 in
theorem am_l56 : ∀ w ∈ am_wds (21, 95, 1, 4, mJ1_indexOfChar_4cfef), w ∈ am_WS := am_pick [735, 736, 108, 737] rfl (by decide +kernel)
set_option maxRecDepth 20000 in
theorem am_l57 : ∀ w ∈ am_wds (20, 640, 1, 4, mJ2_indexOf_4cfef), w ∈ am_WS := am_pick [738, 739, 110, 740] rfl (by decide +kernel)
set_option maxRecDepth 20000 in
theorem am_l58 : ∀ w ∈ am_wds (22, 224, 6, 0, mX8_xOf), w ∈ am_WS := am_pick [741, 732, 119, 733] rfl (by decide +kernel)
set_option maxRecDepth 20000 in
theorem am_l59 : ∀ w ∈ am_wds (22, 183, 7, 0, mX8_xOf), w ∈ am_WS := am_pick [742, 697, 119, 698] rfl (by decide +kernel)
set_option maxRecDepth 20000 in
theorem am_l60 : ∀ w ∈ am_wds (22, 228, 1, 4, mJ2_indexOfChar_4cfef), w ∈ am_WS := am_pick [744, 745, 110, 746] rfl (by decide +kernel)
set_option maxRecDepth 20000 in
theorem am_l61 : ∀ w ∈ am_wds (22, 96, 1, 3, mJ2_checkBoundsBeginEnd_d044e), w ∈ am_WS := am_pick [747, 748, 110, 749] rfl (by decide +kernel)
set_option maxRecDepth 20000 in
theorem am_l62 : ∀ w ∈ am_wds (22, 241, 1, 3, mJ0_checkBoundsBeginEnd_23922), w ∈ am_WS := am_pick [750, 751, 107, 752] rfl (by decide +kernel)
set_option maxRecDepth 20000 in
theorem am_l63 : ∀ w ∈ am_wds (20, 1062, 1, 4, mJ3_checkFromToIndex_8c36e), w ∈ am_WS := am_pick [753, 754, 109, 755] rfl (by decide +kernel)
theorem am_LKc3 : ∀ e ∈ [(11, 79, 0, 0, mX11_cutDigits), (11, 84, 0, 1, mJ0_indexOf_0f7a4), (20, 633, 0, 2, mJ0_indexOf_7cf53), (20, 505, 0, 0, mJ0_length_8abf5), (20, 637, 1, 4, mJ1_indexOf_4cfef), (21, 88, 1, 1, mJ1_canEncode_9a6ad), (21, 92, 6, 0, mX8_xOf), (21, 38, 7, 0, mX8_xOf), (21, 95, 1, 4, mJ1_indexOfChar_4cfef), (20, 640, 1, 4, mJ2_indexOf_4cfef), (22, 224, 6, 0, mX8_xOf), (22, 183, 7, 0, mX8_xOf), (22, 228, 1, 4, mJ2_indexOfChar_4cfef), (22, 96, 1, 3, mJ2_checkBoundsBeginEnd_d044e), (22, 241, 1, 3, mJ0_checkBoundsBeginEnd_23922), (20, 1062, 1, 4, mJ3_checkFromToIndex_8c36e)], ∀ w ∈ am_wds e, w ∈ am_WS := List.forall_mem_cons.mpr ⟨am_l48, List.forall_mem_cons.mpr ⟨am_l49, List.forall_mem_cons.mpr ⟨am_l50, List.forall_mem_cons.mpr ⟨am_l51, List.forall_mem_cons.mpr ⟨am_l52, List.forall_mem_cons.mpr ⟨am_l53, List.forall_mem_cons.mpr ⟨am_l54, List.forall_mem_cons.mpr ⟨am_l55, List.forall_mem_cons.mpr ⟨am_l56, List.forall_mem_cons.mpr ⟨am_l57, List.forall_mem_cons.mpr ⟨am_l58, List.forall_mem_cons.mpr ⟨am_l59, List.forall_mem_cons.mpr ⟨am_l60, List.forall_mem_cons.mpr ⟨am_l61, List.forall_mem_cons.mpr ⟨am_l62, List.forall_mem_cons.mpr ⟨am_l63, fun _ h => absurd h List.not_mem_nil⟩⟩⟩⟩⟩⟩⟩⟩⟩⟩⟩⟩⟩⟩⟩⟩
set_option maxRecDepth 20000 in
theorem am_l64 : ∀ w ∈ am_wds (22, 244, 1, 4, mJ2_indexOfCharUnsafe_4cfef), w ∈ am_WS := am_pick [756, 757, 110, 758] rfl (by decide +kernel)
set_option maxRecDepth 20000 in
theorem am_l65 : ∀ w ∈ am_wds (22, 232, 1, 4, mJ2_indexOfSupplementary_4cfef), w ∈ am_WS := am_pick [759, 760, 110, 761] rfl (by decide +kernel)
set_option maxRecDepth 20000 in
theorem am_l66 : ∀ w ∈ am_wds (22, 164, 1, 1, mJ11_isValidCodePoint_9a6ad), w ∈ am_WS := am_pick [762, 763, 120, 764] rfl (by decide +kernel)
set_option maxRecDepth 20000 in
theorem am_l67 : ∀ w ∈ am_wds (22, 157, 1, 1, mJ11_highSurrogate_5068e), w ∈ am_WS := am_pick [765, 766, 120, 767] rfl (by decide +kernel)
set_option maxRecDepth 20000 in
theorem am_l68 : ∀ w ∈ am_wds (22, 161, 1, 1, mJ11_lowSurrogate_5068e), w ∈ am_WS := am_pick [769, 770, 120, 771] rfl (by decide +kernel)
set_option maxRecDepth 20000 in
theorem am_l69 : ∀ w ∈ am_wds (11, 69, 0, 0, mX11_showNext), w ∈ am_WS := am_pick [773, 774, 775, 106, 776] rfl (by decide +kernel)
set_option maxRecDepth 20000 in
theorem am_l70 : ∀ w ∈ am_wds (9, 59, 0, 0, mX9_puppetTold), w ∈ am_WS := am_pick [777, 779, 4, 105, 780] rfl (by decide +kernel)
set_option maxRecDepth 20000 in
theorem am_l71 : ∀ w ∈ am_wds (9, 79, 0, 1, mX9_fail), w ∈ am_WS := am_pick [781, 783, 5, 105, 784] rfl (by decide +kernel)
set_option maxRecDepth 20000 in
theorem am_l72 : ∀ w ∈ am_wds (9, 88, 0, 0, mX9_step), w ∈ am_WS := am_pick [785, 787, 6, 105, 788] rfl (by decide +kernel)
set_option maxRecDepth 20000 in
theorem am_l73 : ∀ w ∈ am_wds (9, 85, 0, 0, mX11_showNext), w ∈ am_WS := am_pick [789, 774, 775, 106, 776] rfl (by decide +kernel)
set_option maxRecDepth 20000 in
theorem am_l74 : ∀ w ∈ am_wds (9, 106, 0, 1, mX9_takeNewName), w ∈ am_WS := am_pick [790, 792, 7, 105, 793] rfl (by decide +kernel)
set_option maxRecDepth 20000 in
theorem am_l75 : ∀ w ∈ am_wds (9, 99, 0, 0, mX9_indexOfName), w ∈ am_WS := am_pick [794, 796, 8, 105, 797] rfl (by decide +kernel)
set_option maxRecDepth 20000 in
theorem am_l76 : ∀ w ∈ am_wds (9, 95, 0, 1, mX9_note), w ∈ am_WS := am_pick [798, 800, 9, 105, 801] rfl (by decide +kernel)
set_option maxRecDepth 20000 in
theorem am_l77 : ∀ w ∈ am_wds (9, 109, 0, 1, mX9_takeInt), w ∈ am_WS := am_pick [802, 804, 10, 105, 805] rfl (by decide +kernel)
set_option maxRecDepth 20000 in
theorem am_l78 : ∀ w ∈ am_wds (9, 115, 1, 3, mX8_shifted), w ∈ am_WS := am_pick [806, 807, 121, 808] rfl (by decide +kernel)
set_option maxRecDepth 20000 in
theorem am_l79 : ∀ w ∈ am_wds (9, 124, 0, 1, mX9_take), w ∈ am_WS := am_pick [809, 811, 11, 105, 812] rfl (by decide +kernel)
theorem am_LKc4 : ∀ e ∈ [(22, 244, 1, 4, mJ2_indexOfCharUnsafe_4cfef), (22, 232, 1, 4, mJ2_indexOfSupplementary_4cfef), (22, 164, 1, 1, mJ11_isValidCodePoint_9a6ad), (22, 157, 1, 1, mJ11_highSurrogate_5068e), (22, 161, 1, 1, mJ11_lowSurrogate_5068e), (11, 69, 0, 0, mX11_showNext), (9, 59, 0, 0, mX9_puppetTold), (9, 79, 0, 1, mX9_fail), (9, 88, 0, 0, mX9_step), (9, 85, 0, 0, mX11_showNext), (9, 106, 0, 1, mX9_takeNewName), (9, 99, 0, 0, mX9_indexOfName), (9, 95, 0, 1, mX9_note), (9, 109, 0, 1, mX9_takeInt), (9, 115, 1, 3, mX8_shifted), (9, 124, 0, 1, mX9_take)], ∀ w ∈ am_wds e, w ∈ am_WS := List.forall_mem_cons.mpr ⟨am_l64, List.forall_mem_cons.mpr ⟨am_l65, List.forall_mem_cons.mpr ⟨am_l66, List.forall_mem_cons.mpr ⟨am_l67, List.forall_mem_cons.mpr ⟨am_l68, List.forall_mem_cons.mpr ⟨am_l69, List.forall_mem_cons.mpr ⟨am_l70, List.forall_mem_cons.mpr ⟨am_l71, List.forall_mem_cons.mpr ⟨am_l72, List.forall_mem_cons.mpr ⟨am_l73, List.forall_mem_cons.mpr ⟨am_l74, List.forall_mem_cons.mpr ⟨am_l75, List.forall_mem_cons.mpr ⟨am_l76, List.forall_mem_cons.mpr ⟨am_l77, List.forall_mem_cons.mpr ⟨am_l78, List.forall_mem_cons.mpr ⟨am_l79, fun _ h => absurd h List.not_mem_nil⟩⟩⟩⟩⟩⟩⟩⟩⟩⟩⟩⟩⟩⟩⟩⟩
set_option maxRecDepth 20000 in
theorem am_l80 : ∀ w ∈ am_wds (9, 63, 0, 0, mX9_stringTold), w ∈ am_WS := am_pick [813, 815, 12, 105, 816] rfl (by decide +kernel)
set_option maxRecDepth 20000 in
theorem am_l81 : ∀ w ∈ am_wds (9, 130, 0, 0, mX9_takePuppetName), w ∈ am_WS := am_pick [817, 819, 13, 105, 820] rfl (by decide +kernel)
set_option maxRecDepth 20000 in
theorem am_l82 : ∀ w ∈ am_wds (9, 66, 0, 0, mX9_childTold), w ∈ am_WS := am_pick [821, 823, 14, 105, 824] rfl (by decide +kernel)
set_option maxRecDepth 20000 in
theorem am_l83 : ∀ w ∈ am_wds (9, 69, 0, 1, mX9_lawTold), w ∈ am_WS := am_pick [825, 827, 15, 105, 828] rfl (by decide +kernel)
set_option maxRecDepth 20000 in
theorem am_l84 : ∀ w ∈ am_wds (9, 161, 0, 1, mX1_startLaw), w ∈ am_WS := am_pick [829, 170, 171, 104, 172] rfl (by decide +kernel)
set_option maxRecDepth 20000 in
theorem am_l85 : ∀ w ∈ am_wds (9, 166, 0, 1, mX9_sum), w ∈ am_WS := am_pick [830, 832, 16, 105, 833] rfl (by decide +kernel)
set_option maxRecDepth 20000 in
theorem am_l86 : ∀ w ∈ am_wds (9, 179, 0, 1, mX9_product), w ∈ am_WS := am_pick [834, 836, 17, 105, 837] rfl (by decide +kernel)
set_option maxRecDepth 20000 in
theorem am_l87 : ∀ w ∈ am_wds (9, 182, 0, 1, mX9_unit), w ∈ am_WS := am_pick [838, 840, 18, 105, 841] rfl (by decide +kernel)
set_option maxRecDepth 20000 in
theorem am_l88 : ∀ w ∈ am_wds (9, 172, 0, 2, mX1_addStep), w ∈ am_WS := am_pick [842, 174, 175, 104, 176] rfl (by decide +kernel)
set_option maxRecDepth 20000 in
theorem am_l89 : ∀ w ∈ am_wds (9, 176, 0, 1, mX1_landHere), w ∈ am_WS := am_pick [843, 844, 845, 104, 846] rfl (by decide +kernel)
set_option maxRecDepth 20000 in
theorem am_l90 : ∀ w ∈ am_wds (9, 73, 0, 0, mX9_stormTold), w ∈ am_WS := am_pick [847, 849, 19, 105, 850] rfl (by decide +kernel)
set_option maxRecDepth 20000 in
theorem am_l91 : ∀ w ∈ am_wds (9, 76, 0, 0, mX9_seedTold), w ∈ am_WS := am_pick [851, 853, 20, 105, 854] rfl (by decide +kernel)
set_option maxRecDepth 20000 in
theorem am_l92 : ∀ w ∈ am_wds (12, 99, 0, 1, mX10_copyFrom), w ∈ am_WS := am_pick [855, 856, 857, 103, 858] rfl (by decide +kernel)
set_option maxRecDepth 20000 in
theorem am_l93 : ∀ w ∈ am_wds (10, 63, 5, 0, mX8_xOf), w ∈ am_WS := am_pick [859, 861, 860, 122] rfl (by decide +kernel)
set_option maxRecDepth 20000 in
theorem am_l94 : ∀ w ∈ am_wds (10, 69, 0, 1, mX1_copyFrom), w ∈ am_WS := am_pick [862, 863, 864, 104, 865] rfl (by decide +kernel)
set_option maxRecDepth 20000 in
theorem am_l95 : ∀ w ∈ am_wds (1, 35, 5, 0, mX8_xOf), w ∈ am_WS := am_pick [866, 861, 860, 122] rfl (by decide +kernel)
theorem am_LKc5 : ∀ e ∈ [(9, 63, 0, 0, mX9_stringTold), (9, 130, 0, 0, mX9_takePuppetName), (9, 66, 0, 0, mX9_childTold), (9, 69, 0, 1, mX9_lawTold), (9, 161, 0, 1, mX1_startLaw), (9, 166, 0, 1, mX9_sum), (9, 179, 0, 1, mX9_product), (9, 182, 0, 1, mX9_unit), (9, 172, 0, 2, mX1_addStep), (9, 176, 0, 1, mX1_landHere), (9, 73, 0, 0, mX9_stormTold), (9, 76, 0, 0, mX9_seedTold), (12, 99, 0, 1, mX10_copyFrom), (10, 63, 5, 0, mX8_xOf), (10, 69, 0, 1, mX1_copyFrom), (1, 35, 5, 0, mX8_xOf)], ∀ w ∈ am_wds e, w ∈ am_WS := List.forall_mem_cons.mpr ⟨am_l80, List.forall_mem_cons.mpr ⟨am_l81, List.forall_mem_cons.mpr ⟨am_l82, List.forall_mem_cons.mpr ⟨am_l83, List.forall_mem_cons.mpr ⟨am_l84, List.forall_mem_cons.mpr ⟨am_l85, List.forall_mem_cons.mpr ⟨am_l86, List.forall_mem_cons.mpr ⟨am_l87, List.forall_mem_cons.mpr ⟨am_l88, List.forall_mem_cons.mpr ⟨am_l89, List.forall_mem_cons.mpr ⟨am_l90, List.forall_mem_cons.mpr ⟨am_l91, List.forall_mem_cons.mpr ⟨am_l92, List.forall_mem_cons.mpr ⟨am_l93, List.forall_mem_cons.mpr ⟨am_l94, List.forall_mem_cons.mpr ⟨am_l95, fun _ h => absurd h List.not_mem_nil⟩⟩⟩⟩⟩⟩⟩⟩⟩⟩⟩⟩⟩⟩⟩⟩
set_option maxRecDepth 20000 in
theorem am_l96 : ∀ w ∈ am_wds (12, 105, 0, 1, mX3_begin), w ∈ am_WS := am_pick [867, 868, 869, 112, 870] rfl (by decide +kernel)
set_option maxRecDepth 20000 in
theorem am_l97 : ∀ w ∈ am_wds (3, 55, 1, 2, mJ7_fill_53178), w ∈ am_WS := am_pick [871, 872, 123, 873] rfl (by decide +kernel)
set_option maxRecDepth 20000 in
theorem am_l98 : ∀ w ∈ am_wds (3, 61, 0, 1, mX3_openCase), w ∈ am_WS := am_pick [874, 875, 876, 112, 877] rfl (by decide +kernel)
set_option maxRecDepth 20000 in
theorem am_l99 : ∀ w ∈ am_wds (12, 108, 0, 0, mX6_clear), w ∈ am_WS := am_pick [878, 879, 880, 113, 881] rfl (by decide +kernel)
set_option maxRecDepth 20000 in
theorem am_l100 : ∀ w ∈ am_wds (30, 28, 0, 0, mX12_place), w ∈ am_WS := am_pick [882, 883, 884, 102, 885] rfl (by decide +kernel)
set_option maxRecDepth 20000 in
theorem am_l101 : ∀ w ∈ am_wds (30, 32, 0, 2, mX12_puppet), w ∈ am_WS := am_pick [886, 887, 888, 102, 889] rfl (by decide +kernel)
set_option maxRecDepth 20000 in
theorem am_l102 : ∀ w ∈ am_wds (12, 114, 0, 1, mX10_hasPuppet), w ∈ am_WS := am_pick [890, 891, 892, 103, 893] rfl (by decide +kernel)
set_option maxRecDepth 20000 in
theorem am_l103 : ∀ w ∈ am_wds (12, 121, 1, 2, mX8_xOf), w ∈ am_WS := am_pick [894, 895, 121, 896] rfl (by decide +kernel)
set_option maxRecDepth 20000 in
theorem am_l104 : ∀ w ∈ am_wds (12, 127, 1, 2, mX8_headOf), w ∈ am_WS := am_pick [897, 898, 121, 899] rfl (by decide +kernel)
set_option maxRecDepth 20000 in
theorem am_l105 : ∀ w ∈ am_wds (12, 130, 1, 2, mX8_handOf), w ∈ am_WS := am_pick [900, 901, 121, 902] rfl (by decide +kernel)
set_option maxRecDepth 20000 in
theorem am_l106 : ∀ w ∈ am_wds (12, 137, 0, 1, mX10_stringsOf), w ∈ am_WS := am_pick [903, 904, 905, 103, 906] rfl (by decide +kernel)
set_option maxRecDepth 20000 in
theorem am_l107 : ∀ w ∈ am_wds (30, 37, 0, 2, mX12_string), w ∈ am_WS := am_pick [907, 908, 909, 102, 910] rfl (by decide +kernel)
set_option maxRecDepth 20000 in
theorem am_l108 : ∀ w ∈ am_wds (12, 141, 0, 1, mX10_hasString), w ∈ am_WS := am_pick [911, 912, 913, 103, 914] rfl (by decide +kernel)
set_option maxRecDepth 20000 in
theorem am_l109 : ∀ w ∈ am_wds (30, 41, 0, 1, mX12_court), w ∈ am_WS := am_pick [915, 916, 917, 102, 918] rfl (by decide +kernel)
set_option maxRecDepth 20000 in
theorem am_l110 : ∀ w ∈ am_wds (12, 165, 1, 1, mX8_apart), w ∈ am_WS := am_pick [919, 920, 121, 921] rfl (by decide +kernel)
set_option maxRecDepth 20000 in
theorem am_l111 : ∀ w ∈ am_wds (8, 11, 1, 2, mX8_xOf), w ∈ am_WS := am_pick [922, 895, 121, 896] rfl (by decide +kernel)
theorem am_LKc6 : ∀ e ∈ [(12, 105, 0, 1, mX3_begin), (3, 55, 1, 2, mJ7_fill_53178), (3, 61, 0, 1, mX3_openCase), (12, 108, 0, 0, mX6_clear), (30, 28, 0, 0, mX12_place), (30, 32, 0, 2, mX12_puppet), (12, 114, 0, 1, mX10_hasPuppet), (12, 121, 1, 2, mX8_xOf), (12, 127, 1, 2, mX8_headOf), (12, 130, 1, 2, mX8_handOf), (12, 137, 0, 1, mX10_stringsOf), (30, 37, 0, 2, mX12_string), (12, 141, 0, 1, mX10_hasString), (30, 41, 0, 1, mX12_court), (12, 165, 1, 1, mX8_apart), (8, 11, 1, 2, mX8_xOf)], ∀ w ∈ am_wds e, w ∈ am_WS := List.forall_mem_cons.mpr ⟨am_l96, List.forall_mem_cons.mpr ⟨am_l97, List.forall_mem_cons.mpr ⟨am_l98, List.forall_mem_cons.mpr ⟨am_l99, List.forall_mem_cons.mpr ⟨am_l100, List.forall_mem_cons.mpr ⟨am_l101, List.forall_mem_cons.mpr ⟨am_l102, List.forall_mem_cons.mpr ⟨am_l103, List.forall_mem_cons.mpr ⟨am_l104, List.forall_mem_cons.mpr ⟨am_l105, List.forall_mem_cons.mpr ⟨am_l106, List.forall_mem_cons.mpr ⟨am_l107, List.forall_mem_cons.mpr ⟨am_l108, List.forall_mem_cons.mpr ⟨am_l109, List.forall_mem_cons.mpr ⟨am_l110, List.forall_mem_cons.mpr ⟨am_l111, fun _ h => absurd h List.not_mem_nil⟩⟩⟩⟩⟩⟩⟩⟩⟩⟩⟩⟩⟩⟩⟩⟩
set_option maxRecDepth 20000 in
theorem am_l112 : ∀ w ∈ am_wds (12, 168, 0, 1, mX10_tanglesIn), w ∈ am_WS := am_pick [923, 924, 925, 103, 926] rfl (by decide +kernel)
set_option maxRecDepth 20000 in
theorem am_l113 : ∀ w ∈ am_wds (10, 77, 1, 2, mX8_xOf), w ∈ am_WS := am_pick [927, 895, 121, 896] rfl (by decide +kernel)
set_option maxRecDepth 20000 in
theorem am_l114 : ∀ w ∈ am_wds (12, 171, 1, 1, mX8_nods), w ∈ am_WS := am_pick [928, 929, 121, 930] rfl (by decide +kernel)
set_option maxRecDepth 20000 in
theorem am_l115 : ∀ w ∈ am_wds (8, 15, 1, 1, mJ6_bitCount_0f7a4), w ∈ am_WS := am_pick [931, 932, 124, 933] rfl (by decide +kernel)
set_option maxRecDepth 20000 in
theorem am_l116 : ∀ w ∈ am_wds (30, 45, 0, 1, mX12_may), w ∈ am_WS := am_pick [937, 938, 939, 102, 940] rfl (by decide +kernel)
set_option maxRecDepth 20000 in
theorem am_l117 : ∀ w ∈ am_wds (12, 177, 0, 2, mX12_mayBy), w ∈ am_WS := am_pick [941, 943, 21, 102, 944] rfl (by decide +kernel)
set_option maxRecDepth 20000 in
theorem am_l118 : ∀ w ∈ am_wds (12, 181, 0, 4, mX0_allows), w ∈ am_WS := am_pick [945, 946, 947, 111, 948] rfl (by decide +kernel)
set_option maxRecDepth 20000 in
theorem am_l119 : ∀ w ∈ am_wds (0, 36, 0, 1, mX10_hasString), w ∈ am_WS := am_pick [949, 912, 913, 103, 914] rfl (by decide +kernel)
set_option maxRecDepth 20000 in
theorem am_l120 : ∀ w ∈ am_wds (0, 43, 0, 2, mX10_moved), w ∈ am_WS := am_pick [950, 951, 952, 103, 953] rfl (by decide +kernel)
set_option maxRecDepth 20000 in
theorem am_l121 : ∀ w ∈ am_wds (10, 73, 0, 1, mX10_hasString), w ∈ am_WS := am_pick [954, 912, 913, 103, 914] rfl (by decide +kernel)
set_option maxRecDepth 20000 in
theorem am_l122 : ∀ w ∈ am_wds (10, 83, 1, 3, mX8_shifted), w ∈ am_WS := am_pick [955, 807, 121, 808] rfl (by decide +kernel)
set_option maxRecDepth 20000 in
theorem am_l123 : ∀ w ∈ am_wds (10, 87, 1, 3, mX8_turned), w ∈ am_WS := am_pick [956, 957, 121, 958] rfl (by decide +kernel)
set_option maxRecDepth 20000 in
theorem am_l124 : ∀ w ∈ am_wds (0, 47, 0, 2, mX0_set), w ∈ am_WS := am_pick [959, 961, 22, 111, 962] rfl (by decide +kernel)
set_option maxRecDepth 20000 in
theorem am_l125 : ∀ w ∈ am_wds (0, 19, 1, 1, mX8_apart), w ∈ am_WS := am_pick [963, 920, 121, 921] rfl (by decide +kernel)
set_option maxRecDepth 20000 in
theorem am_l126 : ∀ w ∈ am_wds (0, 25, 0, 1, mX10_tanglesIn), w ∈ am_WS := am_pick [964, 924, 925, 103, 926] rfl (by decide +kernel)
set_option maxRecDepth 20000 in
theorem am_l127 : ∀ w ∈ am_wds (0, 30, 1, 1, mX8_nods), w ∈ am_WS := am_pick [965, 929, 121, 930] rfl (by decide +kernel)
theorem am_LKc7 : ∀ e ∈ [(12, 168, 0, 1, mX10_tanglesIn), (10, 77, 1, 2, mX8_xOf), (12, 171, 1, 1, mX8_nods), (8, 15, 1, 1, mJ6_bitCount_0f7a4), (30, 45, 0, 1, mX12_may), (12, 177, 0, 2, mX12_mayBy), (12, 181, 0, 4, mX0_allows), (0, 36, 0, 1, mX10_hasString), (0, 43, 0, 2, mX10_moved), (10, 73, 0, 1, mX10_hasString), (10, 83, 1, 3, mX8_shifted), (10, 87, 1, 3, mX8_turned), (0, 47, 0, 2, mX0_set), (0, 19, 1, 1, mX8_apart), (0, 25, 0, 1, mX10_tanglesIn), (0, 30, 1, 1, mX8_nods)], ∀ w ∈ am_wds e, w ∈ am_WS := List.forall_mem_cons.mpr ⟨am_l112, List.forall_mem_cons.mpr ⟨am_l113, List.forall_mem_cons.mpr ⟨am_l114, List.forall_mem_cons.mpr ⟨am_l115, List.forall_mem_cons.mpr ⟨am_l116, List.forall_mem_cons.mpr ⟨am_l117, List.forall_mem_cons.mpr ⟨am_l118, List.forall_mem_cons.mpr ⟨am_l119, List.forall_mem_cons.mpr ⟨am_l120, List.forall_mem_cons.mpr ⟨am_l121, List.forall_mem_cons.mpr ⟨am_l122, List.forall_mem_cons.mpr ⟨am_l123, List.forall_mem_cons.mpr ⟨am_l124, List.forall_mem_cons.mpr ⟨am_l125, List.forall_mem_cons.mpr ⟨am_l126, List.forall_mem_cons.mpr ⟨am_l127, fun _ h => absurd h List.not_mem_nil⟩⟩⟩⟩⟩⟩⟩⟩⟩⟩⟩⟩⟩⟩⟩⟩
set_option maxRecDepth 20000 in
theorem am_l128 : ∀ w ∈ am_wds (0, 33, 1, 1, mX8_judgesHand), w ∈ am_WS := am_pick [966, 967, 121, 968] rfl (by decide +kernel)
set_option maxRecDepth 20000 in
theorem am_l129 : ∀ w ∈ am_wds (8, 21, 1, 2, mX8_handOf), w ∈ am_WS := am_pick [969, 901, 121, 902] rfl (by decide +kernel)
set_option maxRecDepth 20000 in
theorem am_l130 : ∀ w ∈ am_wds (0, 54, 1, 2, mX8_xOf), w ∈ am_WS := am_pick [970, 895, 121, 896] rfl (by decide +kernel)
set_option maxRecDepth 20000 in
theorem am_l131 : ∀ w ∈ am_wds (0, 61, 0, 2, mX1_valueOf), w ∈ am_WS := am_pick [971, 972, 973, 104, 974] rfl (by decide +kernel)
set_option maxRecDepth 20000 in
theorem am_l132 : ∀ w ∈ am_wds (1, 41, 1, 3, mX1_joined), w ∈ am_WS := am_pick [975, 976, 104, 977] rfl (by decide +kernel)
set_option maxRecDepth 20000 in
theorem am_l133 : ∀ w ∈ am_wds (30, 49, 0, 1, mX12_pull), w ∈ am_WS := am_pick [978, 979, 980, 102, 981] rfl (by decide +kernel)
set_option maxRecDepth 20000 in
theorem am_l134 : ∀ w ∈ am_wds (12, 185, 0, 1, mX6_remember), w ∈ am_WS := am_pick [982, 983, 984, 113, 985] rfl (by decide +kernel)
set_option maxRecDepth 20000 in
theorem am_l135 : ∀ w ∈ am_wds (6, 31, 0, 1, mX3_copyFrom), w ∈ am_WS := am_pick [987, 988, 989, 112, 990] rfl (by decide +kernel)
set_option maxRecDepth 20000 in
theorem am_l136 : ∀ w ∈ am_wds (3, 65, 5, 0, mX8_xOf), w ∈ am_WS := am_pick [991, 861, 860, 122] rfl (by decide +kernel)
set_option maxRecDepth 20000 in
theorem am_l137 : ∀ w ∈ am_wds (6, 35, 7, 0, mX8_xOf), w ∈ am_WS := am_pick [992, 697, 119, 698] rfl (by decide +kernel)
set_option maxRecDepth 20000 in
theorem am_l138 : ∀ w ∈ am_wds (12, 195, 0, 2, mX10_stormsAt), w ∈ am_WS := am_pick [993, 994, 995, 103, 996] rfl (by decide +kernel)
set_option maxRecDepth 20000 in
theorem am_l139 : ∀ w ∈ am_wds (10, 90, 1, 3, mX10_lot), w ∈ am_WS := am_pick [997, 998, 103, 999] rfl (by decide +kernel)
set_option maxRecDepth 20000 in
theorem am_l140 : ∀ w ∈ am_wds (10, 93, 1, 2, mX10_stirred), w ∈ am_WS := am_pick [1000, 1001, 103, 1002] rfl (by decide +kernel)
set_option maxRecDepth 20000 in
theorem am_l141 : ∀ w ∈ am_wds (12, 201, 0, 2, mX10_drawnAt), w ∈ am_WS := am_pick [1004, 1005, 1006, 103, 1007] rfl (by decide +kernel)
set_option maxRecDepth 20000 in
theorem am_l142 : ∀ w ∈ am_wds (12, 204, 0, 2, mX10_moved), w ∈ am_WS := am_pick [1008, 951, 952, 103, 953] rfl (by decide +kernel)
set_option maxRecDepth 20000 in
theorem am_l143 : ∀ w ∈ am_wds (12, 207, 0, 2, mX3_moveBy), w ∈ am_WS := am_pick [1009, 1010, 1011, 112, 1012] rfl (by decide +kernel)
theorem am_LKc8 : ∀ e ∈ [(0, 33, 1, 1, mX8_judgesHand), (8, 21, 1, 2, mX8_handOf), (0, 54, 1, 2, mX8_xOf), (0, 61, 0, 2, mX1_valueOf), (1, 41, 1, 3, mX1_joined), (30, 49, 0, 1, mX12_pull), (12, 185, 0, 1, mX6_remember), (6, 31, 0, 1, mX3_copyFrom), (3, 65, 5, 0, mX8_xOf), (6, 35, 7, 0, mX8_xOf), (12, 195, 0, 2, mX10_stormsAt), (10, 90, 1, 3, mX10_lot), (10, 93, 1, 2, mX10_stirred), (12, 201, 0, 2, mX10_drawnAt), (12, 204, 0, 2, mX10_moved), (12, 207, 0, 2, mX3_moveBy)], ∀ w ∈ am_wds e, w ∈ am_WS := List.forall_mem_cons.mpr ⟨am_l128, List.forall_mem_cons.mpr ⟨am_l129, List.forall_mem_cons.mpr ⟨am_l130, List.forall_mem_cons.mpr ⟨am_l131, List.forall_mem_cons.mpr ⟨am_l132, List.forall_mem_cons.mpr ⟨am_l133, List.forall_mem_cons.mpr ⟨am_l134, List.forall_mem_cons.mpr ⟨am_l135, List.forall_mem_cons.mpr ⟨am_l136, List.forall_mem_cons.mpr ⟨am_l137, List.forall_mem_cons.mpr ⟨am_l138, List.forall_mem_cons.mpr ⟨am_l139, List.forall_mem_cons.mpr ⟨am_l140, List.forall_mem_cons.mpr ⟨am_l141, List.forall_mem_cons.mpr ⟨am_l142, List.forall_mem_cons.mpr ⟨am_l143, fun _ h => absurd h List.not_mem_nil⟩⟩⟩⟩⟩⟩⟩⟩⟩⟩⟩⟩⟩⟩⟩⟩
set_option maxRecDepth 20000 in
theorem am_l144 : ∀ w ∈ am_wds (12, 211, 0, 0, mX12_endTurn), w ∈ am_WS := am_pick [1013, 1015, 23, 102, 1016] rfl (by decide +kernel)
set_option maxRecDepth 20000 in
theorem am_l145 : ∀ w ∈ am_wds (12, 214, 0, 0, mX3_turnOver), w ∈ am_WS := am_pick [1017, 1018, 1019, 112, 1020] rfl (by decide +kernel)
set_option maxRecDepth 20000 in
theorem am_l146 : ∀ w ∈ am_wds (12, 217, 0, 2, mX0_verdictOn), w ∈ am_WS := am_pick [1021, 1022, 1023, 111, 1024] rfl (by decide +kernel)
set_option maxRecDepth 20000 in
theorem am_l147 : ∀ w ∈ am_wds (12, 220, 0, 3, mX3_close), w ∈ am_WS := am_pick [1025, 1026, 1027, 112, 1028] rfl (by decide +kernel)
set_option maxRecDepth 20000 in
theorem am_l148 : ∀ w ∈ am_wds (3, 71, 0, 0, mX3_dropOldest), w ∈ am_WS := am_pick [1029, 1031, 24, 112, 1032] rfl (by decide +kernel)
set_option maxRecDepth 20000 in
theorem am_l149 : ∀ w ∈ am_wds (30, 53, 0, 0, mX12_pass), w ∈ am_WS := am_pick [1033, 1034, 1035, 102, 1036] rfl (by decide +kernel)
set_option maxRecDepth 20000 in
theorem am_l150 : ∀ w ∈ am_wds (30, 57, 0, 0, mX12_open), w ∈ am_WS := am_pick [1037, 1038, 1039, 102, 1040] rfl (by decide +kernel)
set_option maxRecDepth 20000 in
theorem am_l151 : ∀ w ∈ am_wds (12, 224, 0, 1, mX3_openCase), w ∈ am_WS := am_pick [1041, 875, 876, 112, 877] rfl (by decide +kernel)
set_option maxRecDepth 20000 in
theorem am_l152 : ∀ w ∈ am_wds (30, 61, 0, 0, mX12_undo), w ∈ am_WS := am_pick [1042, 1043, 1044, 102, 1045] rfl (by decide +kernel)
set_option maxRecDepth 20000 in
theorem am_l153 : ∀ w ∈ am_wds (12, 230, 0, 1, mX6_takeBack), w ∈ am_WS := am_pick [1046, 1047, 1048, 113, 1049] rfl (by decide +kernel)
set_option maxRecDepth 20000 in
theorem am_l154 : ∀ w ∈ am_wds (30, 66, 0, 2, mX12_after), w ∈ am_WS := am_pick [1050, 1051, 1052, 102, 1053] rfl (by decide +kernel)
set_option maxRecDepth 20000 in
theorem am_l155 : ∀ w ∈ am_wds (30, 70, 0, 2, mX12_shortest), w ∈ am_WS := am_pick [1054, 1055, 1056, 102, 1057] rfl (by decide +kernel)
set_option maxRecDepth 20000 in
theorem am_l156 : ∀ w ∈ am_wds (12, 234, 0, 3, mX7_aimAt), w ∈ am_WS := am_pick [1058, 1059, 1060, 114, 1061] rfl (by decide +kernel)
set_option maxRecDepth 20000 in
theorem am_l157 : ∀ w ∈ am_wds (12, 237, 0, 1, mX7_fewest), w ∈ am_WS := am_pick [1062, 1063, 1064, 114, 1065] rfl (by decide +kernel)
set_option maxRecDepth 20000 in
theorem am_l158 : ∀ w ∈ am_wds (7, 71, 0, 2, mX7_isGoal), w ∈ am_WS := am_pick [1066, 1068, 25, 114, 1069] rfl (by decide +kernel)
set_option maxRecDepth 20000 in
theorem am_l159 : ∀ w ∈ am_wds (7, 51, 1, 2, mX8_xOf), w ∈ am_WS := am_pick [1070, 895, 121, 896] rfl (by decide +kernel)
theorem am_LKc9 : ∀ e ∈ [(12, 211, 0, 0, mX12_endTurn), (12, 214, 0, 0, mX3_turnOver), (12, 217, 0, 2, mX0_verdictOn), (12, 220, 0, 3, mX3_close), (3, 71, 0, 0, mX3_dropOldest), (30, 53, 0, 0, mX12_pass), (30, 57, 0, 0, mX12_open), (12, 224, 0, 1, mX3_openCase), (30, 61, 0, 0, mX12_undo), (12, 230, 0, 1, mX6_takeBack), (30, 66, 0, 2, mX12_after), (30, 70, 0, 2, mX12_shortest), (12, 234, 0, 3, mX7_aimAt), (12, 237, 0, 1, mX7_fewest), (7, 71, 0, 2, mX7_isGoal), (7, 51, 1, 2, mX8_xOf)], ∀ w ∈ am_wds e, w ∈ am_WS := List.forall_mem_cons.mpr ⟨am_l144, List.forall_mem_cons.mpr ⟨am_l145, List.forall_mem_cons.mpr ⟨am_l146, List.forall_mem_cons.mpr ⟨am_l147, List.forall_mem_cons.mpr ⟨am_l148, List.forall_mem_cons.mpr ⟨am_l149, List.forall_mem_cons.mpr ⟨am_l150, List.forall_mem_cons.mpr ⟨am_l151, List.forall_mem_cons.mpr ⟨am_l152, List.forall_mem_cons.mpr ⟨am_l153, List.forall_mem_cons.mpr ⟨am_l154, List.forall_mem_cons.mpr ⟨am_l155, List.forall_mem_cons.mpr ⟨am_l156, List.forall_mem_cons.mpr ⟨am_l157, List.forall_mem_cons.mpr ⟨am_l158, List.forall_mem_cons.mpr ⟨am_l159, fun _ h => absurd h List.not_mem_nil⟩⟩⟩⟩⟩⟩⟩⟩⟩⟩⟩⟩⟩⟩⟩⟩
set_option maxRecDepth 20000 in
theorem am_l160 : ∀ w ∈ am_wds (7, 57, 0, 1, mX10_tanglesIn), w ∈ am_WS := am_pick [1071, 924, 925, 103, 926] rfl (by decide +kernel)
set_option maxRecDepth 20000 in
theorem am_l161 : ∀ w ∈ am_wds (7, 81, 0, 2, mX7_oneMore), w ∈ am_WS := am_pick [1072, 1074, 26, 114, 1075] rfl (by decide +kernel)
set_option maxRecDepth 20000 in
theorem am_l162 : ∀ w ∈ am_wds (7, 87, 0, 4, mX0_allows), w ∈ am_WS := am_pick [1076, 946, 947, 111, 948] rfl (by decide +kernel)
set_option maxRecDepth 20000 in
theorem am_l163 : ∀ w ∈ am_wds (7, 93, 0, 2, mX10_moved), w ∈ am_WS := am_pick [1077, 951, 952, 103, 953] rfl (by decide +kernel)
set_option maxRecDepth 20000 in
theorem am_l164 : ∀ w ∈ am_wds (7, 96, 0, 3, mX7_reaches), w ∈ am_WS := am_pick [1078, 1080, 27, 114, 1081] rfl (by decide +kernel)
set_option maxRecDepth 20000 in
theorem am_l165 : ∀ w ∈ am_wds (7, 103, 0, 1, mX7_isNext), w ∈ am_WS := am_pick [1082, 1084, 28, 114, 1085] rfl (by decide +kernel)
set_option maxRecDepth 20000 in
theorem am_l166 : ∀ w ∈ am_wds (7, 107, 0, 2, mX0_verdictOn), w ∈ am_WS := am_pick [1086, 1022, 1023, 111, 1024] rfl (by decide +kernel)
set_option maxRecDepth 20000 in
theorem am_l167 : ∀ w ∈ am_wds (7, 100, 0, 0, mX7_swap), w ∈ am_WS := am_pick [1087, 1089, 29, 114, 1090] rfl (by decide +kernel)
set_option maxRecDepth 20000 in
theorem am_l168 : ∀ w ∈ am_wds (30, 74, 0, 2, mX12_force), w ∈ am_WS := am_pick [1091, 1092, 1093, 102, 1094] rfl (by decide +kernel)
set_option maxRecDepth 20000 in
theorem am_l169 : ∀ w ∈ am_wds (12, 244, 0, 3, mX4_forces), w ∈ am_WS := am_pick [1095, 1096, 1097, 115, 1098] rfl (by decide +kernel)
set_option maxRecDepth 20000 in
theorem am_l170 : ∀ w ∈ am_wds (4, 41, 0, 3, mX4_start), w ∈ am_WS := am_pick [1099, 1101, 30, 115, 1102] rfl (by decide +kernel)
set_option maxRecDepth 20000 in
theorem am_l171 : ∀ w ∈ am_wds (4, 81, 1, 2, mJ7_fill_53178), w ∈ am_WS := am_pick [1103, 872, 123, 873] rfl (by decide +kernel)
set_option maxRecDepth 20000 in
theorem am_l172 : ∀ w ∈ am_wds (4, 87, 7, 0, mX8_xOf), w ∈ am_WS := am_pick [1104, 697, 119, 698] rfl (by decide +kernel)
set_option maxRecDepth 20000 in
theorem am_l173 : ∀ w ∈ am_wds (4, 53, 0, 2, mX4_tryAll), w ∈ am_WS := am_pick [1105, 1107, 31, 115, 1108] rfl (by decide +kernel)
set_option maxRecDepth 20000 in
theorem am_l174 : ∀ w ∈ am_wds (4, 68, 0, 4, mX0_allows), w ∈ am_WS := am_pick [1109, 946, 947, 111, 948] rfl (by decide +kernel)
set_option maxRecDepth 20000 in
theorem am_l175 : ∀ w ∈ am_wds (4, 74, 0, 2, mX10_moved), w ∈ am_WS := am_pick [1110, 951, 952, 103, 953] rfl (by decide +kernel)
theorem am_LKc10 : ∀ e ∈ [(7, 57, 0, 1, mX10_tanglesIn), (7, 81, 0, 2, mX7_oneMore), (7, 87, 0, 4, mX0_allows), (7, 93, 0, 2, mX10_moved), (7, 96, 0, 3, mX7_reaches), (7, 103, 0, 1, mX7_isNext), (7, 107, 0, 2, mX0_verdictOn), (7, 100, 0, 0, mX7_swap), (30, 74, 0, 2, mX12_force), (12, 244, 0, 3, mX4_forces), (4, 41, 0, 3, mX4_start), (4, 81, 1, 2, mJ7_fill_53178), (4, 87, 7, 0, mX8_xOf), (4, 53, 0, 2, mX4_tryAll), (4, 68, 0, 4, mX0_allows), (4, 74, 0, 2, mX10_moved)], ∀ w ∈ am_wds e, w ∈ am_WS := List.forall_mem_cons.mpr ⟨am_l160, List.forall_mem_cons.mpr ⟨am_l161, List.forall_mem_cons.mpr ⟨am_l162, List.forall_mem_cons.mpr ⟨am_l163, List.forall_mem_cons.mpr ⟨am_l164, List.forall_mem_cons.mpr ⟨am_l165, List.forall_mem_cons.mpr ⟨am_l166, List.forall_mem_cons.mpr ⟨am_l167, List.forall_mem_cons.mpr ⟨am_l168, List.forall_mem_cons.mpr ⟨am_l169, List.forall_mem_cons.mpr ⟨am_l170, List.forall_mem_cons.mpr ⟨am_l171, List.forall_mem_cons.mpr ⟨am_l172, List.forall_mem_cons.mpr ⟨am_l173, List.forall_mem_cons.mpr ⟨am_l174, List.forall_mem_cons.mpr ⟨am_l175, fun _ h => absurd h List.not_mem_nil⟩⟩⟩⟩⟩⟩⟩⟩⟩⟩⟩⟩⟩⟩⟩⟩
set_option maxRecDepth 20000 in
theorem am_l176 : ∀ w ∈ am_wds (4, 78, 0, 2, mX4_isWon), w ∈ am_WS := am_pick [1111, 1113, 32, 115, 1114] rfl (by decide +kernel)
set_option maxRecDepth 20000 in
theorem am_l177 : ∀ w ∈ am_wds (4, 92, 0, 2, mX0_verdictOn), w ∈ am_WS := am_pick [1115, 1022, 1023, 111, 1024] rfl (by decide +kernel)
set_option maxRecDepth 20000 in
theorem am_l178 : ∀ w ∈ am_wds (4, 95, 0, 2, mX4_recalled), w ∈ am_WS := am_pick [1116, 1118, 33, 115, 1119] rfl (by decide +kernel)
set_option maxRecDepth 20000 in
theorem am_l179 : ∀ w ∈ am_wds (4, 98, 0, 3, mX4_note), w ∈ am_WS := am_pick [1120, 1122, 34, 115, 1123] rfl (by decide +kernel)
set_option maxRecDepth 20000 in
theorem am_l180 : ∀ w ∈ am_wds (30, 78, 0, 0, mX12_straight), w ∈ am_WS := am_pick [1124, 1125, 1126, 102, 1127] rfl (by decide +kernel)
set_option maxRecDepth 20000 in
theorem am_l181 : ∀ w ∈ am_wds (30, 82, 0, 2, mX12_reach), w ∈ am_WS := am_pick [1128, 1129, 1130, 102, 1131] rfl (by decide +kernel)
set_option maxRecDepth 20000 in
theorem am_l182 : ∀ w ∈ am_wds (30, 86, 0, 1, mX12_strong), w ∈ am_WS := am_pick [1132, 1133, 1134, 102, 1135] rfl (by decide +kernel)
set_option maxRecDepth 20000 in
theorem am_l183 : ∀ w ∈ am_wds (12, 248, 0, 2, mX4_strongString), w ∈ am_WS := am_pick [1136, 1137, 1138, 115, 1139] rfl (by decide +kernel)
set_option maxRecDepth 20000 in
theorem am_l184 : ∀ w ∈ am_wds (30, 90, 0, 1, mX12_free), w ∈ am_WS := am_pick [1140, 1141, 1142, 102, 1143] rfl (by decide +kernel)
set_option maxRecDepth 20000 in
theorem am_l185 : ∀ w ∈ am_wds (30, 94, 0, 0, mX12_worn), w ∈ am_WS := am_pick [1144, 1145, 1146, 102, 1147] rfl (by decide +kernel)
set_option maxRecDepth 20000 in
theorem am_l186 : ∀ w ∈ am_wds (30, 98, 0, 0, mX12_verdicts), w ∈ am_WS := am_pick [1148, 1149, 1150, 102, 1151] rfl (by decide +kernel)
set_option maxRecDepth 20000 in
theorem am_l187 : ∀ w ∈ am_wds (12, 255, 0, 1, mX5_poll), w ∈ am_WS := am_pick [1152, 1153, 1154, 116, 1155] rfl (by decide +kernel)
set_option maxRecDepth 20000 in
theorem am_l188 : ∀ w ∈ am_wds (5, 27, 1, 2, mJ7_fill_53178), w ∈ am_WS := am_pick [1156, 872, 123, 873] rfl (by decide +kernel)
set_option maxRecDepth 20000 in
theorem am_l189 : ∀ w ∈ am_wds (5, 46, 0, 3, mX0_votesOf), w ∈ am_WS := am_pick [1157, 1158, 1159, 111, 1160] rfl (by decide +kernel)
set_option maxRecDepth 20000 in
theorem am_l190 : ∀ w ∈ am_wds (0, 67, 0, 1, mX10_hasChild), w ∈ am_WS := am_pick [1161, 1162, 1163, 103, 1164] rfl (by decide +kernel)
set_option maxRecDepth 20000 in
theorem am_l191 : ∀ w ∈ am_wds (0, 73, 7, 0, mX8_xOf), w ∈ am_WS := am_pick [1165, 697, 119, 698] rfl (by decide +kernel)
theorem am_LKc11 : ∀ e ∈ [(4, 78, 0, 2, mX4_isWon), (4, 92, 0, 2, mX0_verdictOn), (4, 95, 0, 2, mX4_recalled), (4, 98, 0, 3, mX4_note), (30, 78, 0, 0, mX12_straight), (30, 82, 0, 2, mX12_reach), (30, 86, 0, 1, mX12_strong), (12, 248, 0, 2, mX4_strongString), (30, 90, 0, 1, mX12_free), (30, 94, 0, 0, mX12_worn), (30, 98, 0, 0, mX12_verdicts), (12, 255, 0, 1, mX5_poll), (5, 27, 1, 2, mJ7_fill_53178), (5, 46, 0, 3, mX0_votesOf), (0, 67, 0, 1, mX10_hasChild), (0, 73, 7, 0, mX8_xOf)], ∀ w ∈ am_wds e, w ∈ am_WS := List.forall_mem_cons.mpr ⟨am_l176, List.forall_mem_cons.mpr ⟨am_l177, List.forall_mem_cons.mpr ⟨am_l178, List.forall_mem_cons.mpr ⟨am_l179, List.forall_mem_cons.mpr ⟨am_l180, List.forall_mem_cons.mpr ⟨am_l181, List.forall_mem_cons.mpr ⟨am_l182, List.forall_mem_cons.mpr ⟨am_l183, List.forall_mem_cons.mpr ⟨am_l184, List.forall_mem_cons.mpr ⟨am_l185, List.forall_mem_cons.mpr ⟨am_l186, List.forall_mem_cons.mpr ⟨am_l187, List.forall_mem_cons.mpr ⟨am_l188, List.forall_mem_cons.mpr ⟨am_l189, List.forall_mem_cons.mpr ⟨am_l190, List.forall_mem_cons.mpr ⟨am_l191, fun _ h => absurd h List.not_mem_nil⟩⟩⟩⟩⟩⟩⟩⟩⟩⟩⟩⟩⟩⟩⟩⟩
set_option maxRecDepth 20000 in
theorem am_l192 : ∀ w ∈ am_wds (0, 78, 6, 0, mX8_xOf), w ∈ am_WS := am_pick [1166, 732, 119, 733] rfl (by decide +kernel)
set_option maxRecDepth 20000 in
theorem am_l193 : ∀ w ∈ am_wds (12, 258, 0, 0, mX5_likeliest), w ∈ am_WS := am_pick [1167, 1168, 1169, 116, 1170] rfl (by decide +kernel)
set_option maxRecDepth 20000 in
theorem am_l194 : ∀ w ∈ am_wds (30, 102, 0, 1, mX12_half), w ∈ am_WS := am_pick [1171, 1172, 1173, 102, 1174] rfl (by decide +kernel)
set_option maxRecDepth 20000 in
theorem am_l195 : ∀ w ∈ am_wds (12, 262, 0, 0, mX5_waysOfMost), w ∈ am_WS := am_pick [1175, 1176, 1177, 116, 1178] rfl (by decide +kernel)
set_option maxRecDepth 20000 in
theorem am_l196 : ∀ w ∈ am_wds (5, 52, 0, 1, mX5_waysOf), w ∈ am_WS := am_pick [1179, 1180, 1181, 116, 1182] rfl (by decide +kernel)
set_option maxRecDepth 20000 in
theorem am_l197 : ∀ w ∈ am_wds (12, 265, 0, 2, mX5_share), w ∈ am_WS := am_pick [1183, 1184, 1185, 116, 1186] rfl (by decide +kernel)
set_option maxRecDepth 20000 in
theorem am_l198 : ∀ w ∈ am_wds (5, 56, 1, 2, mX5_greatestDivisor), w ∈ am_WS := am_pick [1187, 1188, 116, 1189] rfl (by decide +kernel)
set_option maxRecDepth 20000 in
theorem am_l199 : ∀ w ∈ am_wds (30, 107, 0, 2, mX12_jury), w ∈ am_WS := am_pick [1190, 1191, 1192, 102, 1193] rfl (by decide +kernel)
set_option maxRecDepth 20000 in
theorem am_l200 : ∀ w ∈ am_wds (12, 272, 0, 1, mX5_waysOf), w ∈ am_WS := am_pick [1194, 1180, 1181, 116, 1182] rfl (by decide +kernel)
set_option maxRecDepth 20000 in
theorem am_l201 : ∀ w ∈ am_wds (30, 112, 0, 2, mX12_precedent), w ∈ am_WS := am_pick [1195, 1196, 1197, 102, 1198] rfl (by decide +kernel)
set_option maxRecDepth 20000 in
theorem am_l202 : ∀ w ∈ am_wds (12, 278, 0, 1, mX3_hasPrecedent), w ∈ am_WS := am_pick [1199, 1200, 1201, 112, 1202] rfl (by decide +kernel)
set_option maxRecDepth 20000 in
theorem am_l203 : ∀ w ∈ am_wds (30, 116, 0, 1, mX12_nearest), w ∈ am_WS := am_pick [1203, 1204, 1205, 102, 1206] rfl (by decide +kernel)
set_option maxRecDepth 20000 in
theorem am_l204 : ∀ w ∈ am_wds (12, 290, 0, 2, mX3_nearestTo), w ∈ am_WS := am_pick [1207, 1208, 1209, 112, 1210] rfl (by decide +kernel)
set_option maxRecDepth 20000 in
theorem am_l205 : ∀ w ∈ am_wds (3, 84, 0, 3, mX3_distance), w ∈ am_WS := am_pick [1211, 1212, 1213, 112, 1214] rfl (by decide +kernel)
set_option maxRecDepth 20000 in
theorem am_l206 : ∀ w ∈ am_wds (3, 74, 0, 1, mX3_hasPrecedent), w ∈ am_WS := am_pick [1215, 1200, 1201, 112, 1202] rfl (by decide +kernel)
set_option maxRecDepth 20000 in
theorem am_l207 : ∀ w ∈ am_wds (3, 78, 8, 0, mX8_xOf), w ∈ am_WS := am_pick [1216, 1217, 119, 1218] rfl (by decide +kernel)
theorem am_LKc12 : ∀ e ∈ [(0, 78, 6, 0, mX8_xOf), (12, 258, 0, 0, mX5_likeliest), (30, 102, 0, 1, mX12_half), (12, 262, 0, 0, mX5_waysOfMost), (5, 52, 0, 1, mX5_waysOf), (12, 265, 0, 2, mX5_share), (5, 56, 1, 2, mX5_greatestDivisor), (30, 107, 0, 2, mX12_jury), (12, 272, 0, 1, mX5_waysOf), (30, 112, 0, 2, mX12_precedent), (12, 278, 0, 1, mX3_hasPrecedent), (30, 116, 0, 1, mX12_nearest), (12, 290, 0, 2, mX3_nearestTo), (3, 84, 0, 3, mX3_distance), (3, 74, 0, 1, mX3_hasPrecedent), (3, 78, 8, 0, mX8_xOf)], ∀ w ∈ am_wds e, w ∈ am_WS := List.forall_mem_cons.mpr ⟨am_l192, List.forall_mem_cons.mpr ⟨am_l193, List.forall_mem_cons.mpr ⟨am_l194, List.forall_mem_cons.mpr ⟨am_l195, List.forall_mem_cons.mpr ⟨am_l196, List.forall_mem_cons.mpr ⟨am_l197, List.forall_mem_cons.mpr ⟨am_l198, List.forall_mem_cons.mpr ⟨am_l199, List.forall_mem_cons.mpr ⟨am_l200, List.forall_mem_cons.mpr ⟨am_l201, List.forall_mem_cons.mpr ⟨am_l202, List.forall_mem_cons.mpr ⟨am_l203, List.forall_mem_cons.mpr ⟨am_l204, List.forall_mem_cons.mpr ⟨am_l205, List.forall_mem_cons.mpr ⟨am_l206, List.forall_mem_cons.mpr ⟨am_l207, fun _ h => absurd h List.not_mem_nil⟩⟩⟩⟩⟩⟩⟩⟩⟩⟩⟩⟩⟩⟩⟩⟩
set_option maxRecDepth 20000 in
theorem am_l208 : ∀ w ∈ am_wds (12, 293, 0, 3, mX3_distance), w ∈ am_WS := am_pick [1219, 1212, 1213, 112, 1214] rfl (by decide +kernel)
set_option maxRecDepth 20000 in
theorem am_l209 : ∀ w ∈ am_wds (30, 120, 0, 0, mX12_clashes), w ∈ am_WS := am_pick [1220, 1221, 1222, 102, 1223] rfl (by decide +kernel)
set_option maxRecDepth 20000 in
theorem am_l210 : ∀ w ∈ am_wds (12, 297, 0, 0, mX3_clashing), w ∈ am_WS := am_pick [1224, 1225, 1226, 112, 1227] rfl (by decide +kernel)
set_option maxRecDepth 20000 in
theorem am_l211 : ∀ w ∈ am_wds (30, 124, 0, 1, mX12_paint), w ∈ am_WS := am_pick [1228, 1229, 1230, 102, 1231] rfl (by decide +kernel)
set_option maxRecDepth 20000 in
theorem am_l212 : ∀ w ∈ am_wds (12, 303, 0, 1, mX10_bestPainted), w ∈ am_WS := am_pick [1232, 1233, 1234, 103, 1235] rfl (by decide +kernel)
set_option maxRecDepth 20000 in
theorem am_l213 : ∀ w ∈ am_wds (10, 98, 0, 2, mX10_paintGap), w ∈ am_WS := am_pick [1237, 1239, 35, 103, 1240] rfl (by decide +kernel)
set_option maxRecDepth 20000 in
theorem am_l214 : ∀ w ∈ am_wds (10, 101, 0, 1, mX10_hasPuppet), w ∈ am_WS := am_pick [1241, 891, 892, 103, 893] rfl (by decide +kernel)
set_option maxRecDepth 20000 in
theorem am_l215 : ∀ w ∈ am_wds (10, 104, 8, 0, mX8_xOf), w ∈ am_WS := am_pick [1242, 1217, 119, 1218] rfl (by decide +kernel)
set_option maxRecDepth 20000 in
theorem am_l216 : ∀ w ∈ am_wds (30, 128, 0, 3, mX12_storms), w ∈ am_WS := am_pick [1243, 1244, 1245, 102, 1246] rfl (by decide +kernel)
set_option maxRecDepth 20000 in
theorem am_l217 : ∀ w ∈ am_wds (12, 306, 0, 2, mX12_verdictBySeed), w ∈ am_WS := am_pick [1247, 1249, 36, 102, 1250] rfl (by decide +kernel)
set_option maxRecDepth 20000 in
theorem am_l218 : ∀ w ∈ am_wds (30, 133, 0, 3, mX12_tell), w ∈ am_WS := am_pick [1251, 1252, 1253, 102, 1254] rfl (by decide +kernel)
set_option maxRecDepth 20000 in
theorem am_l219 : ∀ w ∈ am_wds (12, 309, 0, 3, mX2_add), w ∈ am_WS := am_pick [1255, 1256, 1257, 117, 1258] rfl (by decide +kernel)
set_option maxRecDepth 20000 in
theorem am_l220 : ∀ w ∈ am_wds (30, 137, 0, 0, mX12_forget), w ∈ am_WS := am_pick [1259, 1260, 1261, 102, 1262] rfl (by decide +kernel)
set_option maxRecDepth 20000 in
theorem am_l221 : ∀ w ∈ am_wds (30, 141, 0, 2, mX12_cloth), w ∈ am_WS := am_pick [1263, 1264, 1265, 102, 1266] rfl (by decide +kernel)
set_option maxRecDepth 20000 in
theorem am_l222 : ∀ w ∈ am_wds (12, 312, 0, 2, mX2_asks), w ∈ am_WS := am_pick [1267, 1268, 1269, 117, 1270] rfl (by decide +kernel)
set_option maxRecDepth 20000 in
theorem am_l223 : ∀ w ∈ am_wds (12, 315, 0, 3, mX2_walk), w ∈ am_WS := am_pick [1271, 1272, 1273, 117, 1274] rfl (by decide +kernel)
theorem am_LKc13 : ∀ e ∈ [(12, 293, 0, 3, mX3_distance), (30, 120, 0, 0, mX12_clashes), (12, 297, 0, 0, mX3_clashing), (30, 124, 0, 1, mX12_paint), (12, 303, 0, 1, mX10_bestPainted), (10, 98, 0, 2, mX10_paintGap), (10, 101, 0, 1, mX10_hasPuppet), (10, 104, 8, 0, mX8_xOf), (30, 128, 0, 3, mX12_storms), (12, 306, 0, 2, mX12_verdictBySeed), (30, 133, 0, 3, mX12_tell), (12, 309, 0, 3, mX2_add), (30, 137, 0, 0, mX12_forget), (30, 141, 0, 2, mX12_cloth), (12, 312, 0, 2, mX2_asks), (12, 315, 0, 3, mX2_walk)], ∀ w ∈ am_wds e, w ∈ am_WS := List.forall_mem_cons.mpr ⟨am_l208, List.forall_mem_cons.mpr ⟨am_l209, List.forall_mem_cons.mpr ⟨am_l210, List.forall_mem_cons.mpr ⟨am_l211, List.forall_mem_cons.mpr ⟨am_l212, List.forall_mem_cons.mpr ⟨am_l213, List.forall_mem_cons.mpr ⟨am_l214, List.forall_mem_cons.mpr ⟨am_l215, List.forall_mem_cons.mpr ⟨am_l216, List.forall_mem_cons.mpr ⟨am_l217, List.forall_mem_cons.mpr ⟨am_l218, List.forall_mem_cons.mpr ⟨am_l219, List.forall_mem_cons.mpr ⟨am_l220, List.forall_mem_cons.mpr ⟨am_l221, List.forall_mem_cons.mpr ⟨am_l222, List.forall_mem_cons.mpr ⟨am_l223, fun _ h => absurd h List.not_mem_nil⟩⟩⟩⟩⟩⟩⟩⟩⟩⟩⟩⟩⟩⟩⟩⟩
set_option maxRecDepth 20000 in
theorem am_l224 : ∀ w ∈ am_wds (2, 49, 7, 0, mX8_xOf), w ∈ am_WS := am_pick [1275, 697, 119, 698] rfl (by decide +kernel)
set_option maxRecDepth 20000 in
theorem am_l225 : ∀ w ∈ am_wds (2, 55, 1, 2, mJ7_fill_53178), w ∈ am_WS := am_pick [1276, 872, 123, 873] rfl (by decide +kernel)
set_option maxRecDepth 20000 in
theorem am_l226 : ∀ w ∈ am_wds (2, 61, 0, 2, mX2_goOn), w ∈ am_WS := am_pick [1277, 1279, 37, 117, 1280] rfl (by decide +kernel)
set_option maxRecDepth 20000 in
theorem am_l227 : ∀ w ∈ am_wds (2, 65, 0, 1, mX2_countRow), w ∈ am_WS := am_pick [1281, 1283, 38, 117, 1284] rfl (by decide +kernel)
set_option maxRecDepth 20000 in
theorem am_l228 : ∀ w ∈ am_wds (2, 81, 1, 2, mX8_xOf), w ∈ am_WS := am_pick [1285, 895, 121, 896] rfl (by decide +kernel)
set_option maxRecDepth 20000 in
theorem am_l229 : ∀ w ∈ am_wds (2, 74, 0, 2, mX10_moved), w ∈ am_WS := am_pick [1286, 951, 952, 103, 953] rfl (by decide +kernel)
set_option maxRecDepth 20000 in
theorem am_l230 : ∀ w ∈ am_wds (2, 77, 0, 2, mX2_fits), w ∈ am_WS := am_pick [1287, 1289, 39, 117, 1290] rfl (by decide +kernel)
set_option maxRecDepth 20000 in
theorem am_l231 : ∀ w ∈ am_wds (30, 145, 0, 3, mX12_sure), w ∈ am_WS := am_pick [1291, 1292, 1293, 102, 1294] rfl (by decide +kernel)
set_option maxRecDepth 20000 in
theorem am_l232 : ∀ w ∈ am_wds (30, 149, 0, 2, mX12_look), w ∈ am_WS := am_pick [1295, 1296, 1297, 102, 1298] rfl (by decide +kernel)
set_option maxRecDepth 20000 in
theorem am_l233 : ∀ w ∈ am_wds (12, 324, 0, 0, mX2_tellingPuppet), w ∈ am_WS := am_pick [1299, 1300, 1301, 117, 1302] rfl (by decide +kernel)
set_option maxRecDepth 20000 in
theorem am_l234 : ∀ w ∈ am_wds (2, 90, 6, 0, mX8_xOf), w ∈ am_WS := am_pick [1304, 732, 119, 733] rfl (by decide +kernel)
set_option maxRecDepth 20000 in
theorem am_l235 : ∀ w ∈ am_wds (30, 153, 0, 1, mX12_hold), w ∈ am_WS := am_pick [1305, 1306, 1307, 102, 1308] rfl (by decide +kernel)
set_option maxRecDepth 20000 in
theorem am_l236 : ∀ w ∈ am_wds (12, 327, 0, 2, mX6_putInSlot), w ∈ am_WS := am_pick [1309, 1310, 1311, 113, 1312] rfl (by decide +kernel)
set_option maxRecDepth 20000 in
theorem am_l237 : ∀ w ∈ am_wds (30, 158, 0, 1, mX12_restore), w ∈ am_WS := am_pick [1313, 1314, 1315, 102, 1316] rfl (by decide +kernel)
set_option maxRecDepth 20000 in
theorem am_l238 : ∀ w ∈ am_wds (12, 331, 0, 2, mX6_takeFromSlot), w ∈ am_WS := am_pick [1317, 1318, 1319, 113, 1320] rfl (by decide +kernel)
set_option maxRecDepth 20000 in
theorem am_l239 : ∀ w ∈ am_wds (30, 162, 0, 1, mX12_count), w ∈ am_WS := am_pick [1321, 1322, 1323, 102, 1324] rfl (by decide +kernel)
theorem am_LKc14 : ∀ e ∈ [(2, 49, 7, 0, mX8_xOf), (2, 55, 1, 2, mJ7_fill_53178), (2, 61, 0, 2, mX2_goOn), (2, 65, 0, 1, mX2_countRow), (2, 81, 1, 2, mX8_xOf), (2, 74, 0, 2, mX10_moved), (2, 77, 0, 2, mX2_fits), (30, 145, 0, 3, mX12_sure), (30, 149, 0, 2, mX12_look), (12, 324, 0, 0, mX2_tellingPuppet), (2, 90, 6, 0, mX8_xOf), (30, 153, 0, 1, mX12_hold), (12, 327, 0, 2, mX6_putInSlot), (30, 158, 0, 1, mX12_restore), (12, 331, 0, 2, mX6_takeFromSlot), (30, 162, 0, 1, mX12_count)], ∀ w ∈ am_wds e, w ∈ am_WS := List.forall_mem_cons.mpr ⟨am_l224, List.forall_mem_cons.mpr ⟨am_l225, List.forall_mem_cons.mpr ⟨am_l226, List.forall_mem_cons.mpr ⟨am_l227, List.forall_mem_cons.mpr ⟨am_l228, List.forall_mem_cons.mpr ⟨am_l229, List.forall_mem_cons.mpr ⟨am_l230, List.forall_mem_cons.mpr ⟨am_l231, List.forall_mem_cons.mpr ⟨am_l232, List.forall_mem_cons.mpr ⟨am_l233, List.forall_mem_cons.mpr ⟨am_l234, List.forall_mem_cons.mpr ⟨am_l235, List.forall_mem_cons.mpr ⟨am_l236, List.forall_mem_cons.mpr ⟨am_l237, List.forall_mem_cons.mpr ⟨am_l238, List.forall_mem_cons.mpr ⟨am_l239, fun _ h => absurd h List.not_mem_nil⟩⟩⟩⟩⟩⟩⟩⟩⟩⟩⟩⟩⟩⟩⟩⟩
set_option maxRecDepth 20000 in
theorem am_l240 : ∀ w ∈ am_wds (12, 337, 0, 0, mX6_slotsHeld), w ∈ am_WS := am_pick [1325, 1326, 1327, 113, 1328] rfl (by decide +kernel)
set_option maxRecDepth 20000 in
theorem am_l241 : ∀ w ∈ am_wds (6, 41, 1, 1, mJ6_bitCount_0f7a4), w ∈ am_WS := am_pick [1329, 932, 124, 933] rfl (by decide +kernel)
set_option maxRecDepth 20000 in
theorem am_l242 : ∀ w ∈ am_wds (12, 346, 0, 0, mX12_mayBits), w ∈ am_WS := am_pick [1330, 1332, 40, 102, 1333] rfl (by decide +kernel)
set_option maxRecDepth 20000 in
theorem am_l243 : ∀ w ∈ am_wds (30, 12, 2, 0, mX13_init), w ∈ am_WS := am_pick [1336, 1337, 118, 1338] rfl (by decide +kernel)
set_option maxRecDepth 20000 in
theorem am_l244 : ∀ w ∈ am_wds (13, 7, 4, 0, mX8_xOf), w ∈ am_WS := am_pick [1339, 131, 132] rfl (by decide +kernel)
set_option maxRecDepth 20000 in
theorem am_l245 : ∀ w ∈ am_wds (13, 158, 0, 1, mX13_plain), w ∈ am_WS := am_pick [1340, 1342, 41, 118, 1343] rfl (by decide +kernel)
set_option maxRecDepth 20000 in
theorem am_l246 : ∀ w ∈ am_wds (13, 162, 1, 7, mX13_word), w ∈ am_WS := am_pick [1344, 1345, 118, 1346] rfl (by decide +kernel)
set_option maxRecDepth 20000 in
theorem am_l247 : ∀ w ∈ am_wds (13, 183, 1, 2, mX13_appends), w ∈ am_WS := am_pick [1347, 1348, 118, 1349] rfl (by decide +kernel)
set_option maxRecDepth 20000 in
theorem am_l248 : ∀ w ∈ am_wds (13, 166, 0, 0, mX13_begins), w ∈ am_WS := am_pick [1351, 1353, 42, 118, 1354] rfl (by decide +kernel)
set_option maxRecDepth 20000 in
theorem am_l249 : ∀ w ∈ am_wds (13, 323, 0, 0, mX13_opens), w ∈ am_WS := am_pick [1355, 1357, 43, 118, 1358] rfl (by decide +kernel)
set_option maxRecDepth 20000 in
theorem am_l250 : ∀ w ∈ am_wds (13, 169, 0, 0, mX13_keepsRow), w ∈ am_WS := am_pick [1359, 1361, 44, 118, 1362] rfl (by decide +kernel)
set_option maxRecDepth 20000 in
theorem am_l251 : ∀ w ∈ am_wds (30, 17, 0, 5, mX13_feed), w ∈ am_WS := am_pick [1565, 1566, 1567, 118, 1568] rfl (by decide +kernel)
set_option maxRecDepth 20000 in
theorem am_l252 : ∀ w ∈ am_wds (13, 175, 0, 1, mX13_put), w ∈ am_WS := am_pick [1569, 1571, 45, 118, 1572] rfl (by decide +kernel)
set_option maxRecDepth 20000 in
theorem am_l253 : ∀ w ∈ am_wds (30, 22, 0, 1, mX13_back), w ∈ am_WS := am_pick [1573, 1574, 1575, 118, 1576] rfl (by decide +kernel)
set_option maxRecDepth 20000 in
theorem am_l254 : ∀ w ∈ am_wds (30, 27, 0, 0, mX13_read), w ∈ am_WS := am_pick [1577, 1578, 1579, 118, 1580] rfl (by decide +kernel)
set_option maxRecDepth 20000 in
theorem am_l255 : ∀ w ∈ am_wds (13, 233, 0, 0, mX13_cut), w ∈ am_WS := am_pick [1581, 1583, 46, 118, 1584] rfl (by decide +kernel)
theorem am_LKc15 : ∀ e ∈ [(12, 337, 0, 0, mX6_slotsHeld), (6, 41, 1, 1, mJ6_bitCount_0f7a4), (12, 346, 0, 0, mX12_mayBits), (30, 12, 2, 0, mX13_init), (13, 7, 4, 0, mX8_xOf), (13, 158, 0, 1, mX13_plain), (13, 162, 1, 7, mX13_word), (13, 183, 1, 2, mX13_appends), (13, 166, 0, 0, mX13_begins), (13, 323, 0, 0, mX13_opens), (13, 169, 0, 0, mX13_keepsRow), (30, 17, 0, 5, mX13_feed), (13, 175, 0, 1, mX13_put), (30, 22, 0, 1, mX13_back), (30, 27, 0, 0, mX13_read), (13, 233, 0, 0, mX13_cut)], ∀ w ∈ am_wds e, w ∈ am_WS := List.forall_mem_cons.mpr ⟨am_l240, List.forall_mem_cons.mpr ⟨am_l241, List.forall_mem_cons.mpr ⟨am_l242, List.forall_mem_cons.mpr ⟨am_l243, List.forall_mem_cons.mpr ⟨am_l244, List.forall_mem_cons.mpr ⟨am_l245, List.forall_mem_cons.mpr ⟨am_l246, List.forall_mem_cons.mpr ⟨am_l247, List.forall_mem_cons.mpr ⟨am_l248, List.forall_mem_cons.mpr ⟨am_l249, List.forall_mem_cons.mpr ⟨am_l250, List.forall_mem_cons.mpr ⟨am_l251, List.forall_mem_cons.mpr ⟨am_l252, List.forall_mem_cons.mpr ⟨am_l253, List.forall_mem_cons.mpr ⟨am_l254, List.forall_mem_cons.mpr ⟨am_l255, fun _ h => absurd h List.not_mem_nil⟩⟩⟩⟩⟩⟩⟩⟩⟩⟩⟩⟩⟩⟩⟩⟩
set_option maxRecDepth 20000 in
theorem am_l256 : ∀ w ∈ am_wds (13, 190, 0, 1, mX13_byteAt), w ∈ am_WS := am_pick [1585, 1587, 47, 118, 1588] rfl (by decide +kernel)
set_option maxRecDepth 20000 in
theorem am_l257 : ∀ w ∈ am_wds (13, 194, 0, 4, mX13_token), w ∈ am_WS := am_pick [1589, 1591, 48, 118, 1592] rfl (by decide +kernel)
set_option maxRecDepth 20000 in
theorem am_l258 : ∀ w ∈ am_wds (13, 198, 1, 1, mX13_isLetter), w ∈ am_WS := am_pick [1593, 1594, 118, 1595] rfl (by decide +kernel)
set_option maxRecDepth 20000 in
theorem am_l259 : ∀ w ∈ am_wds (13, 202, 1, 1, mX13_isDigit), w ∈ am_WS := am_pick [1596, 1597, 118, 1598] rfl (by decide +kernel)
set_option maxRecDepth 20000 in
theorem am_l260 : ∀ w ∈ am_wds (13, 205, 0, 3, mX13_sign), w ∈ am_WS := am_pick [1599, 1601, 49, 118, 1602] rfl (by decide +kernel)
set_option maxRecDepth 20000 in
theorem am_l261 : ∀ w ∈ am_wds (13, 227, 0, 1, mX13_is), w ∈ am_WS := am_pick [1603, 1605, 50, 118, 1606] rfl (by decide +kernel)
set_option maxRecDepth 20000 in
theorem am_l262 : ∀ w ∈ am_wds (13, 254, 0, 0, mX13_tellOne), w ∈ am_WS := am_pick [1607, 1609, 51, 118, 1610] rfl (by decide +kernel)
set_option maxRecDepth 20000 in
theorem am_l263 : ∀ w ∈ am_wds (13, 263, 0, 2, mX13_roomFor), w ∈ am_WS := am_pick [1611, 1613, 52, 118, 1614] rfl (by decide +kernel)
set_option maxRecDepth 20000 in
theorem am_l264 : ∀ w ∈ am_wds (13, 224, 0, 1, mX13_fail), w ∈ am_WS := am_pick [1615, 1617, 53, 118, 1618] rfl (by decide +kernel)
set_option maxRecDepth 20000 in
theorem am_l265 : ∀ w ∈ am_wds (13, 230, 0, 0, mX13_goesOn), w ∈ am_WS := am_pick [1619, 1621, 54, 118, 1622] rfl (by decide +kernel)
set_option maxRecDepth 20000 in
theorem am_l266 : ∀ w ∈ am_wds (13, 267, 0, 0, mX13_tellPuppet), w ∈ am_WS := am_pick [1623, 1625, 55, 118, 1626] rfl (by decide +kernel)
set_option maxRecDepth 20000 in
theorem am_l267 : ∀ w ∈ am_wds (13, 286, 0, 0, mX13_named), w ∈ am_WS := am_pick [1627, 1629, 56, 118, 1630] rfl (by decide +kernel)
set_option maxRecDepth 20000 in
theorem am_l268 : ∀ w ∈ am_wds (13, 277, 0, 1, mX13_must), w ∈ am_WS := am_pick [1631, 1633, 57, 118, 1634] rfl (by decide +kernel)
set_option maxRecDepth 20000 in
theorem am_l269 : ∀ w ∈ am_wds (13, 283, 0, 2, mX13_wrong), w ∈ am_WS := am_pick [1635, 1637, 58, 118, 1638] rfl (by decide +kernel)
set_option maxRecDepth 20000 in
theorem am_l270 : ∀ w ∈ am_wds (13, 273, 0, 2, mX13_bounded), w ∈ am_WS := am_pick [1639, 1641, 59, 118, 1642] rfl (by decide +kernel)
set_option maxRecDepth 20000 in
theorem am_l271 : ∀ w ∈ am_wds (13, 290, 0, 2, mX13_ends), w ∈ am_WS := am_pick [1643, 1645, 60, 118, 1646] rfl (by decide +kernel)
theorem am_LKc16 : ∀ e ∈ [(13, 190, 0, 1, mX13_byteAt), (13, 194, 0, 4, mX13_token), (13, 198, 1, 1, mX13_isLetter), (13, 202, 1, 1, mX13_isDigit), (13, 205, 0, 3, mX13_sign), (13, 227, 0, 1, mX13_is), (13, 254, 0, 0, mX13_tellOne), (13, 263, 0, 2, mX13_roomFor), (13, 224, 0, 1, mX13_fail), (13, 230, 0, 0, mX13_goesOn), (13, 267, 0, 0, mX13_tellPuppet), (13, 286, 0, 0, mX13_named), (13, 277, 0, 1, mX13_must), (13, 283, 0, 2, mX13_wrong), (13, 273, 0, 2, mX13_bounded), (13, 290, 0, 2, mX13_ends)], ∀ w ∈ am_wds e, w ∈ am_WS := List.forall_mem_cons.mpr ⟨am_l256, List.forall_mem_cons.mpr ⟨am_l257, List.forall_mem_cons.mpr ⟨am_l258, List.forall_mem_cons.mpr ⟨am_l259, List.forall_mem_cons.mpr ⟨am_l260, List.forall_mem_cons.mpr ⟨am_l261, List.forall_mem_cons.mpr ⟨am_l262, List.forall_mem_cons.mpr ⟨am_l263, List.forall_mem_cons.mpr ⟨am_l264, List.forall_mem_cons.mpr ⟨am_l265, List.forall_mem_cons.mpr ⟨am_l266, List.forall_mem_cons.mpr ⟨am_l267, List.forall_mem_cons.mpr ⟨am_l268, List.forall_mem_cons.mpr ⟨am_l269, List.forall_mem_cons.mpr ⟨am_l270, List.forall_mem_cons.mpr ⟨am_l271, fun _ h => absurd h List.not_mem_nil⟩⟩⟩⟩⟩⟩⟩⟩⟩⟩⟩⟩⟩⟩⟩⟩
set_option maxRecDepth 20000 in
theorem am_l272 : ∀ w ∈ am_wds (13, 270, 0, 0, mX13_tellString), w ∈ am_WS := am_pick [1647, 1649, 61, 118, 1650] rfl (by decide +kernel)
set_option maxRecDepth 20000 in
theorem am_l273 : ∀ w ∈ am_wds (13, 293, 0, 0, mX13_knownPuppet), w ∈ am_WS := am_pick [1651, 1653, 62, 118, 1654] rfl (by decide +kernel)
set_option maxRecDepth 20000 in
theorem am_l274 : ∀ w ∈ am_wds (13, 280, 0, 1, mX13_tellLaw), w ∈ am_WS := am_pick [1655, 1657, 63, 118, 1658] rfl (by decide +kernel)
set_option maxRecDepth 20000 in
theorem am_l275 : ∀ w ∈ am_wds (13, 296, 0, 0, mX13_expression), w ∈ am_WS := am_pick [1659, 1661, 64, 118, 1662] rfl (by decide +kernel)
set_option maxRecDepth 20000 in
theorem am_l276 : ∀ w ∈ am_wds (13, 308, 0, 0, mX13_unit), w ∈ am_WS := am_pick [1663, 1665, 65, 118, 1666] rfl (by decide +kernel)
set_option maxRecDepth 20000 in
theorem am_l277 : ∀ w ∈ am_wds (13, 305, 0, 2, mX13_emit), w ∈ am_WS := am_pick [1667, 1669, 66, 118, 1670] rfl (by decide +kernel)
set_option maxRecDepth 20000 in
theorem am_l278 : ∀ w ∈ am_wds (13, 311, 0, 1, mX13_comesOut), w ∈ am_WS := am_pick [1671, 1673, 67, 118, 1674] rfl (by decide +kernel)
set_option maxRecDepth 20000 in
theorem am_l279 : ∀ w ∈ am_wds (13, 299, 0, 0, mX13_term), w ∈ am_WS := am_pick [1675, 1677, 68, 118, 1678] rfl (by decide +kernel)
set_option maxRecDepth 20000 in
theorem am_l280 : ∀ w ∈ am_wds (30, 31, 0, 0, mX13_place), w ∈ am_WS := am_pick [1679, 1680, 1681, 118, 1682] rfl (by decide +kernel)
set_option maxRecDepth 20000 in
theorem am_l281 : ∀ w ∈ am_wds (30, 36, 0, 2, mX13_puppet), w ∈ am_WS := am_pick [1683, 1684, 1685, 118, 1686] rfl (by decide +kernel)
set_option maxRecDepth 20000 in
theorem am_l282 : ∀ w ∈ am_wds (13, 333, 0, 1, mX13_isPuppet), w ∈ am_WS := am_pick [1687, 1689, 69, 118, 1690] rfl (by decide +kernel)
set_option maxRecDepth 20000 in
theorem am_l283 : ∀ w ∈ am_wds (13, 319, 1, 3, mX13_in), w ∈ am_WS := am_pick [1691, 1692, 118, 1693] rfl (by decide +kernel)
set_option maxRecDepth 20000 in
theorem am_l284 : ∀ w ∈ am_wds (30, 40, 0, 2, mX13_string), w ∈ am_WS := am_pick [1694, 1695, 1696, 118, 1697] rfl (by decide +kernel)
set_option maxRecDepth 20000 in
theorem am_l285 : ∀ w ∈ am_wds (13, 379, 0, 1, mX13_isString), w ∈ am_WS := am_pick [1698, 1700, 70, 118, 1701] rfl (by decide +kernel)
set_option maxRecDepth 20000 in
theorem am_l286 : ∀ w ∈ am_wds (30, 44, 0, 1, mX13_court), w ∈ am_WS := am_pick [1702, 1703, 1704, 118, 1705] rfl (by decide +kernel)
set_option maxRecDepth 20000 in
theorem am_l287 : ∀ w ∈ am_wds (13, 382, 0, 0, mX13_copies), w ∈ am_WS := am_pick [1706, 1708, 71, 118, 1709] rfl (by decide +kernel)
theorem am_LKc17 : ∀ e ∈ [(13, 270, 0, 0, mX13_tellString), (13, 293, 0, 0, mX13_knownPuppet), (13, 280, 0, 1, mX13_tellLaw), (13, 296, 0, 0, mX13_expression), (13, 308, 0, 0, mX13_unit), (13, 305, 0, 2, mX13_emit), (13, 311, 0, 1, mX13_comesOut), (13, 299, 0, 0, mX13_term), (30, 31, 0, 0, mX13_place), (30, 36, 0, 2, mX13_puppet), (13, 333, 0, 1, mX13_isPuppet), (13, 319, 1, 3, mX13_in), (30, 40, 0, 2, mX13_string), (13, 379, 0, 1, mX13_isString), (30, 44, 0, 1, mX13_court), (13, 382, 0, 0, mX13_copies)], ∀ w ∈ am_wds e, w ∈ am_WS := List.forall_mem_cons.mpr ⟨am_l272, List.forall_mem_cons.mpr ⟨am_l273, List.forall_mem_cons.mpr ⟨am_l274, List.forall_mem_cons.mpr ⟨am_l275, List.forall_mem_cons.mpr ⟨am_l276, List.forall_mem_cons.mpr ⟨am_l277, List.forall_mem_cons.mpr ⟨am_l278, List.forall_mem_cons.mpr ⟨am_l279, List.forall_mem_cons.mpr ⟨am_l280, List.forall_mem_cons.mpr ⟨am_l281, List.forall_mem_cons.mpr ⟨am_l282, List.forall_mem_cons.mpr ⟨am_l283, List.forall_mem_cons.mpr ⟨am_l284, List.forall_mem_cons.mpr ⟨am_l285, List.forall_mem_cons.mpr ⟨am_l286, List.forall_mem_cons.mpr ⟨am_l287, fun _ h => absurd h List.not_mem_nil⟩⟩⟩⟩⟩⟩⟩⟩⟩⟩⟩⟩⟩⟩⟩⟩
set_option maxRecDepth 20000 in
theorem am_l288 : ∀ w ∈ am_wds (13, 336, 0, 0, mX13_apartNow), w ∈ am_WS := am_pick [1710, 1712, 72, 118, 1713] rfl (by decide +kernel)
set_option maxRecDepth 20000 in
theorem am_l289 : ∀ w ∈ am_wds (13, 339, 0, 0, mX13_tanglesNow), w ∈ am_WS := am_pick [1714, 1716, 73, 118, 1717] rfl (by decide +kernel)
set_option maxRecDepth 20000 in
theorem am_l290 : ∀ w ∈ am_wds (13, 342, 0, 0, mX13_nodsNow), w ∈ am_WS := am_pick [1718, 1720, 74, 118, 1721] rfl (by decide +kernel)
set_option maxRecDepth 20000 in
theorem am_l291 : ∀ w ∈ am_wds (30, 48, 0, 1, mX13_may), w ∈ am_WS := am_pick [1722, 1723, 1724, 118, 1725] rfl (by decide +kernel)
set_option maxRecDepth 20000 in
theorem am_l292 : ∀ w ∈ am_wds (13, 385, 0, 1, mX13_mayNow), w ∈ am_WS := am_pick [1726, 1728, 75, 118, 1729] rfl (by decide +kernel)
set_option maxRecDepth 20000 in
theorem am_l293 : ∀ w ∈ am_wds (13, 360, 0, 2, mX13_mayPull), w ∈ am_WS := am_pick [1730, 1732, 76, 118, 1733] rfl (by decide +kernel)
set_option maxRecDepth 20000 in
theorem am_l294 : ∀ w ∈ am_wds (13, 351, 0, 1, mX13_staysWithin), w ∈ am_WS := am_pick [1734, 1736, 77, 118, 1737] rfl (by decide +kernel)
set_option maxRecDepth 20000 in
theorem am_l295 : ∀ w ∈ am_wds (13, 348, 0, 1, mX13_goesTo), w ∈ am_WS := am_pick [1738, 1740, 78, 118, 1741] rfl (by decide +kernel)
set_option maxRecDepth 20000 in
theorem am_l296 : ∀ w ∈ am_wds (13, 354, 0, 0, mX13_looks), w ∈ am_WS := am_pick [1742, 1744, 79, 118, 1745] rfl (by decide +kernel)
set_option maxRecDepth 20000 in
theorem am_l297 : ∀ w ∈ am_wds (13, 357, 0, 2, mX13_asks), w ∈ am_WS := am_pick [1746, 1748, 80, 118, 1749] rfl (by decide +kernel)
set_option maxRecDepth 20000 in
theorem am_l298 : ∀ w ∈ am_wds (13, 345, 0, 2, mX13_termOf), w ∈ am_WS := am_pick [1750, 1752, 81, 118, 1753] rfl (by decide +kernel)
set_option maxRecDepth 20000 in
theorem am_l299 : ∀ w ∈ am_wds (30, 52, 0, 1, mX13_pull), w ∈ am_WS := am_pick [1754, 1755, 1756, 118, 1757] rfl (by decide +kernel)
set_option maxRecDepth 20000 in
theorem am_l300 : ∀ w ∈ am_wds (13, 388, 0, 1, mX13_pulls), w ∈ am_WS := am_pick [1758, 1760, 82, 118, 1761] rfl (by decide +kernel)
set_option maxRecDepth 20000 in
theorem am_l301 : ∀ w ∈ am_wds (13, 373, 0, 2, mX13_lotOf), w ∈ am_WS := am_pick [1762, 1764, 83, 118, 1765] rfl (by decide +kernel)
set_option maxRecDepth 20000 in
theorem am_l302 : ∀ w ∈ am_wds (13, 330, 1, 2, mX13_mixed), w ∈ am_WS := am_pick [1766, 1767, 118, 1768] rfl (by decide +kernel)
set_option maxRecDepth 20000 in
theorem am_l303 : ∀ w ∈ am_wds (13, 367, 0, 1, mX13_moves), w ∈ am_WS := am_pick [1770, 1772, 84, 118, 1773] rfl (by decide +kernel)
theorem am_LKc18 : ∀ e ∈ [(13, 336, 0, 0, mX13_apartNow), (13, 339, 0, 0, mX13_tanglesNow), (13, 342, 0, 0, mX13_nodsNow), (30, 48, 0, 1, mX13_may), (13, 385, 0, 1, mX13_mayNow), (13, 360, 0, 2, mX13_mayPull), (13, 351, 0, 1, mX13_staysWithin), (13, 348, 0, 1, mX13_goesTo), (13, 354, 0, 0, mX13_looks), (13, 357, 0, 2, mX13_asks), (13, 345, 0, 2, mX13_termOf), (30, 52, 0, 1, mX13_pull), (13, 388, 0, 1, mX13_pulls), (13, 373, 0, 2, mX13_lotOf), (13, 330, 1, 2, mX13_mixed), (13, 367, 0, 1, mX13_moves)], ∀ w ∈ am_wds e, w ∈ am_WS := List.forall_mem_cons.mpr ⟨am_l288, List.forall_mem_cons.mpr ⟨am_l289, List.forall_mem_cons.mpr ⟨am_l290, List.forall_mem_cons.mpr ⟨am_l291, List.forall_mem_cons.mpr ⟨am_l292, List.forall_mem_cons.mpr ⟨am_l293, List.forall_mem_cons.mpr ⟨am_l294, List.forall_mem_cons.mpr ⟨am_l295, List.forall_mem_cons.mpr ⟨am_l296, List.forall_mem_cons.mpr ⟨am_l297, List.forall_mem_cons.mpr ⟨am_l298, List.forall_mem_cons.mpr ⟨am_l299, List.forall_mem_cons.mpr ⟨am_l300, List.forall_mem_cons.mpr ⟨am_l301, List.forall_mem_cons.mpr ⟨am_l302, List.forall_mem_cons.mpr ⟨am_l303, fun _ h => absurd h List.not_mem_nil⟩⟩⟩⟩⟩⟩⟩⟩⟩⟩⟩⟩⟩⟩⟩⟩
set_option maxRecDepth 20000 in
theorem am_l304 : ∀ w ∈ am_wds (13, 370, 0, 0, mX13_turnEnds), w ∈ am_WS := am_pick [1774, 1776, 85, 118, 1777] rfl (by decide +kernel)
set_option maxRecDepth 20000 in
theorem am_l305 : ∀ w ∈ am_wds (13, 364, 0, 0, mX13_verdictNow), w ∈ am_WS := am_pick [1778, 1780, 86, 118, 1781] rfl (by decide +kernel)
set_option maxRecDepth 20000 in
theorem am_l306 : ∀ w ∈ am_wds (13, 376, 0, 0, mX13_keepsCase), w ∈ am_WS := am_pick [1782, 1784, 87, 118, 1785] rfl (by decide +kernel)
set_option maxRecDepth 20000 in
theorem am_l307 : ∀ w ∈ am_wds (13, 391, 0, 0, mX13_keeps), w ∈ am_WS := am_pick [1786, 1788, 88, 118, 1789] rfl (by decide +kernel)
set_option maxRecDepth 20000 in
theorem am_l308 : ∀ w ∈ am_wds (30, 56, 0, 0, mX13_pass), w ∈ am_WS := am_pick [1790, 1791, 1792, 118, 1793] rfl (by decide +kernel)
set_option maxRecDepth 20000 in
theorem am_l309 : ∀ w ∈ am_wds (30, 60, 0, 0, mX13_open), w ∈ am_WS := am_pick [1794, 1795, 1796, 118, 1797] rfl (by decide +kernel)
set_option maxRecDepth 20000 in
theorem am_l310 : ∀ w ∈ am_wds (30, 65, 0, 0, mX13_undo), w ∈ am_WS := am_pick [1798, 1799, 1800, 118, 1801] rfl (by decide +kernel)
set_option maxRecDepth 20000 in
theorem am_l311 : ∀ w ∈ am_wds (30, 69, 0, 2, mX13_after), w ∈ am_WS := am_pick [1802, 1803, 1804, 118, 1805] rfl (by decide +kernel)
set_option maxRecDepth 20000 in
theorem am_l312 : ∀ w ∈ am_wds (13, 394, 0, 1, mX13_plays), w ∈ am_WS := am_pick [1806, 1808, 89, 118, 1809] rfl (by decide +kernel)
set_option maxRecDepth 20000 in
theorem am_l313 : ∀ w ∈ am_wds (30, 73, 0, 2, mX13_shortest), w ∈ am_WS := am_pick [1810, 1811, 1812, 118, 1813] rfl (by decide +kernel)
set_option maxRecDepth 20000 in
theorem am_l314 : ∀ w ∈ am_wds (13, 397, 1, 1, mX13_sevens), w ∈ am_WS := am_pick [1814, 1815, 118, 1816] rfl (by decide +kernel)
set_option maxRecDepth 20000 in
theorem am_l315 : ∀ w ∈ am_wds (13, 400, 0, 2, mX13_isPlayed), w ∈ am_WS := am_pick [1817, 1819, 90, 118, 1820] rfl (by decide +kernel)
set_option maxRecDepth 20000 in
theorem am_l316 : ∀ w ∈ am_wds (30, 77, 0, 2, mX13_force), w ∈ am_WS := am_pick [1821, 1822, 1823, 118, 1824] rfl (by decide +kernel)
set_option maxRecDepth 20000 in
theorem am_l317 : ∀ w ∈ am_wds (13, 406, 0, 2, mX13_forces), w ∈ am_WS := am_pick [1825, 1827, 91, 118, 1828] rfl (by decide +kernel)
set_option maxRecDepth 20000 in
theorem am_l318 : ∀ w ∈ am_wds (13, 403, 0, 1, mX13_piles), w ∈ am_WS := am_pick [1829, 1831, 92, 118, 1832] rfl (by decide +kernel)
set_option maxRecDepth 20000 in
theorem am_l319 : ∀ w ∈ am_wds (30, 89, 0, 1, mX13_strong), w ∈ am_WS := am_pick [1833, 1834, 1835, 118, 1836] rfl (by decide +kernel)
theorem am_LKc19 : ∀ e ∈ [(13, 370, 0, 0, mX13_turnEnds), (13, 364, 0, 0, mX13_verdictNow), (13, 376, 0, 0, mX13_keepsCase), (13, 391, 0, 0, mX13_keeps), (30, 56, 0, 0, mX13_pass), (30, 60, 0, 0, mX13_open), (30, 65, 0, 0, mX13_undo), (30, 69, 0, 2, mX13_after), (13, 394, 0, 1, mX13_plays), (30, 73, 0, 2, mX13_shortest), (13, 397, 1, 1, mX13_sevens), (13, 400, 0, 2, mX13_isPlayed), (30, 77, 0, 2, mX13_force), (13, 406, 0, 2, mX13_forces), (13, 403, 0, 1, mX13_piles), (30, 89, 0, 1, mX13_strong)], ∀ w ∈ am_wds e, w ∈ am_WS := List.forall_mem_cons.mpr ⟨am_l304, List.forall_mem_cons.mpr ⟨am_l305, List.forall_mem_cons.mpr ⟨am_l306, List.forall_mem_cons.mpr ⟨am_l307, List.forall_mem_cons.mpr ⟨am_l308, List.forall_mem_cons.mpr ⟨am_l309, List.forall_mem_cons.mpr ⟨am_l310, List.forall_mem_cons.mpr ⟨am_l311, List.forall_mem_cons.mpr ⟨am_l312, List.forall_mem_cons.mpr ⟨am_l313, List.forall_mem_cons.mpr ⟨am_l314, List.forall_mem_cons.mpr ⟨am_l315, List.forall_mem_cons.mpr ⟨am_l316, List.forall_mem_cons.mpr ⟨am_l317, List.forall_mem_cons.mpr ⟨am_l318, List.forall_mem_cons.mpr ⟨am_l319, fun _ h => absurd h List.not_mem_nil⟩⟩⟩⟩⟩⟩⟩⟩⟩⟩⟩⟩⟩⟩⟩⟩
set_option maxRecDepth 20000 in
theorem am_l320 : ∀ w ∈ am_wds (30, 81, 0, 0, mX13_straight), w ∈ am_WS := am_pick [1837, 1838, 1839, 118, 1840] rfl (by decide +kernel)
set_option maxRecDepth 20000 in
theorem am_l321 : ∀ w ∈ am_wds (13, 413, 0, 2, mX13_fewest), w ∈ am_WS := am_pick [1841, 1843, 93, 118, 1844] rfl (by decide +kernel)
set_option maxRecDepth 20000 in
theorem am_l322 : ∀ w ∈ am_wds (13, 409, 0, 4, mX13_leadsTo), w ∈ am_WS := am_pick [1845, 1847, 94, 118, 1848] rfl (by decide +kernel)
set_option maxRecDepth 20000 in
theorem am_l323 : ∀ w ∈ am_wds (30, 85, 0, 2, mX13_reach), w ∈ am_WS := am_pick [1849, 1850, 1851, 118, 1852] rfl (by decide +kernel)
set_option maxRecDepth 20000 in
theorem am_l324 : ∀ w ∈ am_wds (30, 93, 0, 1, mX13_free), w ∈ am_WS := am_pick [1853, 1854, 1855, 118, 1856] rfl (by decide +kernel)
set_option maxRecDepth 20000 in
theorem am_l325 : ∀ w ∈ am_wds (30, 97, 0, 0, mX13_worn), w ∈ am_WS := am_pick [1857, 1858, 1859, 118, 1860] rfl (by decide +kernel)
set_option maxRecDepth 20000 in
theorem am_l326 : ∀ w ∈ am_wds (30, 111, 0, 2, mX13_jury), w ∈ am_WS := am_pick [1861, 1862, 1863, 118, 1864] rfl (by decide +kernel)
set_option maxRecDepth 20000 in
theorem am_l327 : ∀ w ∈ am_wds (13, 419, 0, 0, mX13_fillsVotes), w ∈ am_WS := am_pick [1865, 1867, 95, 118, 1868] rfl (by decide +kernel)
set_option maxRecDepth 20000 in
theorem am_l328 : ∀ w ∈ am_wds (13, 422, 0, 2, mX13_lineOf), w ∈ am_WS := am_pick [1869, 1871, 96, 118, 1872] rfl (by decide +kernel)
set_option maxRecDepth 20000 in
theorem am_l329 : ∀ w ∈ am_wds (13, 416, 1, 2, mX13_common), w ∈ am_WS := am_pick [1873, 1874, 118, 1875] rfl (by decide +kernel)
set_option maxRecDepth 20000 in
theorem am_l330 : ∀ w ∈ am_wds (30, 101, 0, 0, mX13_verdicts), w ∈ am_WS := am_pick [1876, 1877, 1878, 118, 1879] rfl (by decide +kernel)
set_option maxRecDepth 20000 in
theorem am_l331 : ∀ w ∈ am_wds (30, 106, 0, 1, mX13_half), w ∈ am_WS := am_pick [1880, 1881, 1882, 118, 1883] rfl (by decide +kernel)
set_option maxRecDepth 20000 in
theorem am_l332 : ∀ w ∈ am_wds (30, 115, 0, 2, mX13_precedent), w ∈ am_WS := am_pick [1884, 1885, 1886, 118, 1887] rfl (by decide +kernel)
set_option maxRecDepth 20000 in
theorem am_l333 : ∀ w ∈ am_wds (30, 119, 0, 1, mX13_nearest), w ∈ am_WS := am_pick [1888, 1889, 1890, 118, 1891] rfl (by decide +kernel)
set_option maxRecDepth 20000 in
theorem am_l334 : ∀ w ∈ am_wds (13, 426, 1, 2, mX13_off), w ∈ am_WS := am_pick [1892, 1893, 118, 1894] rfl (by decide +kernel)
set_option maxRecDepth 20000 in
theorem am_l335 : ∀ w ∈ am_wds (30, 123, 0, 0, mX13_clashes), w ∈ am_WS := am_pick [1895, 1896, 1897, 118, 1898] rfl (by decide +kernel)
theorem am_LKc20 : ∀ e ∈ [(30, 81, 0, 0, mX13_straight), (13, 413, 0, 2, mX13_fewest), (13, 409, 0, 4, mX13_leadsTo), (30, 85, 0, 2, mX13_reach), (30, 93, 0, 1, mX13_free), (30, 97, 0, 0, mX13_worn), (30, 111, 0, 2, mX13_jury), (13, 419, 0, 0, mX13_fillsVotes), (13, 422, 0, 2, mX13_lineOf), (13, 416, 1, 2, mX13_common), (30, 101, 0, 0, mX13_verdicts), (30, 106, 0, 1, mX13_half), (30, 115, 0, 2, mX13_precedent), (30, 119, 0, 1, mX13_nearest), (13, 426, 1, 2, mX13_off), (30, 123, 0, 0, mX13_clashes)], ∀ w ∈ am_wds e, w ∈ am_WS := List.forall_mem_cons.mpr ⟨am_l320, List.forall_mem_cons.mpr ⟨am_l321, List.forall_mem_cons.mpr ⟨am_l322, List.forall_mem_cons.mpr ⟨am_l323, List.forall_mem_cons.mpr ⟨am_l324, List.forall_mem_cons.mpr ⟨am_l325, List.forall_mem_cons.mpr ⟨am_l326, List.forall_mem_cons.mpr ⟨am_l327, List.forall_mem_cons.mpr ⟨am_l328, List.forall_mem_cons.mpr ⟨am_l329, List.forall_mem_cons.mpr ⟨am_l330, List.forall_mem_cons.mpr ⟨am_l331, List.forall_mem_cons.mpr ⟨am_l332, List.forall_mem_cons.mpr ⟨am_l333, List.forall_mem_cons.mpr ⟨am_l334, List.forall_mem_cons.mpr ⟨am_l335, fun _ h => absurd h List.not_mem_nil⟩⟩⟩⟩⟩⟩⟩⟩⟩⟩⟩⟩⟩⟩⟩⟩
set_option maxRecDepth 20000 in
theorem am_l336 : ∀ w ∈ am_wds (30, 127, 0, 1, mX13_paint), w ∈ am_WS := am_pick [1899, 1900, 1901, 118, 1902] rfl (by decide +kernel)
set_option maxRecDepth 20000 in
theorem am_l337 : ∀ w ∈ am_wds (13, 429, 0, 2, mX13_offPaint), w ∈ am_WS := am_pick [1903, 1905, 97, 118, 1906] rfl (by decide +kernel)
set_option maxRecDepth 20000 in
theorem am_l338 : ∀ w ∈ am_wds (30, 132, 0, 3, mX13_storms), w ∈ am_WS := am_pick [1907, 1908, 1909, 118, 1910] rfl (by decide +kernel)
set_option maxRecDepth 20000 in
theorem am_l339 : ∀ w ∈ am_wds (30, 136, 0, 3, mX13_tell), w ∈ am_WS := am_pick [1911, 1912, 1913, 118, 1914] rfl (by decide +kernel)
set_option maxRecDepth 20000 in
theorem am_l340 : ∀ w ∈ am_wds (30, 140, 0, 0, mX13_forget), w ∈ am_WS := am_pick [1915, 1916, 1917, 118, 1918] rfl (by decide +kernel)
set_option maxRecDepth 20000 in
theorem am_l341 : ∀ w ∈ am_wds (30, 144, 0, 2, mX13_cloth), w ∈ am_WS := am_pick [1919, 1920, 1921, 118, 1922] rfl (by decide +kernel)
set_option maxRecDepth 20000 in
theorem am_l342 : ∀ w ∈ am_wds (13, 435, 0, 2, mX13_isAsked), w ∈ am_WS := am_pick [1923, 1925, 98, 118, 1926] rfl (by decide +kernel)
set_option maxRecDepth 20000 in
theorem am_l343 : ∀ w ∈ am_wds (13, 438, 0, 3, mX13_isCloth), w ∈ am_WS := am_pick [1927, 1929, 99, 118, 1930] rfl (by decide +kernel)
set_option maxRecDepth 20000 in
theorem am_l344 : ∀ w ∈ am_wds (13, 432, 0, 2, mX13_isSeen), w ∈ am_WS := am_pick [1931, 1933, 100, 118, 1934] rfl (by decide +kernel)
set_option maxRecDepth 20000 in
theorem am_l345 : ∀ w ∈ am_wds (30, 148, 0, 3, mX13_sure), w ∈ am_WS := am_pick [1935, 1936, 1937, 118, 1938] rfl (by decide +kernel)
set_option maxRecDepth 20000 in
theorem am_l346 : ∀ w ∈ am_wds (30, 152, 0, 2, mX13_look), w ∈ am_WS := am_pick [1939, 1940, 1941, 118, 1942] rfl (by decide +kernel)
set_option maxRecDepth 20000 in
theorem am_l347 : ∀ w ∈ am_wds (30, 157, 0, 1, mX13_hold), w ∈ am_WS := am_pick [1943, 1944, 1945, 118, 1946] rfl (by decide +kernel)
set_option maxRecDepth 20000 in
theorem am_l348 : ∀ w ∈ am_wds (30, 161, 0, 1, mX13_restore), w ∈ am_WS := am_pick [1947, 1948, 1949, 118, 1950] rfl (by decide +kernel)
set_option maxRecDepth 20000 in
theorem am_l349 : ∀ w ∈ am_wds (30, 165, 0, 1, mX13_count), w ∈ am_WS := am_pick [1951, 1952, 1953, 118, 1954] rfl (by decide +kernel)
set_option maxRecDepth 20000 in
theorem am_l350 : ∀ w ∈ am_wds (10, 51, 3, 0, mX1_init), w ∈ am_WS := am_pick [142, 104, 143] rfl (by decide +kernel)
set_option maxRecDepth 20000 in
theorem am_l351 : ∀ w ∈ am_wds (12, 29, 3, 0, mX9_init), w ∈ am_WS := am_pick [255, 105, 256] rfl (by decide +kernel)
theorem am_LKc21 : ∀ e ∈ [(30, 127, 0, 1, mX13_paint), (13, 429, 0, 2, mX13_offPaint), (30, 132, 0, 3, mX13_storms), (30, 136, 0, 3, mX13_tell), (30, 140, 0, 0, mX13_forget), (30, 144, 0, 2, mX13_cloth), (13, 435, 0, 2, mX13_isAsked), (13, 438, 0, 3, mX13_isCloth), (13, 432, 0, 2, mX13_isSeen), (30, 148, 0, 3, mX13_sure), (30, 152, 0, 2, mX13_look), (30, 157, 0, 1, mX13_hold), (30, 161, 0, 1, mX13_restore), (30, 165, 0, 1, mX13_count), (10, 51, 3, 0, mX1_init), (12, 29, 3, 0, mX9_init)], ∀ w ∈ am_wds e, w ∈ am_WS := List.forall_mem_cons.mpr ⟨am_l336, List.forall_mem_cons.mpr ⟨am_l337, List.forall_mem_cons.mpr ⟨am_l338, List.forall_mem_cons.mpr ⟨am_l339, List.forall_mem_cons.mpr ⟨am_l340, List.forall_mem_cons.mpr ⟨am_l341, List.forall_mem_cons.mpr ⟨am_l342, List.forall_mem_cons.mpr ⟨am_l343, List.forall_mem_cons.mpr ⟨am_l344, List.forall_mem_cons.mpr ⟨am_l345, List.forall_mem_cons.mpr ⟨am_l346, List.forall_mem_cons.mpr ⟨am_l347, List.forall_mem_cons.mpr ⟨am_l348, List.forall_mem_cons.mpr ⟨am_l349, List.forall_mem_cons.mpr ⟨am_l350, List.forall_mem_cons.mpr ⟨am_l351, fun _ h => absurd h List.not_mem_nil⟩⟩⟩⟩⟩⟩⟩⟩⟩⟩⟩⟩⟩⟩⟩⟩
set_option maxRecDepth 20000 in
theorem am_l352 : ∀ w ∈ am_wds (12, 45, 3, 0, mX3_init), w ∈ am_WS := am_pick [399, 112, 400] rfl (by decide +kernel)
set_option maxRecDepth 20000 in
theorem am_l353 : ∀ w ∈ am_wds (12, 52, 3, 0, mX6_init), w ∈ am_WS := am_pick [472, 113, 473] rfl (by decide +kernel)
set_option maxRecDepth 20000 in
theorem am_l354 : ∀ w ∈ am_wds (6, 30, 3, 0, mX3_init), w ∈ am_WS := am_pick [399, 112, 400] rfl (by decide +kernel)
theorem am_LKc22 : ∀ e ∈ [(12, 45, 3, 0, mX3_init), (12, 52, 3, 0, mX6_init), (6, 30, 3, 0, mX3_init)], ∀ w ∈ am_wds e, w ∈ am_WS := List.forall_mem_cons.mpr ⟨am_l352, List.forall_mem_cons.mpr ⟨am_l353, List.forall_mem_cons.mpr ⟨am_l354, fun _ h => absurd h List.not_mem_nil⟩⟩⟩
theorem am_app {α : Type} {p : α → Prop} {a b : List α} (ha : ∀ e ∈ a, p e) (hb : ∀ e ∈ b, p e) : ∀ e ∈ a ++ b, p e := fun e h => (List.mem_append.mp h).elim (ha e) (hb e)
set_option maxRecDepth 20000 in
theorem am_LKw : ∀ e ∈ am_LK, ∀ w ∈ am_wds e, w ∈ am_WS := am_app am_LKc0 (am_app am_LKc1 (am_app am_LKc2 (am_app am_LKc3 (am_app am_LKc4 (am_app am_LKc5 (am_app am_LKc6 (am_app am_LKc7 (am_app am_LKc8 (am_app am_LKc9 (am_app am_LKc10 (am_app am_LKc11 (am_app am_LKc12 (am_app am_LKc13 (am_app am_LKc14 (am_app am_LKc15 (am_app am_LKc16 (am_app am_LKc17 (am_app am_LKc18 (am_app am_LKc19 (am_app am_LKc20 (am_app am_LKc21 (am_LKc22))))))))))))))))))))))
def am_fw (e : Nat × Nat × Nat × Nat) : Cond := .fieldLink (am_cn e.1) e.2.1 (am_own e.2.2.1) ((vwCl[e.2.2.1]?).elim "" (fun q => (q.2.1 e.2.2.2).2.1)) ((vwCl[e.2.2.1]?).elim "" (fun q => (q.2.1 e.2.2.2).2.2.1))
set_option maxRecDepth 20000 in
theorem am_fc0 : ∀ e ∈ [(1, 11, 1, 0), (1, 15, 1, 1), (1, 18, 1, 2), (1, 21, 1, 3), (9, 169, 1, 3), (10, 9, 9, 0), (2, 86, 9, 0), (9, 103, 9, 0), (12, 300, 9, 0), (10, 15, 9, 1), (4, 60, 9, 1), (2, 69, 9, 1), (7, 84, 9, 1), (9, 127, 9, 1), (12, 252, 9, 1), (10, 18, 9, 2)], am_fw e ∈ am_WS := fun e he => am_pick (ws := List.map am_fw [(1, 11, 1, 0), (1, 15, 1, 1), (1, 18, 1, 2), (1, 21, 1, 3), (9, 169, 1, 3), (10, 9, 9, 0), (2, 86, 9, 0), (9, 103, 9, 0), (12, 300, 9, 0), (10, 15, 9, 1), (4, 60, 9, 1), (2, 69, 9, 1), (7, 84, 9, 1), (9, 127, 9, 1), (12, 252, 9, 1), (10, 18, 9, 2)]) [145, 146, 147, 148, 149, 177, 178, 179, 180, 181, 182, 183, 184, 185, 186, 187] rfl (by decide +kernel) _ (List.mem_map_of_mem he)
set_option maxRecDepth 20000 in
theorem am_fc1 : ∀ e ∈ [(5, 33, 9, 2), (9, 145, 9, 2), (12, 269, 9, 2), (10, 21, 9, 3), (9, 151, 9, 3), (10, 24, 9, 4), (12, 189, 9, 4), (9, 154, 9, 4), (10, 27, 9, 5), (12, 102, 9, 5), (9, 112, 9, 5), (10, 30, 9, 6), (12, 133, 9, 6), (9, 121, 9, 6), (10, 34, 9, 7), (0, 51, 9, 7)], am_fw e ∈ am_WS := fun e he => am_pick (ws := List.map am_fw [(5, 33, 9, 2), (9, 145, 9, 2), (12, 269, 9, 2), (10, 21, 9, 3), (9, 151, 9, 3), (10, 24, 9, 4), (12, 189, 9, 4), (9, 154, 9, 4), (10, 27, 9, 5), (12, 102, 9, 5), (9, 112, 9, 5), (10, 30, 9, 6), (12, 133, 9, 6), (9, 121, 9, 6), (10, 34, 9, 7), (0, 51, 9, 7)]) [188, 189, 190, 191, 192, 193, 194, 195, 196, 197, 198, 199, 200, 201, 202, 203] rfl (by decide +kernel) _ (List.mem_map_of_mem he)
set_option maxRecDepth 20000 in
theorem am_fc2 : ∀ e ∈ [(12, 144, 9, 7), (9, 133, 9, 7), (10, 37, 9, 8), (0, 40, 9, 8), (12, 147, 9, 8), (9, 136, 9, 8), (10, 40, 9, 9), (12, 150, 9, 9), (9, 139, 9, 9), (10, 43, 9, 10), (12, 153, 9, 10), (9, 142, 9, 10), (10, 46, 9, 11), (0, 70, 9, 11), (9, 148, 9, 11), (10, 52, 9, 12)], am_fw e ∈ am_WS := fun e he => am_pick (ws := List.map am_fw [(12, 144, 9, 7), (9, 133, 9, 7), (10, 37, 9, 8), (0, 40, 9, 8), (12, 147, 9, 8), (9, 136, 9, 8), (10, 40, 9, 9), (12, 150, 9, 9), (9, 139, 9, 9), (10, 43, 9, 10), (12, 153, 9, 10), (9, 142, 9, 10), (10, 46, 9, 11), (0, 70, 9, 11), (9, 148, 9, 11), (10, 52, 9, 12)]) [204, 205, 206, 207, 208, 209, 210, 211, 212, 213, 214, 215, 216, 217, 218, 219] rfl (by decide +kernel) _ (List.mem_map_of_mem he)
set_option maxRecDepth 20000 in
theorem am_fc3 : ∀ e ∈ [(0, 57, 9, 12), (9, 157, 9, 12), (10, 56, 9, 13), (11, 11, 10, 0), (11, 15, 10, 1), (11, 19, 10, 2), (11, 22, 10, 3), (11, 25, 10, 4), (11, 29, 10, 5), (11, 33, 10, 6), (11, 36, 10, 7), (11, 39, 10, 8), (9, 56, 10, 8), (11, 42, 10, 9), (9, 82, 10, 9), (11, 45, 10, 10)], am_fw e ∈ am_WS := fun e he => am_pick (ws := List.map am_fw [(0, 57, 9, 12), (9, 157, 9, 12), (10, 56, 9, 13), (11, 11, 10, 0), (11, 15, 10, 1), (11, 19, 10, 2), (11, 22, 10, 3), (11, 25, 10, 4), (11, 29, 10, 5), (11, 33, 10, 6), (11, 36, 10, 7), (11, 39, 10, 8), (9, 56, 10, 8), (11, 42, 10, 9), (9, 82, 10, 9), (11, 45, 10, 10)]) [220, 221, 222, 313, 314, 315, 316, 317, 318, 319, 320, 321, 322, 323, 324, 325] rfl (by decide +kernel) _ (List.mem_map_of_mem he)
set_option maxRecDepth 20000 in
theorem am_fc4 : ∀ e ∈ [(9, 91, 10, 10), (9, 12, 8, 0), (9, 18, 8, 1), (9, 22, 8, 2), (9, 26, 8, 3), (9, 30, 8, 4), (9, 33, 8, 5), (9, 36, 8, 6), (9, 42, 8, 7), (12, 96, 8, 7), (9, 46, 8, 8), (12, 95, 8, 8), (0, 15, 0, 0), (0, 11, 0, 1), (3, 9, 3, 0), (4, 50, 3, 0)], am_fw e ∈ am_WS := fun e he => am_pick (ws := List.map am_fw [(9, 91, 10, 10), (9, 12, 8, 0), (9, 18, 8, 1), (9, 22, 8, 2), (9, 26, 8, 3), (9, 30, 8, 4), (9, 33, 8, 5), (9, 36, 8, 6), (9, 42, 8, 7), (12, 96, 8, 7), (9, 46, 8, 8), (12, 95, 8, 8), (0, 15, 0, 0), (0, 11, 0, 1), (3, 9, 3, 0), (4, 50, 3, 0)]) [326, 353, 354, 355, 356, 357, 358, 359, 360, 361, 362, 363, 389, 390, 402, 403] rfl (by decide +kernel) _ (List.mem_map_of_mem he)
set_option maxRecDepth 20000 in
theorem am_fc5 : ∀ e ∈ [(5, 38, 3, 0), (7, 68, 3, 0), (12, 118, 3, 0), (3, 15, 3, 1), (5, 43, 3, 1), (4, 65, 3, 1), (7, 75, 3, 1), (12, 162, 3, 1), (3, 18, 3, 2), (4, 57, 3, 2), (7, 78, 3, 2), (12, 159, 3, 2), (3, 21, 3, 3), (4, 45, 3, 3), (7, 63, 3, 3), (12, 174, 3, 3)], am_fw e ∈ am_WS := fun e he => am_pick (ws := List.map am_fw [(5, 38, 3, 0), (7, 68, 3, 0), (12, 118, 3, 0), (3, 15, 3, 1), (5, 43, 3, 1), (4, 65, 3, 1), (7, 75, 3, 1), (12, 162, 3, 1), (3, 18, 3, 2), (4, 57, 3, 2), (7, 78, 3, 2), (12, 159, 3, 2), (3, 21, 3, 3), (4, 45, 3, 3), (7, 63, 3, 3), (12, 174, 3, 3)]) [404, 405, 406, 407, 408, 409, 410, 411, 412, 413, 414, 415, 416, 417, 418, 419] rfl (by decide +kernel) _ (List.mem_map_of_mem he)
set_option maxRecDepth 20000 in
theorem am_fc6 : ∀ e ∈ [(3, 24, 3, 4), (12, 227, 3, 4), (3, 27, 3, 5), (12, 192, 3, 5), (3, 30, 3, 6), (12, 198, 3, 6), (3, 33, 3, 7), (12, 340, 3, 7), (3, 36, 3, 8), (12, 343, 3, 8), (3, 39, 3, 9), (12, 275, 3, 9), (3, 42, 3, 10), (12, 156, 3, 10), (3, 46, 3, 11), (12, 281, 3, 11)], am_fw e ∈ am_WS := fun e he => am_pick (ws := List.map am_fw [(3, 24, 3, 4), (12, 227, 3, 4), (3, 27, 3, 5), (12, 192, 3, 5), (3, 30, 3, 6), (12, 198, 3, 6), (3, 33, 3, 7), (12, 340, 3, 7), (3, 36, 3, 8), (12, 343, 3, 8), (3, 39, 3, 9), (12, 275, 3, 9), (3, 42, 3, 10), (12, 156, 3, 10), (3, 46, 3, 11), (12, 281, 3, 11)]) [420, 421, 422, 423, 424, 425, 426, 427, 428, 429, 430, 431, 432, 433, 434, 435] rfl (by decide +kernel) _ (List.mem_map_of_mem he)
set_option maxRecDepth 20000 in
theorem am_fc7 : ∀ e ∈ [(3, 49, 3, 12), (12, 284, 3, 12), (3, 52, 3, 13), (12, 287, 3, 13), (6, 11, 6, 0), (6, 17, 6, 1), (6, 20, 6, 2), (6, 24, 6, 3), (6, 27, 6, 4), (12, 334, 6, 4), (7, 43, 7, 0), (7, 47, 7, 1), (7, 11, 7, 2), (7, 15, 7, 3), (7, 18, 7, 4), (7, 21, 7, 5)], am_fw e ∈ am_WS := fun e he => am_pick (ws := List.map am_fw [(3, 49, 3, 12), (12, 284, 3, 12), (3, 52, 3, 13), (12, 287, 3, 13), (6, 11, 6, 0), (6, 17, 6, 1), (6, 20, 6, 2), (6, 24, 6, 3), (6, 27, 6, 4), (12, 334, 6, 4), (7, 43, 7, 0), (7, 47, 7, 1), (7, 11, 7, 2), (7, 15, 7, 3), (7, 18, 7, 4), (7, 21, 7, 5)]) [436, 437, 438, 439, 477, 478, 479, 480, 481, 482, 500, 501, 502, 503, 504, 505] rfl (by decide +kernel) _ (List.mem_map_of_mem he)
set_option maxRecDepth 20000 in
theorem am_fc8 : ∀ e ∈ [(7, 24, 7, 6), (7, 28, 7, 7), (7, 31, 7, 8), (7, 34, 7, 9), (7, 37, 7, 10), (7, 40, 7, 11), (12, 241, 7, 11), (4, 33, 4, 0), (4, 37, 4, 1), (4, 13, 4, 2), (4, 16, 4, 3), (4, 20, 4, 4), (4, 24, 4, 5), (4, 27, 4, 6), (4, 30, 4, 7), (5, 19, 5, 0)], am_fw e ∈ am_WS := fun e he => am_pick (ws := List.map am_fw [(7, 24, 7, 6), (7, 28, 7, 7), (7, 31, 7, 8), (7, 34, 7, 9), (7, 37, 7, 10), (7, 40, 7, 11), (12, 241, 7, 11), (4, 33, 4, 0), (4, 37, 4, 1), (4, 13, 4, 2), (4, 16, 4, 3), (4, 20, 4, 4), (4, 24, 4, 5), (4, 27, 4, 6), (4, 30, 4, 7), (5, 19, 5, 0)]) [506, 507, 508, 509, 510, 511, 512, 546, 547, 548, 549, 550, 551, 552, 553, 577] rfl (by decide +kernel) _ (List.mem_map_of_mem he)
set_option maxRecDepth 20000 in
theorem am_fc9 : ∀ e ∈ [(5, 23, 5, 1), (5, 9, 5, 2), (5, 15, 5, 3), (2, 45, 2, 0), (2, 9, 2, 1), (2, 15, 2, 2), (2, 18, 2, 3), (2, 21, 2, 4), (2, 26, 2, 5), (2, 29, 2, 6), (2, 33, 2, 7), (2, 36, 2, 8), (12, 321, 2, 8), (2, 39, 2, 9), (12, 318, 2, 9), (2, 42, 2, 10)], am_fw e ∈ am_WS := fun e he => am_pick (ws := List.map am_fw [(5, 23, 5, 1), (5, 9, 5, 2), (5, 15, 5, 3), (2, 45, 2, 0), (2, 9, 2, 1), (2, 15, 2, 2), (2, 18, 2, 3), (2, 21, 2, 4), (2, 26, 2, 5), (2, 29, 2, 6), (2, 33, 2, 7), (2, 36, 2, 8), (12, 321, 2, 8), (2, 39, 2, 9), (12, 318, 2, 9), (2, 42, 2, 10)]) [578, 579, 580, 597, 598, 599, 600, 601, 602, 603, 604, 605, 606, 607, 608, 609] rfl (by decide +kernel) _ (List.mem_map_of_mem he)
set_option maxRecDepth 20000 in
theorem am_fc10 : ∀ e ∈ [(12, 111, 2, 10), (12, 9, 11, 0), (12, 13, 11, 1), (12, 17, 11, 2), (12, 23, 11, 3), (12, 30, 11, 4), (12, 39, 11, 5), (12, 46, 11, 6), (12, 53, 11, 7), (12, 62, 11, 8), (12, 69, 11, 9), (12, 76, 11, 10), (12, 83, 11, 11), (13, 13, 12, 1), (13, 172, 12, 2), (13, 17, 12, 3)], am_fw e ∈ am_WS := fun e he => am_pick (ws := List.map am_fw [(12, 111, 2, 10), (12, 9, 11, 0), (12, 13, 11, 1), (12, 17, 11, 2), (12, 23, 11, 3), (12, 30, 11, 4), (12, 39, 11, 5), (12, 46, 11, 6), (12, 53, 11, 7), (12, 62, 11, 8), (12, 69, 11, 9), (12, 76, 11, 10), (12, 83, 11, 11), (13, 13, 12, 1), (13, 172, 12, 2), (13, 17, 12, 3)]) [610, 634, 635, 636, 637, 638, 639, 640, 641, 642, 643, 644, 645, 1363, 1364, 1365] rfl (by decide +kernel) _ (List.mem_map_of_mem he)
set_option maxRecDepth 20000 in
theorem am_fc11 : ∀ e ∈ [(13, 178, 12, 4), (13, 20, 12, 5), (13, 24, 12, 6), (13, 27, 12, 7), (13, 30, 12, 8), (13, 34, 12, 9), (13, 187, 12, 10), (13, 212, 12, 11), (13, 236, 12, 12), (13, 209, 12, 13), (13, 215, 12, 14), (13, 218, 12, 15), (13, 221, 12, 16), (13, 37, 12, 17), (13, 239, 12, 18), (13, 242, 12, 19)], am_fw e ∈ am_WS := fun e he => am_pick (ws := List.map am_fw [(13, 178, 12, 4), (13, 20, 12, 5), (13, 24, 12, 6), (13, 27, 12, 7), (13, 30, 12, 8), (13, 34, 12, 9), (13, 187, 12, 10), (13, 212, 12, 11), (13, 236, 12, 12), (13, 209, 12, 13), (13, 215, 12, 14), (13, 218, 12, 15), (13, 221, 12, 16), (13, 37, 12, 17), (13, 239, 12, 18), (13, 242, 12, 19)]) [1366, 1367, 1368, 1369, 1370, 1371, 1372, 1373, 1374, 1375, 1376, 1377, 1378, 1379, 1380, 1381] rfl (by decide +kernel) _ (List.mem_map_of_mem he)
set_option maxRecDepth 20000 in
theorem am_fc12 : ∀ e ∈ [(13, 245, 12, 20), (13, 40, 12, 21), (13, 43, 12, 22), (13, 46, 12, 23), (13, 49, 12, 24), (13, 52, 12, 25), (13, 55, 12, 26), (13, 58, 12, 27), (13, 61, 12, 28), (13, 64, 12, 29), (13, 67, 12, 30), (13, 70, 12, 31), (13, 73, 12, 32), (13, 76, 12, 33), (13, 79, 12, 34), (13, 82, 12, 35)], am_fw e ∈ am_WS := fun e he => am_pick (ws := List.map am_fw [(13, 245, 12, 20), (13, 40, 12, 21), (13, 43, 12, 22), (13, 46, 12, 23), (13, 49, 12, 24), (13, 52, 12, 25), (13, 55, 12, 26), (13, 58, 12, 27), (13, 61, 12, 28), (13, 64, 12, 29), (13, 67, 12, 30), (13, 70, 12, 31), (13, 73, 12, 32), (13, 76, 12, 33), (13, 79, 12, 34), (13, 82, 12, 35)]) [1382, 1383, 1384, 1385, 1386, 1387, 1388, 1389, 1390, 1391, 1392, 1393, 1394, 1395, 1396, 1397] rfl (by decide +kernel) _ (List.mem_map_of_mem he)
set_option maxRecDepth 20000 in
theorem am_fc13 : ∀ e ∈ [(13, 85, 12, 36), (13, 248, 12, 37), (13, 88, 12, 38), (13, 92, 12, 39), (13, 95, 12, 40), (13, 98, 12, 41), (13, 101, 12, 42), (13, 251, 12, 43), (13, 104, 12, 44), (13, 107, 12, 45), (13, 110, 12, 46), (13, 302, 12, 47), (13, 113, 12, 48), (13, 116, 12, 49), (13, 315, 12, 50), (13, 119, 12, 51)], am_fw e ∈ am_WS := fun e he => am_pick (ws := List.map am_fw [(13, 85, 12, 36), (13, 248, 12, 37), (13, 88, 12, 38), (13, 92, 12, 39), (13, 95, 12, 40), (13, 98, 12, 41), (13, 101, 12, 42), (13, 251, 12, 43), (13, 104, 12, 44), (13, 107, 12, 45), (13, 110, 12, 46), (13, 302, 12, 47), (13, 113, 12, 48), (13, 116, 12, 49), (13, 315, 12, 50), (13, 119, 12, 51)]) [1398, 1399, 1400, 1401, 1402, 1403, 1404, 1405, 1406, 1407, 1408, 1409, 1410, 1411, 1412, 1413] rfl (by decide +kernel) _ (List.mem_map_of_mem he)
set_option maxRecDepth 20000 in
theorem am_fc14 : ∀ e ∈ [(13, 122, 12, 52), (13, 326, 12, 53), (13, 257, 12, 54), (13, 125, 12, 55), (13, 128, 12, 56), (13, 131, 12, 57), (13, 134, 12, 58), (13, 137, 12, 59), (13, 260, 12, 60), (13, 140, 12, 61), (13, 143, 12, 62), (13, 146, 12, 63), (13, 149, 12, 64), (13, 152, 12, 65), (13, 155, 12, 66)], am_fw e ∈ am_WS := fun e he => am_pick (ws := List.map am_fw [(13, 122, 12, 52), (13, 326, 12, 53), (13, 257, 12, 54), (13, 125, 12, 55), (13, 128, 12, 56), (13, 131, 12, 57), (13, 134, 12, 58), (13, 137, 12, 59), (13, 260, 12, 60), (13, 140, 12, 61), (13, 143, 12, 62), (13, 146, 12, 63), (13, 149, 12, 64), (13, 152, 12, 65), (13, 155, 12, 66)]) [1414, 1415, 1416, 1417, 1418, 1419, 1420, 1421, 1422, 1423, 1424, 1425, 1426, 1427, 1428] rfl (by decide +kernel) _ (List.mem_map_of_mem he)
set_option maxRecDepth 20000 in
theorem am_FLw : ∀ e ∈ am_FL, am_fw e ∈ am_WS := am_app am_fc0 (am_app am_fc1 (am_app am_fc2 (am_app am_fc3 (am_app am_fc4 (am_app am_fc5 (am_app am_fc6 (am_app am_fc7 (am_app am_fc8 (am_app am_fc9 (am_app am_fc10 (am_app am_fc11 (am_app am_fc12 (am_app am_fc13 (am_fc14))))))))))))))
set_option maxRecDepth 20000 in
theorem am_FLd : am_FL.all (fun e => decide (e.2.2.1 < 13) && ((vwCl[e.2.2.1]?).any (fun q => decide (e.2.2.2 < q.2.2) && decide ((q.2.1 e.2.2.2).1 = q.1)))) = true := by decide +kernel
theorem am_fl_some {c i ci j : Nat} (h : am_fl c i = some (ci, j)) : am_fw (c, i, ci, j) ∈ am_WS ∧ ∃ q, vwCl[ci]? = some q ∧ j < q.2.2 ∧ (q.2.1 j).1 = q.1 := by
  unfold am_fl at h
  cases hf : am_FL.find? (fun e => e.1 == c && e.2.1 == i) with
  | none => rw [hf] at h; cases h
  | some e =>
    rw [hf] at h
    have h1 := List.find?_some hf
    have h2 := List.mem_of_find?_eq_some hf
    simp only [Bool.and_eq_true, beq_iff_eq] at h1
    obtain ⟨a, b, r⟩ := e
    simp only [Option.map_some, Option.some.injEq] at h
    subst h
    obtain ⟨rfl, rfl⟩ := h1
    refine ⟨am_FLw _ h2, ?_⟩
    have h3 := List.all_eq_true.mp am_FLd _ h2
    simp only [Bool.and_eq_true, decide_eq_true_eq, Option.any_eq_true] at h3
    obtain ⟨-, q, hq, h4, h5⟩ := h3
    exact ⟨q, hq, h4, h5⟩
theorem am_k0 : (∀ w ∈ u_ws RX0 TX0 2, w ∈ lw_tbl) ∧ (u_ws RX0 TX0 2).all goodWord = true := by decide +kernel
theorem am_k1 : (∀ w ∈ u_ws RX1 TX1 4, w ∈ lw_tbl) ∧ (u_ws RX1 TX1 4).all goodWord = true := by decide +kernel
theorem am_k2 : (∀ w ∈ u_ws RX2 TX2 11, w ∈ lw_tbl) ∧ (u_ws RX2 TX2 11).all goodWord = true := by decide +kernel
theorem am_k3 : (∀ w ∈ u_ws RX3 TX3 14, w ∈ lw_tbl) ∧ (u_ws RX3 TX3 14).all goodWord = true := by decide +kernel
theorem am_k4 : (∀ w ∈ u_ws RX4 TX4 8, w ∈ lw_tbl) ∧ (u_ws RX4 TX4 8).all goodWord = true := by decide +kernel
theorem am_k5 : (∀ w ∈ u_ws RX5 TX5 4, w ∈ lw_tbl) ∧ (u_ws RX5 TX5 4).all goodWord = true := by decide +kernel
theorem am_k6 : (∀ w ∈ u_ws RX6 TX6 5, w ∈ lw_tbl) ∧ (u_ws RX6 TX6 5).all goodWord = true := by decide +kernel
theorem am_k7 : (∀ w ∈ u_ws RX7 TX7 12, w ∈ lw_tbl) ∧ (u_ws RX7 TX7 12).all goodWord = true := by decide +kernel
theorem am_k8 : (∀ w ∈ u_ws RX9 TX9 9, w ∈ lw_tbl) ∧ (u_ws RX9 TX9 9).all goodWord = true := by decide +kernel
theorem am_k9 : (∀ w ∈ u_ws RX10 TX10 14, w ∈ lw_tbl) ∧ (u_ws RX10 TX10 14).all goodWord = true := by decide +kernel
theorem am_k10 : (∀ w ∈ u_ws RX11 TX11 11, w ∈ lw_tbl) ∧ (u_ws RX11 TX11 11).all goodWord = true := by decide +kernel
theorem am_k11 : (∀ w ∈ u_ws RX12 TX12 12, w ∈ lw_tbl) ∧ (u_ws RX12 TX12 12).all goodWord = true := by decide +kernel
theorem am_k12 : (∀ w ∈ u_ws RX13 TX13 67, w ∈ lw_tbl) ∧ (u_ws RX13 TX13 67).all goodWord = true := by decide +kernel
