/-! THE LAW'S ENTRY: the claim out of a run of the abstract machine -/
/-- what is left of the claim -/
def am_goal : Prop := ∀ (L : Nat) (xs : Nat → Int32), L ≤ 3072 → ∃ (f : Nat) (M' : am_M), am_run (L, xs) f 40 mL_law 0 (am_en [.ref 2000000] 4) [] (0, fun _ _ => 0, fun _ _ => 0, fun _ _ => none) = some (some (.int 1), M')
theorem am_sl_le (n : Nat) (h : ∀ k, (am_SH k).2 ≤ 2720) : am_sl n ≤ 2720 * n := by
  induction n with
  | zero => exact Nat.le_refl _
  | succ n ih => show am_sl n + (am_SH n).2 ≤ _; have := h n; omega
theorem am_strs : ∀ i, i < 2 → (Cond.exactly (Term.string RX11 (if i = 0 then 49 else 82)) "java/lang/String") ∈ flatC (Jvm.Cond.and given_1 narrow_1) ∧ (Cond.eq (.field (Term.string RX11 (if i = 0 then 49 else 82)) "java/lang/String" "coder" "B") (.int 0)) ∈ flatC (Jvm.Cond.and given_1 narrow_1) ∧ (Cond.arrayOf (.field (Term.string RX11 (if i = 0 then 49 else 82)) "java/lang/String" "value" "[B") .byte) ∈ flatC (Jvm.Cond.and given_1 narrow_1) ∧ (Cond.eq (.length (.field (Term.string RX11 (if i = 0 then 49 else 82)) "java/lang/String" "value" "[B")) (.int (Int32.ofNat (am_len.getD i 0)))) ∈ flatC (Jvm.Cond.and given_1 narrow_1) := by decide +kernel
theorem am_strb : ∀ i, i < 2 → ∀ j, j < am_len.getD i 0 → (Cond.eq (.elem (.field (Term.string RX11 (if i = 0 then 49 else 82)) "java/lang/String" "value" "[B") (.int (Int32.ofNat j))) (.int ((am_byt.getD i []).getD j 0))) ∈ flatC (Jvm.Cond.and given_1 narrow_1) := by decide +kernel
theorem am_strn : (Cond.not (Cond.eq (Term.string RX11 49) (Term.string RX11 82))) ∈ flatC (Jvm.Cond.and given_1 narrow_1) ∧ (Cond.eq (Term.static "java/lang/String" "COMPACT_STRINGS" "Z") (.int 1)) ∈ flatC (Jvm.Cond.and given_1 narrow_1) := by decide +kernel
theorem am_sio_words : (Cond.laysStatic "jdk/internal/util/Preconditions" "SIOOBE_FORMATTER" "Ljava/util/function/BiFunction;") ∈ lw_tbl ∧ (Cond.initialized "jdk/internal/util/Preconditions") ∈ lw_tbl := by decide +kernel
theorem am_sio_ref : (Cond.isRef (Term.static "jdk/internal/util/Preconditions" "SIOOBE_FORMATTER" "Ljava/util/function/BiFunction;")) ∈ flatC (Jvm.Cond.and given_1 narrow_1) := by decide +kernel
theorem am_law_words : (Cond.methodLinkNest RX10 51 yX1_init RX12) ∈ lw_tbl ∧ (Cond.methodLinkNest RX12 29 yX9_init RX12) ∈ lw_tbl ∧ (Cond.methodLinkNest RX12 45 yX3_init RX12) ∈ lw_tbl ∧ (Cond.methodLinkNest RX12 52 yX6_init RX12) ∈ lw_tbl ∧ (Cond.methodLinkNest RX6 30 yX3_init RX12) ∈ lw_tbl ∧ (Cond.arrayOver (.object RX3)) ∈ lw_tbl ∧ (Cond.arrayOver (.array .int)) ∈ lw_tbl ∧ (Cond.stringRef RX11 49 "puppet string child order verdict votes storm seed if then else apart tangles pulls nods side hand seat which at ") ∈ lw_tbl ∧ (Cond.stringRef RX11 82 ";=+-*/<()") ∈ lw_tbl ∧ (Cond.laysStatic "java/lang/String" "COMPACT_STRINGS" "Z") ∈ lw_tbl ∧ (Cond.initialized "java/lang/String") ∈ lw_tbl := by decide +kernel
set_option maxHeartbeats 4000000 in
theorem whole_start_open (hg : am_goal) {p : Program} {e : Env} {s : State} {m : MethodId} {below : List Frame} {meth : Method} {c : Code} (l : Launch) {b L : Nat} {xs : Nat → Int32} (hL : L ≤ 3072) (C0 : lw_At p s m meth c b L xs) : W p l e room_1 s m #[Value.ref b] below meth c s.heap [] 0 0 (lw_Z below #[Value.ref b] s) (entryFrame m ([Value.ref b] : List Value).toArray 4) := by
  obtain ⟨hx, hb, hr, hml, hown, hts, hX, hbl, hlocks, hgv⟩ := id C0
  have hWS : ∀ w ∈ am_WS, w.before #[Value.ref b] s = true := fun w hw => hts w (List.mem_filter.mp hw).1
  have hKn : ∀ ci, ∃ q : ClassId × (Nat → Nat), ci < 13 → u_Kn s (am_cls ci).1 (am_cls ci).2.1 (am_cls ci).2.2 q.1 q.2 := by
    intro ci
    by_cases h : ci < 13
    · obtain ⟨a1, a2, a3⟩ := u_known hWS (am_kin h).1 (hWS _ (am_kin h).2.2.2.1)
      exact ⟨(a1, a2), fun _ => a3⟩
    · exact ⟨(0, fun _ => 0), fun z => absurd z h⟩
  obtain ⟨q, hq⟩ := Classical.axiomOfChoice hKn
  have harr : ∀ ty, Cond.arrayClass ty ∈ am_WS → (∀ C, ty ≠ .object C) → ∃ cA, ArrOfT s cA ty ∧ va_RA s cA ty := by
    intro ty hty hno
    obtain ⟨cA, k, comp, h1, h2, h3⟩ := Cond.arrayClass_spec (hWS _ hty)
    refine ⟨cA, fun _ _ => ⟨fun _ h => (by cases h), k, h2, comp, h3⟩, ?_⟩
    cases ty <;> first | exact absurd rfl (hno _) | exact h1
  obtain ⟨cI, hI⟩ := harr .int (am_Ow _ (by simp)) (fun C z => by cases z)
  obtain ⟨cB, hB⟩ := harr .byte (am_Ow _ (by simp)) (fun C z => by cases z)
  obtain ⟨cZ, hZ⟩ := harr .boolean (am_Ow _ (by simp)) (fun C z => by cases z)
  obtain ⟨cJ, hJ⟩ := harr .long (am_Ow _ (by simp)) (fun C z => by cases z)
  obtain ⟨w1, w2, w3, w4, w5, w6, w7, w8, w9, w10, w11⟩ := am_law_words
  obtain ⟨comp, cO, kO, o1, -, o3, o4, o5⟩ := Cond.arrayOver_spec (hts _ w6)
  obtain ⟨comp2, cII, kI, i1, -, i3, i4, i5⟩ := am_over_spec (hts _ w7)
  have hA : ∀ a : Nat, a < s.heap.size → ¬ (fun q => s.heap.size ≤ q) a := fun a ha h => Nat.lt_irrefl _ (Nat.lt_of_lt_of_le ha h)
  have hfl := flat_of_before _ hgv
  obtain ⟨adK, adV, hS, hT⟩ := vk_Sof (args := #[Value.ref b]) (s := s) (N := 2) (tm := fun i => Term.string RX11 (if i = 0 then 49 else 82)) (len := am_len) (byt := am_byt) (A := fun q => s.heap.size ≤ q) (by decide) (fun i hi => hfl _ (am_strs i hi).1) (fun i hi => hfl _ (am_strs i hi).2.1) (fun i hi => hfl _ (am_strs i hi).2.2.1) (fun i hi => hfl _ (am_strs i hi).2.2.2) (fun i hi j hj => hfl _ (am_strb i hi j hj)) (fun i j hi hj hij => by
    have h : (i = 0 ∧ j = 1) ∨ (i = 1 ∧ j = 0) := by omega
    rcases h with ⟨rfl, rfl⟩ | ⟨rfl, rfl⟩
    · exact Or.inl (hfl _ am_strn.1)
    · exact Or.inr (hfl _ am_strn.1)) hA
  obtain ⟨fl, tF, hF⟩ : ∃ (fl : Int32) (tF : Nat), va_Z "jdk/internal/util/Preconditions" "SIOOBE_FORMATTER" "Ljava/util/function/BiFunction;" (if fl = 0 then .null else .ref tF) (fun q => s.heap.size ≤ q) s s.heap := by
    rcases va_Zqof (A := fun q => s.heap.size ≤ q) (hts _ am_sio_words.1) (hts _ am_sio_words.2) (hfl _ am_sio_ref) hA with h | ⟨t, h⟩
    · exact ⟨0, 0, by rw [if_pos rfl]; exact h⟩
    · exact ⟨1, t, by rw [if_neg (by decide)]; exact h⟩
  obtain ⟨xs', xs1, xs2⟩ : ∃ xs' : Nat → Int32, (∀ j, j < L → xs' j = xs j) ∧ xs' 5000 = fl := ⟨fun j => if j < L then xs j else fl, fun j hj => if_pos hj, if_neg (by omega)⟩
  obtain ⟨ro, r0, r1, r2, r3, r4, r5⟩ : ∃ ro : Nat → Nat, ro 1000000 = adK 0 ∧ ro 1000001 = adV 0 ∧ ro 1000002 = adK 1 ∧ ro 1000003 = adV 1 ∧ ro 2000000 = b ∧ ro 3000000 = tF := ⟨fun k => if k = 1000000 then adK 0 else if k = 1000001 then adV 0 else if k = 1000002 then adK 1 else if k = 1000003 then adV 1 else if k = 3000000 then tF else b, rfl, rfl, rfl, rfl, rfl, rfl⟩
  have hRO : am_RO (L, xs') s.heap.size ro s := by
    refine ⟨⟨fun i hi => ?_, fun i j hi hj he => ?_⟩, ?_, ?_, va_Zof (hts _ w10) (hts _ w11) (va_eqt (hfl _ am_strn.2)) hA, ?_, va_Nw.of rfl (hts _ w1), va_Nw.of rfl (hts _ w2), va_Nw.of rfl (hts _ w3), va_Nw.of rfl (hts _ w4), va_Nw.of rfl (hts _ w5), hts _ w6, hts _ w7, ?_⟩
    · have h : i = 0 ∨ i = 1 := by omega
      rcases h with rfl | rfl
      · have := hS.1 0 (by omega)
        show va_O _ (ro 1000000) _ _ _ ∧ va_OF _ _ _ _ (ro 1000000) _ _ _ ∧ va_OF _ _ _ (.ref (ro 1000001)) (ro 1000000) _ _ _ ∧ va_T _ (ro 1000001) _ _ _ _ _
        rw [r0, r1]
        exact this
      · have := hS.1 1 (by omega)
        show va_O _ (ro 1000002) _ _ _ ∧ va_OF _ _ _ _ (ro 1000002) _ _ _ ∧ va_OF _ _ _ (.ref (ro 1000003)) (ro 1000002) _ _ _ ∧ va_T _ (ro 1000003) _ _ _ _ _
        rw [r2, r3]
        exact this
    · have h : (i = 0 ∨ i = 1) ∧ (j = 0 ∨ j = 1) := by omega
      rcases h with ⟨rfl | rfl, rfl | rfl⟩
      · rfl
      · exact hS.2 0 1 (by omega) (by omega) (by rw [← r0, ← r2]; exact he)
      · exact hS.2 1 0 (by omega) (by omega) (by rw [← r0, ← r2]; exact he)
      · rfl
    · rw [r0]; exact vk_R.of (hts _ w8) (hT 0 (by omega))
    · rw [r2]; exact vk_R.of (hts _ w9) (hT 1 (by omega))
    · rw [r4]
      obtain ⟨scr, x1, x2, x3, x4, x5⟩ := hX
      exact ⟨scr, x1, x2, x3, Nat.le_of_eq x4.symm, by rw [x4], fun j hj => by
        rw [x5 j hj]
        exact congrArg (fun z => some (Value.int z)) (xs1 j hj).symm, hA b hbl⟩
    · show va_Z "jdk/internal/util/Preconditions" "SIOOBE_FORMATTER" "Ljava/util/function/BiFunction;" (if xs' 5000 = 0 then .null else .ref (ro 3000000)) _ s s.heap
      rw [xs2, r5]
      exact hF
  generalize hct : (fun t : Nat => if t = 20 then cI else if t = 21 then cB else if t = 22 then cZ else if t = 23 then cJ else if t = 24 then cO else cII) = ct
  have e20 : ct 20 = cI := by rw [← hct]; rfl
  have e21 : ct 21 = cB := by rw [← hct]; rfl
  have e22 : ct 22 = cZ := by rw [← hct]; rfl
  have e23 : ct 23 = cJ := by rw [← hct]; rfl
  have e24 : ct 24 = cO := by rw [← hct]; rfl
  have e25 : ct 25 = cII := by rw [← hct]; rfl
  have hK : va_K (fun k => (q k).1, fun k => (q k).2) vwCl (am_tl ct) s := by
    refine ⟨fun ci r hr => ?_, fun k r hr => ?_⟩
    · have hci : ci < 13 := (List.getElem?_eq_some_iff.mp hr).1
      rw [am_cls_at hci] at hr
      cases hr
      exact hq ci hci
    · have hk : k < 6 := (List.getElem?_eq_some_iff.mp hr).1
      have : k = 0 ∨ k = 1 ∨ k = 2 ∨ k = 3 ∨ k = 4 ∨ k = 5 := by omega
      rcases this with rfl | rfl | rfl | rfl | rfl | rfl
      · cases hr; rw [e20]; exact hI
      · cases hr; rw [e21]; exact hB
      · cases hr; rw [e22]; exact hZ
      · cases hr; rw [e23]; exact hJ
      · cases hr; rw [e24]; exact ⟨fun _ _ => ⟨fun _ h => (by cases h), kO, o3, comp, o4⟩, kO, comp, o3, o4, o1, o5⟩
      · cases hr; rw [e25]; exact ⟨fun _ _ => ⟨fun _ h => (by cases h), kI, i3, comp2, i4⟩, i5⟩
  obtain ⟨f, M', hrun⟩ := hg L xs' hL
  have hmono := (am_run_mono _ _ _ _ _ _ _ _ _ hrun).2 (by show (0 : Nat) ≤ 1003; omega)
  have hsl : am_sl M'.1 ≤ 2720 * M'.1 := am_sl_le _ am_shle'
  have hl := lv_entry ([.ref b]) (n := 4) (Nat.le_of_ble_eq_true rfl)
  rw [lg_entry_eq]
  generalize (lg_sl ([.ref b]) ++ List.replicate (4 - (lg_sl ([.ref b])).length) Slot.unset).toArray = lsR at hl ⊢
  have eb : am_ad s.heap.size ro 2000000 = b := by unfold am_ad; rw [if_neg (by omega), r4]
  have hLV : am_LV (am_ad s.heap.size ro) (am_en [.ref 2000000] 4) lsR := am_en_LV (Nat.le_of_ble_eq_true rfl) (by
    show lv_has lsR 4 (lv_args 0 [Value.ref (am_ad s.heap.size ro 2000000)])
    rw [eb]; exact hl)
  have h := am_sound (L, xs') l s.heap.size ro ct (fun k => (q k).1, fun k => (q k).2) f 40 mL_law 0 _ [] _ _ M' hrun p e room_1 s m #[Value.ref b] below meth c s.heap [] (lw_Z below #[Value.ref b] s) lsR 0 hx hb (by rw [hml]; rfl) hown hWS (fun z => absurd z (by decide)) hK hRO rfl (Nat.le_refl _) (by show (0 : Nat) ≤ 1003; omega) (by show 41 ≤ 2048; omega) (by show 60 * 41 ≤ 84000; omega) (by show M'.1 - 0 ≤ 600000; omega) (by show am_sl M'.1 - am_sl 0 ≤ 7302250; have : am_sl 0 = 0 := rfl; omega) (fun k r hr => by simp [am_Wd] at hr) va_S.rf hLV ?_
  · exact h
  · intro pc' len i st' lsR' H' locs' hd hret hP' hS'
    unfold am_ret at hret
    split at hret <;> try (first | (cases hret; done) | skip)
    · split at hret
      · split at hret
        · cases hret
          refine va_forget hS'.2.2 (W.widen (k := 600000) (n := 7302250) (by omega) (by have : am_sl 0 = 0 := rfl; omega) ?_)
          exact lw_ret hx hb hr hlocks hd
        · cases hret
      · cases hret
